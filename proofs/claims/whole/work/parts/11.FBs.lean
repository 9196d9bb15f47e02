theorem d_FB_valueIn_0 : decode b_FB_valueIn 0 = .ok (.iload_n 1, 1) := by decide +kernel
theorem d_FB_valueIn_1 : decode b_FB_valueIn 1 = .ok (.ifCond .lt 15, 3) := by decide +kernel
theorem d_FB_valueIn_4 : decode b_FB_valueIn 4 = .ok (.iload_n 1, 1) := by decide +kernel
theorem d_FB_valueIn_5 : decode b_FB_valueIn 5 = .ok (.aload_n 0, 1) := by decide +kernel
theorem d_FB_valueIn_6 : decode b_FB_valueIn 6 = .ok (.arraylength, 1) := by decide +kernel
theorem d_FB_valueIn_7 : decode b_FB_valueIn 7 = .ok (.if_icmp .ge 9, 3) := by decide +kernel
theorem d_FB_valueIn_10 : decode b_FB_valueIn 10 = .ok (.aload_n 0, 1) := by decide +kernel
theorem d_FB_valueIn_11 : decode b_FB_valueIn 11 = .ok (.iload_n 1, 1) := by decide +kernel
theorem d_FB_valueIn_12 : decode b_FB_valueIn 12 = .ok (.iaload, 1) := by decide +kernel
theorem d_FB_valueIn_13 : decode b_FB_valueIn 13 = .ok (.goto 4, 3) := by decide +kernel
theorem d_FB_valueIn_16 : decode b_FB_valueIn 16 = .ok (.iconst 0, 1) := by decide +kernel
theorem d_FB_valueIn_17 : decode b_FB_valueIn 17 = .ok (.ireturn, 1) := by decide +kernel
def m_FB_valueIn (n_a0 : Nat) (f_a0 : Nat → Int32) (p1 : Int32) : Int32 :=
  if p1 < 0 then 0 else (if (nI n_a0) ≤ p1 then 0 else (f_a0 p1.toNatClampNeg))
set_option maxHeartbeats 4000000 in
set_option maxRecDepth 100000 in
theorem c_FB_valueIn (l : Launch) (D : va_G) (cB cI cJ : ClassId) (h_a0 : Nat) (n_a0 : Nat) (f_a0 : Nat → Int32) (p1 : Int32) (hn_a0 : n_a0 < 2147483648) (sz : Nat) : Ct l D cB cI cJ y_FB_valueIn b_FB_valueIn 2 (some .int) 0 0 0 0 [.ref h_a0, .int p1] [(h_a0, .inl (cI, n_a0, .inl f_a0))] (fun v w1 => ∃ (x : Int32), x = m_FB_valueIn n_a0 f_a0 p1 ∧ v = some (.int x) ∧ w1 = [(h_a0, .inl (cI, n_a0, .inl f_a0))]) sz := by
  refine Ct.of (by decide) (Nat.le_of_ble_eq_true rfl) ?_
  intro p e R s m args below meth c A ls Q hx hb hr hlk hml hta hown hin hK hN hA hRf hRl hRc hRs hP hD hS hl hQ
  have hl : lv_has ls 2 [(0, .ref h_a0), (1, .int p1)] := hl
  obtain ⟨RES, E0⟩ : ∃ R, m_FB_valueIn n_a0 f_a0 p1 = R := ⟨_, rfl⟩
  have E := E0
  refine lv_iload_n hx hb d_FB_valueIn_0 rfl (lv_at hl 1 rfl) ?_
  refine lv_if_lt (tgt := 16) hx hb d_FB_valueIn_1 (by decide) (fun c_1 => ?_) (fun c_1 => ?_)
  · have E := (if_pos c_1).symm.trans E
    refine lv_iconst (v := 0) hx hb d_FB_valueIn_16 (by decide) ?_
    exact kr_i hx hb hr hlk hQ hK hP hD hS ⟨(0 : Int32), E.trans E0.symm, rfl, rfl⟩ (by omega) (by omega) d_FB_valueIn_17
  · have E := (if_neg c_1).symm.trans E
    refine lv_iload_n hx hb d_FB_valueIn_4 rfl (lv_at hl 1 rfl) ?_
    refine lv_aload_n hx hb d_FB_valueIn_5 rfl (lv_at hl 0 rfl) ?_
    refine va_alen (v := nI n_a0) hx hb hK hP 0 1 rfl rfl rfl d_FB_valueIn_6 ?_
    refine lv_icmp_ge (tgt := 16) hx hb d_FB_valueIn_7 (by decide) (fun c_7 => ?_) (fun c_7 => ?_)
    · have E := (if_pos c_7).symm.trans E
      refine lv_iconst (v := 0) hx hb d_FB_valueIn_16 (by decide) ?_
      exact kr_i hx hb hr hlk hQ hK hP hD hS ⟨(0 : Int32), E.trans E0.symm, rfl, rfl⟩ (by omega) (by omega) d_FB_valueIn_17
    · have E := (if_neg c_7).symm.trans E
      refine lv_aload_n hx hb d_FB_valueIn_10 rfl (lv_at hl 0 rfl) ?_
      refine lv_iload_n hx hb d_FB_valueIn_11 rfl (lv_at hl 1 rfl) ?_
      refine va_iald hx hb hK hP 0 1 rfl rfl (vin_of c_1 c_7 hn_a0) d_FB_valueIn_12 ?_
      refine lv_goto (tgt := 17) hx hb d_FB_valueIn_13 (by decide) ?_
      exact kr_i hx hb hr hlk hQ hK hP hD hS ⟨(f_a0 p1.toNatClampNeg : Int32), E.trans E0.symm, rfl, rfl⟩ (by omega) (by omega) d_FB_valueIn_17
theorem d_FB_setIn_0 : decode b_FB_setIn 0 = .ok (.iload_n 1, 1) := by decide +kernel
theorem d_FB_setIn_1 : decode b_FB_setIn 1 = .ok (.ifCond .lt 13, 3) := by decide +kernel
theorem d_FB_setIn_4 : decode b_FB_setIn 4 = .ok (.iload_n 1, 1) := by decide +kernel
theorem d_FB_setIn_5 : decode b_FB_setIn 5 = .ok (.aload_n 0, 1) := by decide +kernel
theorem d_FB_setIn_6 : decode b_FB_setIn 6 = .ok (.arraylength, 1) := by decide +kernel
theorem d_FB_setIn_7 : decode b_FB_setIn 7 = .ok (.if_icmp .ge 7, 3) := by decide +kernel
theorem d_FB_setIn_10 : decode b_FB_setIn 10 = .ok (.aload_n 0, 1) := by decide +kernel
theorem d_FB_setIn_11 : decode b_FB_setIn 11 = .ok (.iload_n 1, 1) := by decide +kernel
theorem d_FB_setIn_12 : decode b_FB_setIn 12 = .ok (.iload_n 2, 1) := by decide +kernel
theorem d_FB_setIn_13 : decode b_FB_setIn 13 = .ok (.iastore, 1) := by decide +kernel
theorem d_FB_setIn_14 : decode b_FB_setIn 14 = .ok (.return_, 1) := by decide +kernel
def m_FB_setIn (n_a0 : Nat) (f_a0 : Nat → Int32) (p1 : Int32) (p2 : Int32) : (Nat → Int32) :=
  if p1 < 0 then f_a0 else (if (nI n_a0) ≤ p1 then f_a0 else (upd f_a0 p1.toNatClampNeg p2))
set_option maxHeartbeats 4000000 in
set_option maxRecDepth 100000 in
theorem c_FB_setIn (l : Launch) (D : va_G) (cB cI cJ : ClassId) (h_a0 : Nat) (n_a0 : Nat) (f_a0 : Nat → Int32) (p1 : Int32) (p2 : Int32) (hn_a0 : n_a0 < 2147483648) (sz : Nat) : Ct l D cB cI cJ y_FB_setIn b_FB_setIn 3 none 0 0 0 0 [.ref h_a0, .int p1, .int p2] [(h_a0, .inl (cI, n_a0, .inl f_a0))] (fun v w1 => ∃ (x : (Nat → Int32)), x = m_FB_setIn n_a0 f_a0 p1 p2 ∧ v = none ∧ w1 = [(h_a0, .inl (cI, n_a0, .inl x))]) sz := by
  refine Ct.of (by decide) (Nat.le_of_ble_eq_true rfl) ?_
  intro p e R s m args below meth c A ls Q hx hb hr hlk hml hta hown hin hK hN hA hRf hRl hRc hRs hP hD hS hl hQ
  have hl : lv_has ls 3 [(0, .ref h_a0), (1, .int p1), (2, .int p2)] := hl
  obtain ⟨RES, E0⟩ : ∃ R, m_FB_setIn n_a0 f_a0 p1 p2 = R := ⟨_, rfl⟩
  have E := E0
  refine lv_iload_n hx hb d_FB_setIn_0 rfl (lv_at hl 1 rfl) ?_
  refine lv_if_lt (tgt := 14) hx hb d_FB_setIn_1 (by decide) (fun c_1 => ?_) (fun c_1 => ?_)
  · have E := (if_pos c_1).symm.trans E
    exact kr_v hx hb hr hlk hQ hK hP hD hS ⟨(f_a0 : (Nat → Int32)), E.trans E0.symm, rfl, rfl⟩ (by omega) (by omega) d_FB_setIn_14
  · have E := (if_neg c_1).symm.trans E
    refine lv_iload_n hx hb d_FB_setIn_4 rfl (lv_at hl 1 rfl) ?_
    refine lv_aload_n hx hb d_FB_setIn_5 rfl (lv_at hl 0 rfl) ?_
    refine va_alen (v := nI n_a0) hx hb hK hP 0 1 rfl rfl rfl d_FB_setIn_6 ?_
    refine lv_icmp_ge (tgt := 14) hx hb d_FB_setIn_7 (by decide) (fun c_7 => ?_) (fun c_7 => ?_)
    · have E := (if_pos c_7).symm.trans E
      exact kr_v hx hb hr hlk hQ hK hP hD hS ⟨(f_a0 : (Nat → Int32)), E.trans E0.symm, rfl, rfl⟩ (by omega) (by omega) d_FB_setIn_14
    · have E := (if_neg c_7).symm.trans E
      refine lv_aload_n hx hb d_FB_setIn_10 rfl (lv_at hl 0 rfl) ?_
      refine lv_iload_n hx hb d_FB_setIn_11 rfl (lv_at hl 1 rfl) ?_
      refine lv_iload_n hx hb d_FB_setIn_12 rfl (lv_at hl 2 rfl) ?_
      refine va_iast hx hb hK hP hD hS 0 1 rfl rfl (vin_of c_1 c_7 hn_a0) d_FB_setIn_13 (fun H locs (hP : va_P D classes [(h_a0, .inl (cI, n_a0, .inl (upd f_a0 p1.toNatClampNeg p2)))] H) (hD : va_D A [(h_a0, .inl (cI, n_a0, .inl (upd f_a0 p1.toNatClampNeg p2)))]) hS => ?_)
      exact kr_v hx hb hr hlk hQ hK hP hD hS ⟨(upd f_a0 p1.toNatClampNeg p2 : (Nat → Int32)), E.trans E0.symm, rfl, rfl⟩ (by omega) (by omega) d_FB_setIn_14
theorem d_FB_isByte_0 : decode b_FB_isByte 0 = .ok (.iload_n 0, 1) := by decide +kernel
theorem d_FB_isByte_1 : decode b_FB_isByte 1 = .ok (.ifCond .lt 14, 3) := by decide +kernel
theorem d_FB_isByte_4 : decode b_FB_isByte 4 = .ok (.iload_n 0, 1) := by decide +kernel
theorem d_FB_isByte_5 : decode b_FB_isByte 5 = .ok (.sipush 255, 3) := by decide +kernel
theorem d_FB_isByte_8 : decode b_FB_isByte 8 = .ok (.if_icmp .gt 7, 3) := by decide +kernel
theorem d_FB_isByte_11 : decode b_FB_isByte 11 = .ok (.iconst 1, 1) := by decide +kernel
theorem d_FB_isByte_12 : decode b_FB_isByte 12 = .ok (.goto 4, 3) := by decide +kernel
theorem d_FB_isByte_15 : decode b_FB_isByte 15 = .ok (.iconst 0, 1) := by decide +kernel
theorem d_FB_isByte_16 : decode b_FB_isByte 16 = .ok (.ireturn, 1) := by decide +kernel
def m_FB_isByte (p0 : Int32) : Int32 :=
  if p0 < 0 then 0 else (if 255 < p0 then 0 else 1)
set_option maxHeartbeats 4000000 in
set_option maxRecDepth 100000 in
theorem c_FB_isByte (l : Launch) (D : va_G) (cB cI cJ : ClassId) (p0 : Int32) (sz : Nat) : Ct l D cB cI cJ y_FB_isByte b_FB_isByte 1 (some .boolean) 0 0 0 0 [.int p0] [] (fun v w1 => ∃ (x : Int32), x = m_FB_isByte p0 ∧ v = some (.int x) ∧ w1 = []) sz := by
  refine Ct.of (by decide) (Nat.le_of_ble_eq_true rfl) ?_
  intro p e R s m args below meth c A ls Q hx hb hr hlk hml hta hown hin hK hN hA hRf hRl hRc hRs hP hD hS hl hQ
  have hl : lv_has ls 1 [(0, .int p0)] := hl
  obtain ⟨RES, E0⟩ : ∃ R, m_FB_isByte p0 = R := ⟨_, rfl⟩
  have E := E0
  refine lv_iload_n hx hb d_FB_isByte_0 rfl (lv_at hl 0 rfl) ?_
  refine lv_if_lt (tgt := 15) hx hb d_FB_isByte_1 (by decide) (fun c_1 => ?_) (fun c_1 => ?_)
  · have E := (if_pos c_1).symm.trans E
    refine lv_iconst (v := 0) hx hb d_FB_isByte_15 (by decide) ?_
    exact kr_z hx hb hr hlk hQ hK hP hD hS ⟨(0 : Int32), E.trans E0.symm, rfl, rfl⟩ (by omega) (by omega) rfl d_FB_isByte_16
  · have E := (if_neg c_1).symm.trans E
    refine lv_iload_n hx hb d_FB_isByte_4 rfl (lv_at hl 0 rfl) ?_
    refine lv_sipush (v := 255) hx hb d_FB_isByte_5 (by decide) ?_
    refine lv_icmp_gt (tgt := 15) hx hb d_FB_isByte_8 (by decide) (fun c_8 => ?_) (fun c_8 => ?_)
    · have E := (if_pos c_8).symm.trans E
      refine lv_iconst (v := 0) hx hb d_FB_isByte_15 (by decide) ?_
      exact kr_z hx hb hr hlk hQ hK hP hD hS ⟨(0 : Int32), E.trans E0.symm, rfl, rfl⟩ (by omega) (by omega) rfl d_FB_isByte_16
    · have E := (if_neg c_8).symm.trans E
      refine lv_iconst (v := 1) hx hb d_FB_isByte_11 (by decide) ?_
      refine lv_goto (tgt := 16) hx hb d_FB_isByte_12 (by decide) ?_
      exact kr_z hx hb hr hlk hQ hK hP hD hS ⟨(1 : Int32), E.trans E0.symm, rfl, rfl⟩ (by omega) (by omega) rfl d_FB_isByte_16
theorem d_FB_areBits_0 : decode b_FB_areBits 0 = .ok (.iload_n 0, 1) := by decide +kernel
theorem d_FB_areBits_1 : decode b_FB_areBits 1 = .ok (.sipush (-129), 3) := by decide +kernel
theorem d_FB_areBits_4 : decode b_FB_areBits 4 = .ok (.iand, 1) := by decide +kernel
theorem d_FB_areBits_5 : decode b_FB_areBits 5 = .ok (.istore_n 1, 1) := by decide +kernel
theorem d_FB_areBits_6 : decode b_FB_areBits 6 = .ok (.iload_n 1, 1) := by decide +kernel
theorem d_FB_areBits_7 : decode b_FB_areBits 7 = .ok (.ifCond .lt 13, 3) := by decide +kernel
theorem d_FB_areBits_10 : decode b_FB_areBits 10 = .ok (.iload_n 1, 1) := by decide +kernel
theorem d_FB_areBits_11 : decode b_FB_areBits 11 = .ok (.bipush 37, 2) := by decide +kernel
theorem d_FB_areBits_13 : decode b_FB_areBits 13 = .ok (.if_icmp .gt 7, 3) := by decide +kernel
theorem d_FB_areBits_16 : decode b_FB_areBits 16 = .ok (.iconst 1, 1) := by decide +kernel
theorem d_FB_areBits_17 : decode b_FB_areBits 17 = .ok (.goto 4, 3) := by decide +kernel
theorem d_FB_areBits_20 : decode b_FB_areBits 20 = .ok (.iconst 0, 1) := by decide +kernel
theorem d_FB_areBits_21 : decode b_FB_areBits 21 = .ok (.ireturn, 1) := by decide +kernel
def m_FB_areBits (p0 : Int32) : Int32 :=
  if (p0 &&& (-129)) < 0 then 0 else (if 37 < (p0 &&& (-129)) then 0 else 1)
set_option maxHeartbeats 4000000 in
set_option maxRecDepth 100000 in
theorem c_FB_areBits (l : Launch) (D : va_G) (cB cI cJ : ClassId) (p0 : Int32) (sz : Nat) : Ct l D cB cI cJ y_FB_areBits b_FB_areBits 2 (some .boolean) 0 0 0 0 [.int p0] [] (fun v w1 => ∃ (x : Int32), x = m_FB_areBits p0 ∧ v = some (.int x) ∧ w1 = []) sz := by
  refine Ct.of (by decide) (Nat.le_of_ble_eq_true rfl) ?_
  intro p e R s m args below meth c A ls Q hx hb hr hlk hml hta hown hin hK hN hA hRf hRl hRc hRs hP hD hS hl hQ
  have hl : lv_has ls 2 [(0, .int p0)] := hl
  obtain ⟨RES, E0⟩ : ∃ R, m_FB_areBits p0 = R := ⟨_, rfl⟩
  have E := E0
  refine lv_iload_n hx hb d_FB_areBits_0 rfl (lv_at hl 0 rfl) ?_
  refine lv_sipush (v := (-129)) hx hb d_FB_areBits_1 (by decide) ?_
  refine lv_iand hx hb d_FB_areBits_4 ?_
  refine lv_istore_n (lv' := [(1, .int (p0 &&& (-129))), (0, .int p0)]) hx hb d_FB_areBits_5 rfl hl (by decide) rfl (fun ls hl => ?_)
  refine lv_iload_n hx hb d_FB_areBits_6 rfl (lv_at hl 0 rfl) ?_
  refine lv_if_lt (tgt := 20) hx hb d_FB_areBits_7 (by decide) (fun c_7 => ?_) (fun c_7 => ?_)
  · have E := (if_pos c_7).symm.trans E
    refine lv_iconst (v := 0) hx hb d_FB_areBits_20 (by decide) ?_
    exact kr_z hx hb hr hlk hQ hK hP hD hS ⟨(0 : Int32), E.trans E0.symm, rfl, rfl⟩ (by omega) (by omega) rfl d_FB_areBits_21
  · have E := (if_neg c_7).symm.trans E
    refine lv_iload_n hx hb d_FB_areBits_10 rfl (lv_at hl 0 rfl) ?_
    refine lv_bipush (v := 37) hx hb d_FB_areBits_11 (by decide) ?_
    refine lv_icmp_gt (tgt := 20) hx hb d_FB_areBits_13 (by decide) (fun c_13 => ?_) (fun c_13 => ?_)
    · have E := (if_pos c_13).symm.trans E
      refine lv_iconst (v := 0) hx hb d_FB_areBits_20 (by decide) ?_
      exact kr_z hx hb hr hlk hQ hK hP hD hS ⟨(0 : Int32), E.trans E0.symm, rfl, rfl⟩ (by omega) (by omega) rfl d_FB_areBits_21
    · have E := (if_neg c_13).symm.trans E
      refine lv_iconst (v := 1) hx hb d_FB_areBits_16 (by decide) ?_
      refine lv_goto (tgt := 21) hx hb d_FB_areBits_17 (by decide) ?_
      exact kr_z hx hb hr hlk hQ hK hP hD hS ⟨(1 : Int32), E.trans E0.symm, rfl, rfl⟩ (by omega) (by omega) rfl d_FB_areBits_21
theorem d_FB_areColours_0 : decode b_FB_areColours 0 = .ok (.iload_n 0, 1) := by decide +kernel
theorem d_FB_areColours_1 : decode b_FB_areColours 1 = .ok (.bipush 16, 2) := by decide +kernel
theorem d_FB_areColours_3 : decode b_FB_areColours 3 = .ok (.if_icmp .lt 13, 3) := by decide +kernel
theorem d_FB_areColours_6 : decode b_FB_areColours 6 = .ok (.iload_n 0, 1) := by decide +kernel
theorem d_FB_areColours_7 : decode b_FB_areColours 7 = .ok (.bipush 18, 2) := by decide +kernel
theorem d_FB_areColours_9 : decode b_FB_areColours 9 = .ok (.if_icmp .gt 7, 3) := by decide +kernel
theorem d_FB_areColours_12 : decode b_FB_areColours 12 = .ok (.iconst 1, 1) := by decide +kernel
theorem d_FB_areColours_13 : decode b_FB_areColours 13 = .ok (.goto 4, 3) := by decide +kernel
theorem d_FB_areColours_16 : decode b_FB_areColours 16 = .ok (.iconst 0, 1) := by decide +kernel
theorem d_FB_areColours_17 : decode b_FB_areColours 17 = .ok (.ireturn, 1) := by decide +kernel
def m_FB_areColours (p0 : Int32) : Int32 :=
  if p0 < 16 then 0 else (if 18 < p0 then 0 else 1)
set_option maxHeartbeats 4000000 in
set_option maxRecDepth 100000 in
theorem c_FB_areColours (l : Launch) (D : va_G) (cB cI cJ : ClassId) (p0 : Int32) (sz : Nat) : Ct l D cB cI cJ y_FB_areColours b_FB_areColours 1 (some .boolean) 0 0 0 0 [.int p0] [] (fun v w1 => ∃ (x : Int32), x = m_FB_areColours p0 ∧ v = some (.int x) ∧ w1 = []) sz := by
  refine Ct.of (by decide) (Nat.le_of_ble_eq_true rfl) ?_
  intro p e R s m args below meth c A ls Q hx hb hr hlk hml hta hown hin hK hN hA hRf hRl hRc hRs hP hD hS hl hQ
  have hl : lv_has ls 1 [(0, .int p0)] := hl
  obtain ⟨RES, E0⟩ : ∃ R, m_FB_areColours p0 = R := ⟨_, rfl⟩
  have E := E0
  refine lv_iload_n hx hb d_FB_areColours_0 rfl (lv_at hl 0 rfl) ?_
  refine lv_bipush (v := 16) hx hb d_FB_areColours_1 (by decide) ?_
  refine lv_icmp_lt (tgt := 16) hx hb d_FB_areColours_3 (by decide) (fun c_3 => ?_) (fun c_3 => ?_)
  · have E := (if_pos c_3).symm.trans E
    refine lv_iconst (v := 0) hx hb d_FB_areColours_16 (by decide) ?_
    exact kr_z hx hb hr hlk hQ hK hP hD hS ⟨(0 : Int32), E.trans E0.symm, rfl, rfl⟩ (by omega) (by omega) rfl d_FB_areColours_17
  · have E := (if_neg c_3).symm.trans E
    refine lv_iload_n hx hb d_FB_areColours_6 rfl (lv_at hl 0 rfl) ?_
    refine lv_bipush (v := 18) hx hb d_FB_areColours_7 (by decide) ?_
    refine lv_icmp_gt (tgt := 16) hx hb d_FB_areColours_9 (by decide) (fun c_9 => ?_) (fun c_9 => ?_)
    · have E := (if_pos c_9).symm.trans E
      refine lv_iconst (v := 0) hx hb d_FB_areColours_16 (by decide) ?_
      exact kr_z hx hb hr hlk hQ hK hP hD hS ⟨(0 : Int32), E.trans E0.symm, rfl, rfl⟩ (by omega) (by omega) rfl d_FB_areColours_17
    · have E := (if_neg c_9).symm.trans E
      refine lv_iconst (v := 1) hx hb d_FB_areColours_12 (by decide) ?_
      refine lv_goto (tgt := 17) hx hb d_FB_areColours_13 (by decide) ?_
      exact kr_z hx hb hr hlk hQ hK hP hD hS ⟨(1 : Int32), E.trans E0.symm, rfl, rfl⟩ (by omega) (by omega) rfl d_FB_areColours_17
theorem d_FB_isWay_0 : decode b_FB_isWay 0 = .ok (.iload_n 0, 1) := by decide +kernel
theorem d_FB_isWay_1 : decode b_FB_isWay 1 = .ok (.ifCond .ne 15, 3) := by decide +kernel
theorem d_FB_isWay_4 : decode b_FB_isWay 4 = .ok (.iload_n 1, 1) := by decide +kernel
theorem d_FB_isWay_5 : decode b_FB_isWay 5 = .ok (.ifCond .ne 7, 3) := by decide +kernel
theorem d_FB_isWay_8 : decode b_FB_isWay 8 = .ok (.iconst 1, 1) := by decide +kernel
theorem d_FB_isWay_9 : decode b_FB_isWay 9 = .ok (.goto 26, 3) := by decide +kernel
theorem d_FB_isWay_12 : decode b_FB_isWay 12 = .ok (.iconst 0, 1) := by decide +kernel
theorem d_FB_isWay_13 : decode b_FB_isWay 13 = .ok (.goto 22, 3) := by decide +kernel
theorem d_FB_isWay_16 : decode b_FB_isWay 16 = .ok (.iload_n 0, 1) := by decide +kernel
theorem d_FB_isWay_17 : decode b_FB_isWay 17 = .ok (.iconst 1, 1) := by decide +kernel
theorem d_FB_isWay_18 : decode b_FB_isWay 18 = .ok (.if_icmp .ne 16, 3) := by decide +kernel
theorem d_FB_isWay_21 : decode b_FB_isWay 21 = .ok (.iload_n 1, 1) := by decide +kernel
theorem d_FB_isWay_22 : decode b_FB_isWay 22 = .ok (.ifCond .lt 12, 3) := by decide +kernel
theorem d_FB_isWay_25 : decode b_FB_isWay 25 = .ok (.iload_n 1, 1) := by decide +kernel
theorem d_FB_isWay_26 : decode b_FB_isWay 26 = .ok (.iload_n 2, 1) := by decide +kernel
theorem d_FB_isWay_27 : decode b_FB_isWay 27 = .ok (.if_icmp .ge 7, 3) := by decide +kernel
theorem d_FB_isWay_30 : decode b_FB_isWay 30 = .ok (.iconst 1, 1) := by decide +kernel
theorem d_FB_isWay_31 : decode b_FB_isWay 31 = .ok (.goto 4, 3) := by decide +kernel
theorem d_FB_isWay_34 : decode b_FB_isWay 34 = .ok (.iconst 0, 1) := by decide +kernel
theorem d_FB_isWay_35 : decode b_FB_isWay 35 = .ok (.ireturn, 1) := by decide +kernel
def m_FB_isWay (p0 : Int32) (p1 : Int32) (p2 : Int32) : Int32 :=
  if p0 = 0 then (if p1 = 0 then 1 else 0) else (if p0 = 1 then (if p1 < 0 then 0 else (if p2 ≤ p1 then 0 else 1)) else 0)
set_option maxHeartbeats 4000000 in
set_option maxRecDepth 100000 in
theorem c_FB_isWay (l : Launch) (D : va_G) (cB cI cJ : ClassId) (p0 : Int32) (p1 : Int32) (p2 : Int32) (sz : Nat) : Ct l D cB cI cJ y_FB_isWay b_FB_isWay 3 (some .boolean) 0 0 0 0 [.int p0, .int p1, .int p2] [] (fun v w1 => ∃ (x : Int32), x = m_FB_isWay p0 p1 p2 ∧ v = some (.int x) ∧ w1 = []) sz := by
  refine Ct.of (by decide) (Nat.le_of_ble_eq_true rfl) ?_
  intro p e R s m args below meth c A ls Q hx hb hr hlk hml hta hown hin hK hN hA hRf hRl hRc hRs hP hD hS hl hQ
  have hl : lv_has ls 3 [(0, .int p0), (1, .int p1), (2, .int p2)] := hl
  obtain ⟨RES, E0⟩ : ∃ R, m_FB_isWay p0 p1 p2 = R := ⟨_, rfl⟩
  have E := E0
  refine lv_iload_n hx hb d_FB_isWay_0 rfl (lv_at hl 0 rfl) ?_
  refine lv_if_ne (tgt := 16) hx hb d_FB_isWay_1 (by decide) (fun c_1 => ?_) (fun c_1 => ?_)
  · have E := (if_neg c_1).symm.trans E
    refine lv_iload_n hx hb d_FB_isWay_16 rfl (lv_at hl 0 rfl) ?_
    refine lv_iconst (v := 1) hx hb d_FB_isWay_17 (by decide) ?_
    refine lv_icmp_ne (tgt := 34) hx hb d_FB_isWay_18 (by decide) (fun c_18 => ?_) (fun c_18 => ?_)
    · have E := (if_neg c_18).symm.trans E
      refine lv_iconst (v := 0) hx hb d_FB_isWay_34 (by decide) ?_
      exact kr_z hx hb hr hlk hQ hK hP hD hS ⟨(0 : Int32), E.trans E0.symm, rfl, rfl⟩ (by omega) (by omega) rfl d_FB_isWay_35
    · have E := (if_pos c_18).symm.trans E
      refine lv_iload_n hx hb d_FB_isWay_21 rfl (lv_at hl 1 rfl) ?_
      refine lv_if_lt (tgt := 34) hx hb d_FB_isWay_22 (by decide) (fun c_22 => ?_) (fun c_22 => ?_)
      · have E := (if_pos c_22).symm.trans E
        refine lv_iconst (v := 0) hx hb d_FB_isWay_34 (by decide) ?_
        exact kr_z hx hb hr hlk hQ hK hP hD hS ⟨(0 : Int32), E.trans E0.symm, rfl, rfl⟩ (by omega) (by omega) rfl d_FB_isWay_35
      · have E := (if_neg c_22).symm.trans E
        refine lv_iload_n hx hb d_FB_isWay_25 rfl (lv_at hl 1 rfl) ?_
        refine lv_iload_n hx hb d_FB_isWay_26 rfl (lv_at hl 2 rfl) ?_
        refine lv_icmp_ge (tgt := 34) hx hb d_FB_isWay_27 (by decide) (fun c_27 => ?_) (fun c_27 => ?_)
        · have E := (if_pos c_27).symm.trans E
          refine lv_iconst (v := 0) hx hb d_FB_isWay_34 (by decide) ?_
          exact kr_z hx hb hr hlk hQ hK hP hD hS ⟨(0 : Int32), E.trans E0.symm, rfl, rfl⟩ (by omega) (by omega) rfl d_FB_isWay_35
        · have E := (if_neg c_27).symm.trans E
          refine lv_iconst (v := 1) hx hb d_FB_isWay_30 (by decide) ?_
          refine lv_goto (tgt := 35) hx hb d_FB_isWay_31 (by decide) ?_
          exact kr_z hx hb hr hlk hQ hK hP hD hS ⟨(1 : Int32), E.trans E0.symm, rfl, rfl⟩ (by omega) (by omega) rfl d_FB_isWay_35
  · have E := (if_pos c_1).symm.trans E
    refine lv_iload_n hx hb d_FB_isWay_4 rfl (lv_at hl 1 rfl) ?_
    refine lv_if_ne (tgt := 12) hx hb d_FB_isWay_5 (by decide) (fun c_5 => ?_) (fun c_5 => ?_)
    · have E := (if_neg c_5).symm.trans E
      refine lv_iconst (v := 0) hx hb d_FB_isWay_12 (by decide) ?_
      refine lv_goto (tgt := 35) hx hb d_FB_isWay_13 (by decide) ?_
      exact kr_z hx hb hr hlk hQ hK hP hD hS ⟨(0 : Int32), E.trans E0.symm, rfl, rfl⟩ (by omega) (by omega) rfl d_FB_isWay_35
    · have E := (if_pos c_5).symm.trans E
      refine lv_iconst (v := 1) hx hb d_FB_isWay_8 (by decide) ?_
      refine lv_goto (tgt := 35) hx hb d_FB_isWay_9 (by decide) ?_
      exact kr_z hx hb hr hlk hQ hK hP hD hS ⟨(1 : Int32), E.trans E0.symm, rfl, rfl⟩ (by omega) (by omega) rfl d_FB_isWay_35
theorem d_FB_isType_0 : decode b_FB_isType 0 = .ok (.iload_n 0, 1) := by decide +kernel
theorem d_FB_isType_1 : decode b_FB_isType 1 = .ok (.ifCond .lt 8, 3) := by decide +kernel
theorem d_FB_isType_4 : decode b_FB_isType 4 = .ok (.iload_n 0, 1) := by decide +kernel
theorem d_FB_isType_5 : decode b_FB_isType 5 = .ok (.iconst 2, 1) := by decide +kernel
theorem d_FB_isType_6 : decode b_FB_isType 6 = .ok (.if_icmp .le 9, 3) := by decide +kernel
theorem d_FB_isType_9 : decode b_FB_isType 9 = .ok (.iload_n 0, 1) := by decide +kernel
theorem d_FB_isType_10 : decode b_FB_isType 10 = .ok (.ldc 211, 2) := by decide +kernel
theorem d_FB_isType_12 : decode b_FB_isType 12 = .ok (.if_icmp .ne 7, 3) := by decide +kernel
theorem d_FB_isType_15 : decode b_FB_isType 15 = .ok (.iconst 1, 1) := by decide +kernel
theorem d_FB_isType_16 : decode b_FB_isType 16 = .ok (.goto 4, 3) := by decide +kernel
theorem d_FB_isType_19 : decode b_FB_isType 19 = .ok (.iconst 0, 1) := by decide +kernel
theorem d_FB_isType_20 : decode b_FB_isType 20 = .ok (.ireturn, 1) := by decide +kernel
def j_FB_isType_9 (p0 : Int32) : Int32 :=
  if p0 = 65535 then 1 else 0
def m_FB_isType (p0 : Int32) : Int32 :=
  if p0 < 0 then (j_FB_isType_9 p0) else (if p0 ≤ 2 then 1 else (j_FB_isType_9 p0))
set_option maxHeartbeats 4000000 in
set_option maxRecDepth 100000 in
theorem c_FB_isType (l : Launch) (D : va_G) (cB cI cJ : ClassId) (p0 : Int32) (sz : Nat) : Ct l D cB cI cJ y_FB_isType b_FB_isType 1 (some .boolean) 0 0 0 0 [.int p0] [] (fun v w1 => ∃ (x : Int32), x = m_FB_isType p0 ∧ v = some (.int x) ∧ w1 = []) sz := by
  refine Ct.of (by decide) (Nat.le_of_ble_eq_true rfl) ?_
  intro p e R s m args below meth c A ls Q hx hb hr hlk hml hta hown hin hK hN hA hRf hRl hRc hRs hP hD hS hl hQ
  have hl : lv_has ls 1 [(0, .int p0)] := hl
  obtain ⟨RES, E0⟩ : ∃ R, m_FB_isType p0 = R := ⟨_, rfl⟩
  have E := E0
  refine lv_iload_n hx hb d_FB_isType_0 rfl (lv_at hl 0 rfl) ?_
  have J_9 : j_FB_isType_9 p0 = RES → ∀ (H : Heap) (locs : List Loc), va_P D classes [] H → va_D A [] → va_S A s.heap H locs → ∀ ls : Array Slot, lv_has ls 1 [(0, .int p0)] → W p l e R s m args below meth c H locs 0 0 Q (F0 m 9 ls []) := by
    intro E H locs hP hD hS ls hl
    refine lv_iload_n hx hb d_FB_isType_9 rfl (lv_at hl 0 rfl) ?_
    refine lv_ldc (v := 65535) hx hb hown (hta _ lk_FB_211) d_FB_isType_10 ?_
    refine lv_icmp_ne (tgt := 19) hx hb d_FB_isType_12 (by decide) (fun c_12 => ?_) (fun c_12 => ?_)
    · have E := (if_neg c_12).symm.trans E
      refine lv_iconst (v := 0) hx hb d_FB_isType_19 (by decide) ?_
      exact kr_z hx hb hr hlk hQ hK hP hD hS ⟨(0 : Int32), E.trans E0.symm, rfl, rfl⟩ (by omega) (by omega) rfl d_FB_isType_20
    · have E := (if_pos c_12).symm.trans E
      refine lv_iconst (v := 1) hx hb d_FB_isType_15 (by decide) ?_
      refine lv_goto (tgt := 20) hx hb d_FB_isType_16 (by decide) ?_
      exact kr_z hx hb hr hlk hQ hK hP hD hS ⟨(1 : Int32), E.trans E0.symm, rfl, rfl⟩ (by omega) (by omega) rfl d_FB_isType_20
  refine lv_if_lt (tgt := 9) hx hb d_FB_isType_1 (by decide) (fun c_1 => ?_) (fun c_1 => ?_)
  · have E := (if_pos c_1).symm.trans E
    exact J_9  E _ _ hP hD hS ls (lv_sub hl [0] rfl)
  · have E := (if_neg c_1).symm.trans E
    refine lv_iload_n hx hb d_FB_isType_4 rfl (lv_at hl 0 rfl) ?_
    refine lv_iconst (v := 2) hx hb d_FB_isType_5 (by decide) ?_
    refine lv_icmp_le (tgt := 15) hx hb d_FB_isType_6 (by decide) (fun c_6 => ?_) (fun c_6 => ?_)
    · have E := (if_pos c_6).symm.trans E
      refine lv_iconst (v := 1) hx hb d_FB_isType_15 (by decide) ?_
      refine lv_goto (tgt := 20) hx hb d_FB_isType_16 (by decide) ?_
      exact kr_z hx hb hr hlk hQ hK hP hD hS ⟨(1 : Int32), E.trans E0.symm, rfl, rfl⟩ (by omega) (by omega) rfl d_FB_isType_20
    · have E := (if_neg c_6).symm.trans E
      exact J_9  E _ _ hP hD hS ls (lv_sub hl [0] rfl)
theorem d_FB_isRatioPart_0 : decode b_FB_isRatioPart 0 = .ok (.iload_n 0, 1) := by decide +kernel
theorem d_FB_isRatioPart_1 : decode b_FB_isRatioPart 1 = .ok (.iconst 1, 1) := by decide +kernel
theorem d_FB_isRatioPart_2 : decode b_FB_isRatioPart 2 = .ok (.if_icmp .lt 13, 3) := by decide +kernel
theorem d_FB_isRatioPart_5 : decode b_FB_isRatioPart 5 = .ok (.iload_n 0, 1) := by decide +kernel
theorem d_FB_isRatioPart_6 : decode b_FB_isRatioPart 6 = .ok (.ldc 211, 2) := by decide +kernel
theorem d_FB_isRatioPart_8 : decode b_FB_isRatioPart 8 = .ok (.if_icmp .gt 7, 3) := by decide +kernel
theorem d_FB_isRatioPart_11 : decode b_FB_isRatioPart 11 = .ok (.iconst 1, 1) := by decide +kernel
theorem d_FB_isRatioPart_12 : decode b_FB_isRatioPart 12 = .ok (.goto 4, 3) := by decide +kernel
theorem d_FB_isRatioPart_15 : decode b_FB_isRatioPart 15 = .ok (.iconst 0, 1) := by decide +kernel
theorem d_FB_isRatioPart_16 : decode b_FB_isRatioPart 16 = .ok (.ireturn, 1) := by decide +kernel
def m_FB_isRatioPart (p0 : Int32) : Int32 :=
  if p0 < 1 then 0 else (if 65535 < p0 then 0 else 1)
set_option maxHeartbeats 4000000 in
set_option maxRecDepth 100000 in
theorem c_FB_isRatioPart (l : Launch) (D : va_G) (cB cI cJ : ClassId) (p0 : Int32) (sz : Nat) : Ct l D cB cI cJ y_FB_isRatioPart b_FB_isRatioPart 1 (some .boolean) 0 0 0 0 [.int p0] [] (fun v w1 => ∃ (x : Int32), x = m_FB_isRatioPart p0 ∧ v = some (.int x) ∧ w1 = []) sz := by
  refine Ct.of (by decide) (Nat.le_of_ble_eq_true rfl) ?_
  intro p e R s m args below meth c A ls Q hx hb hr hlk hml hta hown hin hK hN hA hRf hRl hRc hRs hP hD hS hl hQ
  have hl : lv_has ls 1 [(0, .int p0)] := hl
  obtain ⟨RES, E0⟩ : ∃ R, m_FB_isRatioPart p0 = R := ⟨_, rfl⟩
  have E := E0
  refine lv_iload_n hx hb d_FB_isRatioPart_0 rfl (lv_at hl 0 rfl) ?_
  refine lv_iconst (v := 1) hx hb d_FB_isRatioPart_1 (by decide) ?_
  refine lv_icmp_lt (tgt := 15) hx hb d_FB_isRatioPart_2 (by decide) (fun c_2 => ?_) (fun c_2 => ?_)
  · have E := (if_pos c_2).symm.trans E
    refine lv_iconst (v := 0) hx hb d_FB_isRatioPart_15 (by decide) ?_
    exact kr_z hx hb hr hlk hQ hK hP hD hS ⟨(0 : Int32), E.trans E0.symm, rfl, rfl⟩ (by omega) (by omega) rfl d_FB_isRatioPart_16
  · have E := (if_neg c_2).symm.trans E
    refine lv_iload_n hx hb d_FB_isRatioPart_5 rfl (lv_at hl 0 rfl) ?_
    refine lv_ldc (v := 65535) hx hb hown (hta _ lk_FB_211) d_FB_isRatioPart_6 ?_
    refine lv_icmp_gt (tgt := 15) hx hb d_FB_isRatioPart_8 (by decide) (fun c_8 => ?_) (fun c_8 => ?_)
    · have E := (if_pos c_8).symm.trans E
      refine lv_iconst (v := 0) hx hb d_FB_isRatioPart_15 (by decide) ?_
      exact kr_z hx hb hr hlk hQ hK hP hD hS ⟨(0 : Int32), E.trans E0.symm, rfl, rfl⟩ (by omega) (by omega) rfl d_FB_isRatioPart_16
    · have E := (if_neg c_8).symm.trans E
      refine lv_iconst (v := 1) hx hb d_FB_isRatioPart_11 (by decide) ?_
      refine lv_goto (tgt := 16) hx hb d_FB_isRatioPart_12 (by decide) ?_
      exact kr_z hx hb hr hlk hQ hK hP hD hS ⟨(1 : Int32), E.trans E0.symm, rfl, rfl⟩ (by omega) (by omega) rfl d_FB_isRatioPart_16
theorem d_FB_isPower_0 : decode b_FB_isPower 0 = .ok (.iload_n 0, 1) := by decide +kernel
theorem d_FB_isPower_1 : decode b_FB_isPower 1 = .ok (.bipush (-128), 2) := by decide +kernel
theorem d_FB_isPower_3 : decode b_FB_isPower 3 = .ok (.if_icmp .lt 13, 3) := by decide +kernel
theorem d_FB_isPower_6 : decode b_FB_isPower 6 = .ok (.iload_n 0, 1) := by decide +kernel
theorem d_FB_isPower_7 : decode b_FB_isPower 7 = .ok (.bipush 127, 2) := by decide +kernel
theorem d_FB_isPower_9 : decode b_FB_isPower 9 = .ok (.if_icmp .gt 7, 3) := by decide +kernel
theorem d_FB_isPower_12 : decode b_FB_isPower 12 = .ok (.iconst 1, 1) := by decide +kernel
theorem d_FB_isPower_13 : decode b_FB_isPower 13 = .ok (.goto 4, 3) := by decide +kernel
theorem d_FB_isPower_16 : decode b_FB_isPower 16 = .ok (.iconst 0, 1) := by decide +kernel
theorem d_FB_isPower_17 : decode b_FB_isPower 17 = .ok (.ireturn, 1) := by decide +kernel
def m_FB_isPower (p0 : Int32) : Int32 :=
  if p0 < (-128) then 0 else (if 127 < p0 then 0 else 1)
set_option maxHeartbeats 4000000 in
set_option maxRecDepth 100000 in
theorem c_FB_isPower (l : Launch) (D : va_G) (cB cI cJ : ClassId) (p0 : Int32) (sz : Nat) : Ct l D cB cI cJ y_FB_isPower b_FB_isPower 1 (some .boolean) 0 0 0 0 [.int p0] [] (fun v w1 => ∃ (x : Int32), x = m_FB_isPower p0 ∧ v = some (.int x) ∧ w1 = []) sz := by
  refine Ct.of (by decide) (Nat.le_of_ble_eq_true rfl) ?_
  intro p e R s m args below meth c A ls Q hx hb hr hlk hml hta hown hin hK hN hA hRf hRl hRc hRs hP hD hS hl hQ
  have hl : lv_has ls 1 [(0, .int p0)] := hl
  obtain ⟨RES, E0⟩ : ∃ R, m_FB_isPower p0 = R := ⟨_, rfl⟩
  have E := E0
  refine lv_iload_n hx hb d_FB_isPower_0 rfl (lv_at hl 0 rfl) ?_
  refine lv_bipush (v := (-128)) hx hb d_FB_isPower_1 (by decide) ?_
  refine lv_icmp_lt (tgt := 16) hx hb d_FB_isPower_3 (by decide) (fun c_3 => ?_) (fun c_3 => ?_)
  · have E := (if_pos c_3).symm.trans E
    refine lv_iconst (v := 0) hx hb d_FB_isPower_16 (by decide) ?_
    exact kr_z hx hb hr hlk hQ hK hP hD hS ⟨(0 : Int32), E.trans E0.symm, rfl, rfl⟩ (by omega) (by omega) rfl d_FB_isPower_17
  · have E := (if_neg c_3).symm.trans E
    refine lv_iload_n hx hb d_FB_isPower_6 rfl (lv_at hl 0 rfl) ?_
    refine lv_bipush (v := 127) hx hb d_FB_isPower_7 (by decide) ?_
    refine lv_icmp_gt (tgt := 16) hx hb d_FB_isPower_9 (by decide) (fun c_9 => ?_) (fun c_9 => ?_)
    · have E := (if_pos c_9).symm.trans E
      refine lv_iconst (v := 0) hx hb d_FB_isPower_16 (by decide) ?_
      exact kr_z hx hb hr hlk hQ hK hP hD hS ⟨(0 : Int32), E.trans E0.symm, rfl, rfl⟩ (by omega) (by omega) rfl d_FB_isPower_17
    · have E := (if_neg c_9).symm.trans E
      refine lv_iconst (v := 1) hx hb d_FB_isPower_12 (by decide) ?_
      refine lv_goto (tgt := 17) hx hb d_FB_isPower_13 (by decide) ?_
      exact kr_z hx hb hr hlk hQ hK hP hD hS ⟨(1 : Int32), E.trans E0.symm, rfl, rfl⟩ (by omega) (by omega) rfl d_FB_isPower_17
theorem d_FB_bitCount_0 : decode b_FB_bitCount 0 = .ok (.iload_n 0, 1) := by decide +kernel
theorem d_FB_bitCount_1 : decode b_FB_bitCount 1 = .ok (.sipush (-129), 3) := by decide +kernel
theorem d_FB_bitCount_4 : decode b_FB_bitCount 4 = .ok (.iand, 1) := by decide +kernel
theorem d_FB_bitCount_5 : decode b_FB_bitCount 5 = .ok (.iconst 1, 1) := by decide +kernel
theorem d_FB_bitCount_6 : decode b_FB_bitCount 6 = .ok (.iadd, 1) := by decide +kernel
theorem d_FB_bitCount_7 : decode b_FB_bitCount 7 = .ok (.ireturn, 1) := by decide +kernel
def m_FB_bitCount (p0 : Int32) : Int32 :=
  (p0 &&& (-129)) + 1
set_option maxHeartbeats 4000000 in
set_option maxRecDepth 100000 in
theorem c_FB_bitCount (l : Launch) (D : va_G) (cB cI cJ : ClassId) (p0 : Int32) (sz : Nat) : Ct l D cB cI cJ y_FB_bitCount b_FB_bitCount 1 (some .int) 0 0 0 0 [.int p0] [] (fun v w1 => ∃ (x : Int32), x = m_FB_bitCount p0 ∧ v = some (.int x) ∧ w1 = []) sz := by
  refine Ct.of (by decide) (Nat.le_of_ble_eq_true rfl) ?_
  intro p e R s m args below meth c A ls Q hx hb hr hlk hml hta hown hin hK hN hA hRf hRl hRc hRs hP hD hS hl hQ
  have hl : lv_has ls 1 [(0, .int p0)] := hl
  obtain ⟨RES, E0⟩ : ∃ R, m_FB_bitCount p0 = R := ⟨_, rfl⟩
  have E := E0
  refine lv_iload_n hx hb d_FB_bitCount_0 rfl (lv_at hl 0 rfl) ?_
  refine lv_sipush (v := (-129)) hx hb d_FB_bitCount_1 (by decide) ?_
  refine lv_iand hx hb d_FB_bitCount_4 ?_
  refine lv_iconst (v := 1) hx hb d_FB_bitCount_5 (by decide) ?_
  refine lv_iadd hx hb d_FB_bitCount_6 ?_
  exact kr_i hx hb hr hlk hQ hK hP hD hS ⟨((p0 &&& (-129)) + 1 : Int32), E.trans E0.symm, rfl, rfl⟩ (by omega) (by omega) d_FB_bitCount_7
theorem d_FB_bytesFor_0 : decode b_FB_bytesFor 0 = .ok (.iload_n 0, 1) := by decide +kernel
theorem d_FB_bytesFor_1 : decode b_FB_bytesFor 1 = .ok (.invokestatic 315, 3) := by decide +kernel
theorem d_FB_bytesFor_4 : decode b_FB_bytesFor 4 = .ok (.bipush 7, 2) := by decide +kernel
theorem d_FB_bytesFor_6 : decode b_FB_bytesFor 6 = .ok (.iadd, 1) := by decide +kernel
theorem d_FB_bytesFor_7 : decode b_FB_bytesFor 7 = .ok (.bipush 8, 2) := by decide +kernel
theorem d_FB_bytesFor_9 : decode b_FB_bytesFor 9 = .ok (.idiv, 1) := by decide +kernel
theorem d_FB_bytesFor_10 : decode b_FB_bytesFor 10 = .ok (.ireturn, 1) := by decide +kernel
def k_FB_bytesFor_1 (x1 : Int32) : Int32 :=
  (x1 + 7) / 8
def m_FB_bytesFor (p0 : Int32) : Int32 :=
  k_FB_bytesFor_1 (m_FB_bitCount p0)
set_option maxHeartbeats 4000000 in
set_option maxRecDepth 100000 in
theorem c_FB_bytesFor (l : Launch) (D : va_G) (cB cI cJ : ClassId) (p0 : Int32) (sz : Nat) : Ct l D cB cI cJ y_FB_bytesFor b_FB_bytesFor 1 (some .int) 1 20 0 0 [.int p0] [] (fun v w1 => ∃ (x : Int32), x = m_FB_bytesFor p0 ∧ v = some (.int x) ∧ w1 = []) sz := by
  refine Ct.of (by decide) (Nat.le_of_ble_eq_true rfl) ?_
  intro p e R s m args below meth c A ls Q hx hb hr hlk hml hta hown hin hK hN hA hRf hRl hRc hRs hP hD hS hl hQ
  have hl : lv_has ls 1 [(0, .int p0)] := hl
  obtain ⟨RES, E0⟩ : ∃ R, m_FB_bytesFor p0 = R := ⟨_, rfl⟩
  have E := E0
  refine lv_iload_n hx hb d_FB_bytesFor_0 rfl (lv_at hl 0 rfl) ?_
  refine kc_S (As := [.int p0]) (rest := []) (wr := []) [] [] ⟨hx, hb, hml, hown, hta⟩ hK hN hP hD hS hA (c_FB_bitCount l D cB cI cJ p0 _) (hta _ lk_FB_315) (hta _ ini_FB) (hta _ code_FB_bitCount) code_FB_bitCount (hta _ stat_FB_bitCount) hd_FB_bitCount rfl ⟨by omega, by omega⟩ rfl rfl (by decide) (by decide) (by decide) rfl hl.1 (lv_room (Nat.le_of_ble_eq_true rfl)) d_FB_bytesFor_1 ⟨by omega, by omega⟩ (fun v w1 H locs hw hP hD hS => ?_)
  obtain ⟨x1, hx1, rfl, rfl⟩ := hw
  have hP : va_P D classes [] H := hP.sub [] rfl
  have hD : va_D A [] := hD.sub [] (by decide) rfl
  refine W.eq (g2 := F0 m 4 ls [.int x1]) rfl ?_
  have E : k_FB_bytesFor_1 x1 = RES := (congrArg (k_FB_bytesFor_1) hx1).trans E
  refine lv_bipush (v := 7) hx hb d_FB_bytesFor_4 (by decide) ?_
  refine lv_iadd hx hb d_FB_bytesFor_6 ?_
  refine lv_bipush (v := 8) hx hb d_FB_bytesFor_7 (by decide) ?_
  refine lv_idiv hx hb d_FB_bytesFor_9 (by decide) ?_
  exact kr_i hx hb hr hlk hQ hK hP hD hS ⟨((x1 + 7) / 8 : Int32), E.trans E0.symm, rfl, rfl⟩ (by omega) (by omega) d_FB_bytesFor_10
theorem d_FB_lowestBits_0 : decode b_FB_lowestBits 0 = .ok (.bipush 64, 2) := by decide +kernel
theorem d_FB_lowestBits_2 : decode b_FB_lowestBits 2 = .ok (.bipush 64, 2) := by decide +kernel
theorem d_FB_lowestBits_4 : decode b_FB_lowestBits 4 = .ok (.iload_n 2, 1) := by decide +kernel
theorem d_FB_lowestBits_5 : decode b_FB_lowestBits 5 = .ok (.invokestatic 315, 3) := by decide +kernel
theorem d_FB_lowestBits_8 : decode b_FB_lowestBits 8 = .ok (.invokestatic 322, 3) := by decide +kernel
theorem d_FB_lowestBits_11 : decode b_FB_lowestBits 11 = .ok (.isub, 1) := by decide +kernel
theorem d_FB_lowestBits_12 : decode b_FB_lowestBits 12 = .ok (.istore_n 3, 1) := by decide +kernel
theorem d_FB_lowestBits_13 : decode b_FB_lowestBits 13 = .ok (.lload_n 0, 1) := by decide +kernel
theorem d_FB_lowestBits_14 : decode b_FB_lowestBits 14 = .ok (.iload_n 3, 1) := by decide +kernel
theorem d_FB_lowestBits_15 : decode b_FB_lowestBits 15 = .ok (.lshl, 1) := by decide +kernel
theorem d_FB_lowestBits_16 : decode b_FB_lowestBits 16 = .ok (.lstore 4, 2) := by decide +kernel
theorem d_FB_lowestBits_18 : decode b_FB_lowestBits 18 = .ok (.iload_n 2, 1) := by decide +kernel
theorem d_FB_lowestBits_19 : decode b_FB_lowestBits 19 = .ok (.sipush 128, 3) := by decide +kernel
theorem d_FB_lowestBits_22 : decode b_FB_lowestBits 22 = .ok (.iand, 1) := by decide +kernel
theorem d_FB_lowestBits_23 : decode b_FB_lowestBits 23 = .ok (.ifCond .eq 10, 3) := by decide +kernel
theorem d_FB_lowestBits_26 : decode b_FB_lowestBits 26 = .ok (.lload 4, 2) := by decide +kernel
theorem d_FB_lowestBits_28 : decode b_FB_lowestBits 28 = .ok (.iload_n 3, 1) := by decide +kernel
theorem d_FB_lowestBits_29 : decode b_FB_lowestBits 29 = .ok (.lshr, 1) := by decide +kernel
theorem d_FB_lowestBits_30 : decode b_FB_lowestBits 30 = .ok (.goto 7, 3) := by decide +kernel
theorem d_FB_lowestBits_33 : decode b_FB_lowestBits 33 = .ok (.lload 4, 2) := by decide +kernel
theorem d_FB_lowestBits_35 : decode b_FB_lowestBits 35 = .ok (.iload_n 3, 1) := by decide +kernel
theorem d_FB_lowestBits_36 : decode b_FB_lowestBits 36 = .ok (.lushr, 1) := by decide +kernel
theorem d_FB_lowestBits_37 : decode b_FB_lowestBits 37 = .ok (.lreturn, 1) := by decide +kernel
def k_FB_lowestBits_5 (p0 : Int64) (p2 : Int32) (x5 : Int32) : Int64 :=
  if (p2 &&& 128) = 0 then (((p0 <<< ((64 - (if x5 < 64 then x5 else 64) : Int32).toInt64 &&& 63) : Int64).toUInt64 >>> ((64 - (if x5 < 64 then x5 else 64) : Int32).toInt64.toUInt64 &&& Int64.toUInt64 63)).toInt64) else ((p0 <<< ((64 - (if x5 < 64 then x5 else 64) : Int32).toInt64 &&& 63)) >>> ((64 - (if x5 < 64 then x5 else 64) : Int32).toInt64 &&& 63))
def m_FB_lowestBits (p0 : Int64) (p2 : Int32) : Int64 :=
  k_FB_lowestBits_5 p0 p2 (m_FB_bitCount p2)
set_option maxHeartbeats 4000000 in
set_option maxRecDepth 100000 in
theorem c_FB_lowestBits (l : Launch) (D : va_G) (cB cI cJ : ClassId) (p0 : Int64) (p2 : Int32) (sz : Nat) : Ct l D cB cI cJ y_FB_lowestBits b_FB_lowestBits 6 (some .long) 1 21 0 0 [.long p0, .int p2] [] (fun v w1 => ∃ (x : Int64), x = m_FB_lowestBits p0 p2 ∧ v = some (.long x) ∧ w1 = []) sz := by
  refine Ct.of (by decide) (Nat.le_of_ble_eq_true rfl) ?_
  intro p e R s m args below meth c A ls Q hx hb hr hlk hml hta hown hin hK hN hA hRf hRl hRc hRs hP hD hS hl hQ
  have hl : lv_has ls 6 [(0, .long p0), (2, .int p2)] := hl
  obtain ⟨RES, E0⟩ : ∃ R, m_FB_lowestBits p0 p2 = R := ⟨_, rfl⟩
  have E := E0
  refine lv_bipush (v := 64) hx hb d_FB_lowestBits_0 (by decide) ?_
  refine lv_bipush (v := 64) hx hb d_FB_lowestBits_2 (by decide) ?_
  refine lv_iload_n hx hb d_FB_lowestBits_4 rfl (lv_at hl 1 rfl) ?_
  refine kc_S (As := [.int p2]) (rest := [.int 64, .int 64]) (wr := []) [] [] ⟨hx, hb, hml, hown, hta⟩ hK hN hP hD hS hA (c_FB_bitCount l D cB cI cJ p2 _) (hta _ lk_FB_315) (hta _ ini_FB) (hta _ code_FB_bitCount) code_FB_bitCount (hta _ stat_FB_bitCount) hd_FB_bitCount rfl ⟨by omega, by omega⟩ rfl rfl (by decide) (by decide) (by decide) rfl hl.1 (lv_room (Nat.le_of_ble_eq_true rfl)) d_FB_lowestBits_5 ⟨by omega, by omega⟩ (fun v w1 H locs hw hP hD hS => ?_)
  obtain ⟨x5, hx5, rfl, rfl⟩ := hw
  have hP : va_P D classes [] H := hP.sub [] rfl
  have hD : va_D A [] := hD.sub [] (by decide) rfl
  refine W.eq (g2 := F0 m 8 ls [.int x5, .int 64, .int 64]) rfl ?_
  have E : k_FB_lowestBits_5 p0 p2 x5 = RES := (congrArg (k_FB_lowestBits_5 p0 p2) hx5).trans E
  refine va_mmin hx hb (hml.trans hl.1.symm) hown (hta _ lk_FB_322) (hta _ stat_Math_min) (hta _ ini_Math) (hta _ code_Math_min) (by omega) (by simp only [List.map, Value.category, List.sum_cons, List.sum_nil]; omega) (by omega) (by omega) d_FB_lowestBits_8 ?_
  refine lv_isub hx hb d_FB_lowestBits_11 ?_
  refine lv_istore_n (lv' := [(3, .int (64 - (if x5 < 64 then x5 else 64))), (0, .long p0), (2, .int p2)]) hx hb d_FB_lowestBits_12 rfl hl (by decide) rfl (fun ls hl => ?_)
  refine lv_lload_n hx hb d_FB_lowestBits_13 rfl (lv_at hl 1 rfl) ?_
  refine lv_iload_n hx hb d_FB_lowestBits_14 rfl (lv_at hl 0 rfl) ?_
  refine lv_lshl (v := p0 <<< ((64 - (if x5 < 64 then x5 else 64) : Int32).toInt64 &&& 63)) hx hb d_FB_lowestBits_15 rfl ?_
  refine lv_lstore (lv' := [(4, .long (p0 <<< ((64 - (if x5 < 64 then x5 else 64) : Int32).toInt64 &&& 63))), (3, .int (64 - (if x5 < 64 then x5 else 64))), (0, .long p0), (2, .int p2)]) hx hb d_FB_lowestBits_16 hl (by decide) rfl (fun ls hl => ?_)
  refine lv_iload_n hx hb d_FB_lowestBits_18 rfl (lv_at hl 3 rfl) ?_
  refine lv_sipush (v := 128) hx hb d_FB_lowestBits_19 (by decide) ?_
  refine lv_iand hx hb d_FB_lowestBits_22 ?_
  refine lv_if_eq (tgt := 33) hx hb d_FB_lowestBits_23 (by decide) (fun c_23 => ?_) (fun c_23 => ?_)
  · have E := (if_pos c_23).symm.trans E
    refine lv_lload hx hb d_FB_lowestBits_33 (lv_at hl 0 rfl) ?_
    refine lv_iload_n hx hb d_FB_lowestBits_35 rfl (lv_at hl 1 rfl) ?_
    refine lv_lushr (v := ((p0 <<< ((64 - (if x5 < 64 then x5 else 64) : Int32).toInt64 &&& 63) : Int64).toUInt64 >>> ((64 - (if x5 < 64 then x5 else 64) : Int32).toInt64.toUInt64 &&& Int64.toUInt64 63)).toInt64) hx hb d_FB_lowestBits_36 rfl ?_
    exact kr_l hx hb hr hlk hQ hK hP hD hS ⟨(((p0 <<< ((64 - (if x5 < 64 then x5 else 64) : Int32).toInt64 &&& 63) : Int64).toUInt64 >>> ((64 - (if x5 < 64 then x5 else 64) : Int32).toInt64.toUInt64 &&& Int64.toUInt64 63)).toInt64 : Int64), E.trans E0.symm, rfl, rfl⟩ (by omega) (by omega) d_FB_lowestBits_37
  · have E := (if_neg c_23).symm.trans E
    refine lv_lload hx hb d_FB_lowestBits_26 (lv_at hl 0 rfl) ?_
    refine lv_iload_n hx hb d_FB_lowestBits_28 rfl (lv_at hl 1 rfl) ?_
    refine lv_lshr (v := (p0 <<< ((64 - (if x5 < 64 then x5 else 64) : Int32).toInt64 &&& 63)) >>> ((64 - (if x5 < 64 then x5 else 64) : Int32).toInt64 &&& 63)) hx hb d_FB_lowestBits_29 rfl ?_
    refine lv_goto (tgt := 37) hx hb d_FB_lowestBits_30 (by decide) ?_
    exact kr_l hx hb hr hlk hQ hK hP hD hS ⟨((p0 <<< ((64 - (if x5 < 64 then x5 else 64) : Int32).toInt64 &&& 63)) >>> ((64 - (if x5 < 64 then x5 else 64) : Int32).toInt64 &&& 63) : Int64), E.trans E0.symm, rfl, rfl⟩ (by omega) (by omega) d_FB_lowestBits_37
theorem d_FB_fits_0 : decode b_FB_fits 0 = .ok (.lload_n 0, 1) := by decide +kernel
theorem d_FB_fits_1 : decode b_FB_fits 1 = .ok (.lload_n 0, 1) := by decide +kernel
theorem d_FB_fits_2 : decode b_FB_fits 2 = .ok (.iload_n 2, 1) := by decide +kernel
theorem d_FB_fits_3 : decode b_FB_fits 3 = .ok (.invokestatic 318, 3) := by decide +kernel
theorem d_FB_fits_6 : decode b_FB_fits 6 = .ok (.lcmp, 1) := by decide +kernel
theorem d_FB_fits_7 : decode b_FB_fits 7 = .ok (.ifCond .ne 7, 3) := by decide +kernel
theorem d_FB_fits_10 : decode b_FB_fits 10 = .ok (.iconst 1, 1) := by decide +kernel
theorem d_FB_fits_11 : decode b_FB_fits 11 = .ok (.goto 4, 3) := by decide +kernel
theorem d_FB_fits_14 : decode b_FB_fits 14 = .ok (.iconst 0, 1) := by decide +kernel
theorem d_FB_fits_15 : decode b_FB_fits 15 = .ok (.ireturn, 1) := by decide +kernel
def k_FB_fits_3 (p0 : Int64) (x3 : Int64) : Int32 :=
  if (lg_cmp p0 x3) = 0 then 1 else 0
def m_FB_fits (p0 : Int64) (p2 : Int32) : Int32 :=
  k_FB_fits_3 p0 (m_FB_lowestBits p0 p2)
set_option maxHeartbeats 4000000 in
set_option maxRecDepth 100000 in
theorem c_FB_fits (l : Launch) (D : va_G) (cB cI cJ : ClassId) (p0 : Int64) (p2 : Int32) (sz : Nat) : Ct l D cB cI cJ y_FB_fits b_FB_fits 3 (some .boolean) 2 46 0 0 [.long p0, .int p2] [] (fun v w1 => ∃ (x : Int32), x = m_FB_fits p0 p2 ∧ v = some (.int x) ∧ w1 = []) sz := by
  refine Ct.of (by decide) (Nat.le_of_ble_eq_true rfl) ?_
  intro p e R s m args below meth c A ls Q hx hb hr hlk hml hta hown hin hK hN hA hRf hRl hRc hRs hP hD hS hl hQ
  have hl : lv_has ls 3 [(0, .long p0), (2, .int p2)] := hl
  obtain ⟨RES, E0⟩ : ∃ R, m_FB_fits p0 p2 = R := ⟨_, rfl⟩
  have E := E0
  refine lv_lload_n hx hb d_FB_fits_0 rfl (lv_at hl 0 rfl) ?_
  refine lv_lload_n hx hb d_FB_fits_1 rfl (lv_at hl 0 rfl) ?_
  refine lv_iload_n hx hb d_FB_fits_2 rfl (lv_at hl 1 rfl) ?_
  refine kc_S (As := [.long p0, .int p2]) (rest := [.long p0]) (wr := []) [] [] ⟨hx, hb, hml, hown, hta⟩ hK hN hP hD hS hA (c_FB_lowestBits l D cB cI cJ p0 p2 _) (hta _ lk_FB_318) (hta _ ini_FB) (hta _ code_FB_lowestBits) code_FB_lowestBits (hta _ stat_FB_lowestBits) hd_FB_lowestBits rfl ⟨by omega, by omega⟩ rfl rfl (by decide) (by decide) (by decide) rfl hl.1 (lv_room (Nat.le_of_ble_eq_true rfl)) d_FB_fits_3 ⟨by omega, by omega⟩ (fun v w1 H locs hw hP hD hS => ?_)
  obtain ⟨x3, hx3, rfl, rfl⟩ := hw
  have hP : va_P D classes [] H := hP.sub [] rfl
  have hD : va_D A [] := hD.sub [] (by decide) rfl
  refine W.eq (g2 := F0 m 6 ls [.long x3, .long p0]) rfl ?_
  have E : k_FB_fits_3 p0 x3 = RES := (congrArg (k_FB_fits_3 p0) hx3).trans E
  refine W.lcmp hx hb d_FB_fits_6 ?_
  refine lv_if_ne (tgt := 14) hx hb d_FB_fits_7 (by decide) (fun c_7 => ?_) (fun c_7 => ?_)
  · have E := (if_neg c_7).symm.trans E
    refine lv_iconst (v := 0) hx hb d_FB_fits_14 (by decide) ?_
    exact kr_z hx hb hr hlk hQ hK hP hD hS ⟨(0 : Int32), E.trans E0.symm, rfl, rfl⟩ (by omega) (by omega) rfl d_FB_fits_15
  · have E := (if_pos c_7).symm.trans E
    refine lv_iconst (v := 1) hx hb d_FB_fits_10 (by decide) ?_
    refine lv_goto (tgt := 15) hx hb d_FB_fits_11 (by decide) ?_
    exact kr_z hx hb hr hlk hQ hK hP hD hS ⟨(1 : Int32), E.trans E0.symm, rfl, rfl⟩ (by omega) (by omega) rfl d_FB_fits_15
