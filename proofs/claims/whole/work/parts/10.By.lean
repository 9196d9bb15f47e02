theorem d_By_add_0 : decode b_By_add 0 = .ok (.aload_n 0, 1) := by decide +kernel
theorem d_By_add_1 : decode b_By_add 1 = .ok (.getfield 17, 3) := by decide +kernel
theorem d_By_add_4 : decode b_By_add 4 = .ok (.ifCond .lt 36, 3) := by decide +kernel
theorem d_By_add_7 : decode b_By_add 7 = .ok (.aload_n 0, 1) := by decide +kernel
theorem d_By_add_8 : decode b_By_add 8 = .ok (.getfield 17, 3) := by decide +kernel
theorem d_By_add_11 : decode b_By_add 11 = .ok (.aload_n 0, 1) := by decide +kernel
theorem d_By_add_12 : decode b_By_add 12 = .ok (.getfield 13, 3) := by decide +kernel
theorem d_By_add_15 : decode b_By_add 15 = .ok (.arraylength, 1) := by decide +kernel
theorem d_By_add_16 : decode b_By_add 16 = .ok (.if_icmp .ge 24, 3) := by decide +kernel
theorem d_By_add_19 : decode b_By_add 19 = .ok (.aload_n 0, 1) := by decide +kernel
theorem d_By_add_20 : decode b_By_add 20 = .ok (.getfield 13, 3) := by decide +kernel
theorem d_By_add_23 : decode b_By_add 23 = .ok (.aload_n 0, 1) := by decide +kernel
theorem d_By_add_24 : decode b_By_add 24 = .ok (.getfield 17, 3) := by decide +kernel
theorem d_By_add_27 : decode b_By_add 27 = .ok (.iload_n 1, 1) := by decide +kernel
theorem d_By_add_28 : decode b_By_add 28 = .ok (.i2b, 1) := by decide +kernel
theorem d_By_add_29 : decode b_By_add 29 = .ok (.bastore, 1) := by decide +kernel
theorem d_By_add_30 : decode b_By_add 30 = .ok (.aload_n 0, 1) := by decide +kernel
theorem d_By_add_31 : decode b_By_add 31 = .ok (.dup, 1) := by decide +kernel
theorem d_By_add_32 : decode b_By_add 32 = .ok (.getfield 17, 3) := by decide +kernel
theorem d_By_add_35 : decode b_By_add 35 = .ok (.iconst 1, 1) := by decide +kernel
theorem d_By_add_36 : decode b_By_add 36 = .ok (.iadd, 1) := by decide +kernel
theorem d_By_add_37 : decode b_By_add 37 = .ok (.putfield 17, 3) := by decide +kernel
theorem d_By_add_40 : decode b_By_add 40 = .ok (.return_, 1) := by decide +kernel
def m_By_add (t_count : Int32) (n_t_row : Nat) (f_t_row : Nat → Int32) (p1 : Int32) : Int32 × (Nat → Int32) :=
  if t_count < 0 then (t_count, f_t_row) else (if (nI n_t_row) ≤ t_count then (t_count, f_t_row) else ((t_count + 1, upd f_t_row t_count.toNatClampNeg (vp_nar .byte ((p1 : Int32).toInt8.toInt32)))))
set_option maxHeartbeats 4000000 in
set_option maxRecDepth 100000 in
theorem c_By_add (l : Launch) (D : va_G) (cB cI cJ : ClassId) (h_t h_t_row : Nat) (t_most : Int32) (t_count : Int32) (n_t_row : Nat) (f_t_row : Nat → Int32) (p1 : Int32) (hn_t_row : n_t_row < 2147483648) (sz : Nat) : Ct l D cB cI cJ y_By_add b_By_add 2 none 0 0 0 0 [.ref h_t, .int p1] [(h_t, .inr (0, [.int t_most, .ref h_t_row, .int t_count])), (h_t_row, .inl (cB, n_t_row, .inl f_t_row))] (fun v w1 => ∃ (x : Int32 × (Nat → Int32)), x = m_By_add t_count n_t_row f_t_row p1 ∧ v = none ∧ w1 = [(h_t, .inr (0, [.int t_most, .ref h_t_row, .int x.1])), (h_t_row, .inl (cB, n_t_row, .inl x.2))]) sz := by
  refine Ct.of (by decide) (Nat.le_of_ble_eq_true rfl) ?_
  intro p e R s m args below meth c A ls Q hx hb hr hlk hml hta hown hin hK hN hA hRf hRl hRc hRs hP hD hS hl hQ
  have hl : lv_has ls 2 [(0, .ref h_t), (1, .int p1)] := hl
  obtain ⟨RES, E0⟩ : ∃ R, m_By_add t_count n_t_row f_t_row p1 = R := ⟨_, rfl⟩
  have E := E0
  refine lv_aload_n hx hb d_By_add_0 rfl (lv_at hl 0 rfl) ?_
  refine va_get (D := D) (v := .int t_count) hx hb hta i_By hown hK hP 0 rfl rfl 2 (by decide) (hta _ lk_By_17) (fun _ h9 => h9) rfl d_By_add_1 ?_
  refine lv_if_lt (tgt := 40) hx hb d_By_add_4 (by decide) (fun c_4 => ?_) (fun c_4 => ?_)
  · have E := (if_pos c_4).symm.trans E
    exact kr_v hx hb hr hlk hQ hK hP hD hS ⟨((t_count, f_t_row) : Int32 × (Nat → Int32)), E.trans E0.symm, rfl, rfl⟩ (by omega) (by omega) d_By_add_40
  · have E := (if_neg c_4).symm.trans E
    refine lv_aload_n hx hb d_By_add_7 rfl (lv_at hl 0 rfl) ?_
    refine va_get (D := D) (v := .int t_count) hx hb hta i_By hown hK hP 0 rfl rfl 2 (by decide) (hta _ lk_By_17) (fun _ h9 => h9) rfl d_By_add_8 ?_
    refine lv_aload_n hx hb d_By_add_11 rfl (lv_at hl 0 rfl) ?_
    refine va_get (D := D) (v := .ref h_t_row) hx hb hta i_By hown hK hP 0 rfl rfl 1 (by decide) (hta _ lk_By_13) (fun _ h9 => h9) rfl d_By_add_12 ?_
    refine va_alen (v := nI n_t_row) hx hb hK hP 1 0 rfl rfl rfl d_By_add_15 ?_
    refine lv_icmp_ge (tgt := 40) hx hb d_By_add_16 (by decide) (fun c_16 => ?_) (fun c_16 => ?_)
    · have E := (if_pos c_16).symm.trans E
      exact kr_v hx hb hr hlk hQ hK hP hD hS ⟨((t_count, f_t_row) : Int32 × (Nat → Int32)), E.trans E0.symm, rfl, rfl⟩ (by omega) (by omega) d_By_add_40
    · have E := (if_neg c_16).symm.trans E
      refine lv_aload_n hx hb d_By_add_19 rfl (lv_at hl 0 rfl) ?_
      refine va_get (D := D) (v := .ref h_t_row) hx hb hta i_By hown hK hP 0 rfl rfl 1 (by decide) (hta _ lk_By_13) (fun _ h9 => h9) rfl d_By_add_20 ?_
      refine lv_aload_n hx hb d_By_add_23 rfl (lv_at hl 0 rfl) ?_
      refine va_get (D := D) (v := .int t_count) hx hb hta i_By hown hK hP 0 rfl rfl 2 (by decide) (hta _ lk_By_17) (fun _ h9 => h9) rfl d_By_add_24 ?_
      refine lv_iload_n hx hb d_By_add_27 rfl (lv_at hl 1 rfl) ?_
      refine lv_i2b (v := (p1 : Int32).toInt8.toInt32) hx hb d_By_add_28 rfl ?_
      refine va_bast hx hb hK hP hD hS 1 0 rfl rfl (vin_of c_4 c_16 hn_t_row) d_By_add_29 (fun H locs (hP : va_P D classes [(h_t, .inr (0, [.int t_most, .ref h_t_row, .int t_count])), (h_t_row, .inl (cB, n_t_row, .inl (upd f_t_row t_count.toNatClampNeg (vp_nar .byte ((p1 : Int32).toInt8.toInt32)))))] H) (hD : va_D A [(h_t, .inr (0, [.int t_most, .ref h_t_row, .int t_count])), (h_t_row, .inl (cB, n_t_row, .inl (upd f_t_row t_count.toNatClampNeg (vp_nar .byte ((p1 : Int32).toInt8.toInt32)))))]) hS => ?_)
      refine lv_aload_n hx hb d_By_add_30 rfl (lv_at hl 0 rfl) ?_
      refine lv_dup hx hb d_By_add_31 rfl ?_
      refine va_get (D := D) (v := .int t_count) hx hb hta i_By hown hK hP 0 rfl rfl 2 (by decide) (hta _ lk_By_17) (fun _ h9 => h9) rfl d_By_add_32 ?_
      refine lv_iconst (v := 1) hx hb d_By_add_35 (by decide) ?_
      refine lv_iadd hx hb d_By_add_36 ?_
      refine va_put (D := D) (ty := .int) hx hb hta i_By t_By t_By_ok n_By hown hK hP hD hS 0 rfl rfl 2 (by decide) (hta _ lk_By_17) (fun _ h9 => h9) rfl (by decide +kernel) rfl rfl (Nat.le_of_ble_eq_true rfl) d_By_add_37 (fun H locs (hP : va_P D classes [(h_t, .inr (0, [.int t_most, .ref h_t_row, .int (t_count + 1)])), (h_t_row, .inl (cB, n_t_row, .inl (upd f_t_row t_count.toNatClampNeg (vp_nar .byte ((p1 : Int32).toInt8.toInt32)))))] H) (hD : va_D A [(h_t, .inr (0, [.int t_most, .ref h_t_row, .int (t_count + 1)])), (h_t_row, .inl (cB, n_t_row, .inl (upd f_t_row t_count.toNatClampNeg (vp_nar .byte ((p1 : Int32).toInt8.toInt32)))))]) hS => ?_)
      exact kr_v hx hb hr hlk hQ hK hP hD hS ⟨((t_count + 1, upd f_t_row t_count.toNatClampNeg (vp_nar .byte ((p1 : Int32).toInt8.toInt32))) : Int32 × (Nat → Int32)), E.trans E0.symm, rfl, rfl⟩ (by omega) (by omega) d_By_add_40
theorem d_By_addNumber_0 : decode b_By_addNumber 0 = .ok (.bipush 8, 2) := by decide +kernel
theorem d_By_addNumber_2 : decode b_By_addNumber 2 = .ok (.iload_n 3, 1) := by decide +kernel
theorem d_By_addNumber_3 : decode b_By_addNumber 3 = .ok (.imul, 1) := by decide +kernel
theorem d_By_addNumber_4 : decode b_By_addNumber 4 = .ok (.bipush 8, 2) := by decide +kernel
theorem d_By_addNumber_6 : decode b_By_addNumber 6 = .ok (.isub, 1) := by decide +kernel
theorem d_By_addNumber_7 : decode b_By_addNumber 7 = .ok (.istore 4, 2) := by decide +kernel
theorem d_By_addNumber_9 : decode b_By_addNumber 9 = .ok (.iload 4, 2) := by decide +kernel
theorem d_By_addNumber_11 : decode b_By_addNumber 11 = .ok (.ifCond .lt 18, 3) := by decide +kernel
theorem d_By_addNumber_14 : decode b_By_addNumber 14 = .ok (.aload_n 0, 1) := by decide +kernel
theorem d_By_addNumber_15 : decode b_By_addNumber 15 = .ok (.lload_n 1, 1) := by decide +kernel
theorem d_By_addNumber_16 : decode b_By_addNumber 16 = .ok (.iload 4, 2) := by decide +kernel
theorem d_By_addNumber_18 : decode b_By_addNumber 18 = .ok (.lshr, 1) := by decide +kernel
theorem d_By_addNumber_19 : decode b_By_addNumber 19 = .ok (.l2i, 1) := by decide +kernel
theorem d_By_addNumber_20 : decode b_By_addNumber 20 = .ok (.invokevirtual 35, 3) := by decide +kernel
theorem d_By_addNumber_23 : decode b_By_addNumber 23 = .ok (.iinc 4 (-8), 3) := by decide +kernel
theorem d_By_addNumber_26 : decode b_By_addNumber 26 = .ok (.goto (-17), 3) := by decide +kernel
theorem d_By_addNumber_29 : decode b_By_addNumber 29 = .ok (.return_, 1) := by decide +kernel
def k_By_addNumber_20 (kk_9 : Int32 → Int32 → (Nat → Int32) → Int32 × (Nat → Int32)) (v9_4 : Int32) (x20 : Int32 × (Nat → Int32)) : Int32 × (Nat → Int32) :=
  kk_9 (v9_4 + (-8)) x20.1 x20.2
def lb_By_addNumber_9 (n_t_row : Nat) (p1 : Int64) (kk_9 : Int32 → Int32 → (Nat → Int32) → Int32 × (Nat → Int32)) (v9_4 : Int32) (v9_t_count : Int32) (v9_t_row : Nat → Int32) : Int32 × (Nat → Int32) :=
  if v9_4 < 0 then (v9_t_count, v9_t_row) else (k_By_addNumber_20 kk_9 v9_4 (m_By_add v9_t_count n_t_row v9_t_row ((p1 >>> ((v9_4 : Int32).toInt64 &&& 63) : Int64).toInt32)))
def lp_By_addNumber_9 (n_t_row : Nat) (p1 : Int64) : Nat → Int32 → Int32 → (Nat → Int32) → Int32 × (Nat → Int32)
  | 0, v9_4, v9_t_count, v9_t_row => (v9_t_count, v9_t_row)
  | n + 1, v9_4, v9_t_count, v9_t_row => lb_By_addNumber_9 n_t_row p1 (lp_By_addNumber_9 n_t_row p1 n) v9_4 v9_t_count v9_t_row
def m_By_addNumber (t_count : Int32) (n_t_row : Nat) (f_t_row : Nat → Int32) (p1 : Int64) (p3 : Int32) : Int32 × (Nat → Int32) :=
  lp_By_addNumber_9 n_t_row p1 ((((8 * p3) - 8).toInt + 8).toNat + 1) ((8 * p3) - 8) t_count f_t_row
set_option maxHeartbeats 4000000 in
set_option maxRecDepth 100000 in
theorem c_By_addNumber (l : Launch) (D : va_G) (cB cI cJ : ClassId) (h_t h_t_row : Nat) (t_most : Int32) (t_count : Int32) (n_t_row : Nat) (f_t_row : Nat → Int32) (p1 : Int64) (p3 : Int32) (hn_t_row : n_t_row < 2147483648) (sz : Nat) : Ct l D cB cI cJ y_By_addNumber b_By_addNumber 5 none 1 21 0 0 [.ref h_t, .long p1, .int p3] [(h_t, .inr (0, [.int t_most, .ref h_t_row, .int t_count])), (h_t_row, .inl (cB, n_t_row, .inl f_t_row))] (fun v w1 => ∃ (x : Int32 × (Nat → Int32)), x = m_By_addNumber t_count n_t_row f_t_row p1 p3 ∧ v = none ∧ w1 = [(h_t, .inr (0, [.int t_most, .ref h_t_row, .int x.1])), (h_t_row, .inl (cB, n_t_row, .inl x.2))]) sz := by
  refine Ct.of (by decide) (Nat.le_of_ble_eq_true rfl) ?_
  intro p e R s m args below meth c A ls Q hx hb hr hlk hml hta hown hin hK hN hA hRf hRl hRc hRs hP hD hS hl hQ
  have hl : lv_has ls 5 [(0, .ref h_t), (1, .long p1), (3, .int p3)] := hl
  obtain ⟨RES, E0⟩ : ∃ R, m_By_addNumber t_count n_t_row f_t_row p1 p3 = R := ⟨_, rfl⟩
  have E := E0
  refine lv_bipush (v := 8) hx hb d_By_addNumber_0 (by decide) ?_
  refine lv_iload_n hx hb d_By_addNumber_2 rfl (lv_at hl 2 rfl) ?_
  refine lv_imul hx hb d_By_addNumber_3 ?_
  refine lv_bipush (v := 8) hx hb d_By_addNumber_4 (by decide) ?_
  refine lv_isub hx hb d_By_addNumber_6 ?_
  refine lv_istore (lv' := [(4, .int ((8 * p3) - 8)), (0, .ref h_t), (1, .long p1), (3, .int p3)]) hx hb d_By_addNumber_7 hl (by decide) rfl (fun ls hl => ?_)
  have L_9 : ∀ (n : Nat) (v9_4 : Int32) (v9_t_count : Int32) (v9_t_row : Nat → Int32), (v9_4.toInt + 8).toNat < n → lp_By_addNumber_9 n_t_row p1 n v9_4 v9_t_count v9_t_row = RES → ∀ (H : Heap) (locs : List Loc), va_P D classes [(h_t, .inr (0, [.int t_most, .ref h_t_row, .int v9_t_count])), (h_t_row, .inl (cB, n_t_row, .inl v9_t_row))] H → va_D A [(h_t, .inr (0, [.int t_most, .ref h_t_row, .int v9_t_count])), (h_t_row, .inl (cB, n_t_row, .inl v9_t_row))] → va_S A s.heap H locs → ∀ ls : Array Slot, lv_has ls 5 [(4, .int v9_4), (0, .ref h_t), (1, .long p1)] → W p l e R s m args below meth c H locs 0 0 Q (F0 m 9 ls []) := by
    intro n
    induction n with
    | zero => intro v9_4 v9_t_count v9_t_row hlt; exact absurd hlt (Nat.not_lt_zero _)
    | succ n ih =>
      intro v9_4 v9_t_count v9_t_row hlt_9 E H locs hP hD hS ls hl
      have E : lb_By_addNumber_9 n_t_row p1 (lp_By_addNumber_9 n_t_row p1 n) v9_4 v9_t_count v9_t_row = RES := E
      generalize lp_By_addNumber_9 n_t_row p1 n = kk_9 at ih E
      have ih_9 := ih
      clear ih
      refine lv_iload hx hb d_By_addNumber_9 (lv_at hl 0 rfl) ?_
      refine lv_if_lt (tgt := 29) hx hb d_By_addNumber_11 (by decide) (fun c_11 => ?_) (fun c_11 => ?_)
      · have E := (if_pos c_11).symm.trans E
        exact kr_v hx hb hr hlk hQ hK hP hD hS ⟨((v9_t_count, v9_t_row) : Int32 × (Nat → Int32)), E.trans E0.symm, rfl, rfl⟩ (by omega) (by omega) d_By_addNumber_29
      · have E := (if_neg c_11).symm.trans E
        refine lv_aload_n hx hb d_By_addNumber_14 rfl (lv_at hl 1 rfl) ?_
        refine lv_lload_n hx hb d_By_addNumber_15 rfl (lv_at hl 2 rfl) ?_
        refine lv_iload hx hb d_By_addNumber_16 (lv_at hl 0 rfl) ?_
        refine lv_lshr (v := p1 >>> ((v9_4 : Int32).toInt64 &&& 63)) hx hb d_By_addNumber_18 rfl ?_
        refine lv_l2i (v := (p1 >>> ((v9_4 : Int32).toInt64 &&& 63) : Int64).toInt32) hx hb d_By_addNumber_19 rfl ?_
        refine kc_V (As := [.int ((p1 >>> ((v9_4 : Int32).toInt64 &&& 63) : Int64).toInt32)]) (rest := []) (wr := []) [0, 1] [] ⟨hx, hb, hml, hown, hta⟩ hK hN hP hD hS hA (c_By_add l D cB cI cJ h_t h_t_row t_most v9_t_count n_t_row v9_t_row ((p1 >>> ((v9_4 : Int32).toInt64 &&& 63) : Int64).toInt32) hn_t_row _) (hta _ lk_By_35) (hta _ ini_By) (hta _ code_By_add) code_By_add (hta _ inst_By_add) (hta _ sel_By_add) hd_By_add rfl ⟨by omega, by omega⟩ (ci := 0) 0 rfl rfl rfl rfl (by decide) (by decide) (by decide) rfl hl.1 (lv_room (Nat.le_of_ble_eq_true rfl)) d_By_addNumber_20 ⟨by omega, by omega⟩ (fun v w1 H locs hw hP hD hS => ?_)
        obtain ⟨x20, hx20, rfl, rfl⟩ := hw
        have hP : va_P D classes [(h_t, .inr (0, [.int t_most, .ref h_t_row, .int x20.1])), (h_t_row, .inl (cB, n_t_row, .inl x20.2))] H := hP.sub [0, 1] rfl
        have hD : va_D A [(h_t, .inr (0, [.int t_most, .ref h_t_row, .int x20.1])), (h_t_row, .inl (cB, n_t_row, .inl x20.2))] := hD.sub [0, 1] (by decide) rfl
        refine W.eq (g2 := F0 m 23 ls []) rfl ?_
        have E : k_By_addNumber_20 kk_9 v9_4 x20 = RES := (congrArg (k_By_addNumber_20 kk_9 v9_4) hx20).trans E
        refine lv_iinc (v := v9_4 + (-8)) (lv' := [(4, .int (v9_4 + (-8))), (0, .ref h_t), (1, .long p1)]) hx hb d_By_addNumber_23 hl (k := 0) rfl rfl (by decide) rfl (fun ls hl => ?_)
        refine lv_goto (tgt := 9) hx hb d_By_addNumber_26 (by decide) ?_
        exact ih_9 (v9_4 + (-8)) x20.1 x20.2 (Nat.lt_of_lt_of_le (tm_dn8 c_11) (Nat.le_of_lt_succ hlt_9)) E _ _ hP hD hS ls (lv_sub hl [0, 1, 2] rfl)
  exact L_9 _ ((8 * p3) - 8) t_count f_t_row (Nat.lt_succ_self _) E _ _ hP hD hS ls (lv_sub hl [0, 1, 2] rfl)
theorem d_By_setByte_0 : decode b_By_setByte 0 = .ok (.iload_n 1, 1) := by decide +kernel
theorem d_By_setByte_1 : decode b_By_setByte 1 = .ok (.ifCond .lt 20, 3) := by decide +kernel
theorem d_By_setByte_4 : decode b_By_setByte 4 = .ok (.iload_n 1, 1) := by decide +kernel
theorem d_By_setByte_5 : decode b_By_setByte 5 = .ok (.aload_n 0, 1) := by decide +kernel
theorem d_By_setByte_6 : decode b_By_setByte 6 = .ok (.getfield 13, 3) := by decide +kernel
theorem d_By_setByte_9 : decode b_By_setByte 9 = .ok (.arraylength, 1) := by decide +kernel
theorem d_By_setByte_10 : decode b_By_setByte 10 = .ok (.if_icmp .ge 11, 3) := by decide +kernel
theorem d_By_setByte_13 : decode b_By_setByte 13 = .ok (.aload_n 0, 1) := by decide +kernel
theorem d_By_setByte_14 : decode b_By_setByte 14 = .ok (.getfield 13, 3) := by decide +kernel
theorem d_By_setByte_17 : decode b_By_setByte 17 = .ok (.iload_n 1, 1) := by decide +kernel
theorem d_By_setByte_18 : decode b_By_setByte 18 = .ok (.iload_n 2, 1) := by decide +kernel
theorem d_By_setByte_19 : decode b_By_setByte 19 = .ok (.i2b, 1) := by decide +kernel
theorem d_By_setByte_20 : decode b_By_setByte 20 = .ok (.bastore, 1) := by decide +kernel
theorem d_By_setByte_21 : decode b_By_setByte 21 = .ok (.return_, 1) := by decide +kernel
def m_By_setByte (n_t_row : Nat) (f_t_row : Nat → Int32) (p1 : Int32) (p2 : Int32) : (Nat → Int32) :=
  if p1 < 0 then f_t_row else (if (nI n_t_row) ≤ p1 then f_t_row else (upd f_t_row p1.toNatClampNeg (vp_nar .byte ((p2 : Int32).toInt8.toInt32))))
set_option maxHeartbeats 4000000 in
set_option maxRecDepth 100000 in
theorem c_By_setByte (l : Launch) (D : va_G) (cB cI cJ : ClassId) (h_t h_t_row : Nat) (t_most : Int32) (t_count : Int32) (n_t_row : Nat) (f_t_row : Nat → Int32) (p1 : Int32) (p2 : Int32) (hn_t_row : n_t_row < 2147483648) (sz : Nat) : Ct l D cB cI cJ y_By_setByte b_By_setByte 3 none 0 0 0 0 [.ref h_t, .int p1, .int p2] [(h_t, .inr (0, [.int t_most, .ref h_t_row, .int t_count])), (h_t_row, .inl (cB, n_t_row, .inl f_t_row))] (fun v w1 => ∃ (x : (Nat → Int32)), x = m_By_setByte n_t_row f_t_row p1 p2 ∧ v = none ∧ w1 = [(h_t, .inr (0, [.int t_most, .ref h_t_row, .int t_count])), (h_t_row, .inl (cB, n_t_row, .inl x))]) sz := by
  refine Ct.of (by decide) (Nat.le_of_ble_eq_true rfl) ?_
  intro p e R s m args below meth c A ls Q hx hb hr hlk hml hta hown hin hK hN hA hRf hRl hRc hRs hP hD hS hl hQ
  have hl : lv_has ls 3 [(0, .ref h_t), (1, .int p1), (2, .int p2)] := hl
  obtain ⟨RES, E0⟩ : ∃ R, m_By_setByte n_t_row f_t_row p1 p2 = R := ⟨_, rfl⟩
  have E := E0
  refine lv_iload_n hx hb d_By_setByte_0 rfl (lv_at hl 1 rfl) ?_
  refine lv_if_lt (tgt := 21) hx hb d_By_setByte_1 (by decide) (fun c_1 => ?_) (fun c_1 => ?_)
  · have E := (if_pos c_1).symm.trans E
    exact kr_v hx hb hr hlk hQ hK hP hD hS ⟨(f_t_row : (Nat → Int32)), E.trans E0.symm, rfl, rfl⟩ (by omega) (by omega) d_By_setByte_21
  · have E := (if_neg c_1).symm.trans E
    refine lv_iload_n hx hb d_By_setByte_4 rfl (lv_at hl 1 rfl) ?_
    refine lv_aload_n hx hb d_By_setByte_5 rfl (lv_at hl 0 rfl) ?_
    refine va_get (D := D) (v := .ref h_t_row) hx hb hta i_By hown hK hP 0 rfl rfl 1 (by decide) (hta _ lk_By_13) (fun _ h9 => h9) rfl d_By_setByte_6 ?_
    refine va_alen (v := nI n_t_row) hx hb hK hP 1 0 rfl rfl rfl d_By_setByte_9 ?_
    refine lv_icmp_ge (tgt := 21) hx hb d_By_setByte_10 (by decide) (fun c_10 => ?_) (fun c_10 => ?_)
    · have E := (if_pos c_10).symm.trans E
      exact kr_v hx hb hr hlk hQ hK hP hD hS ⟨(f_t_row : (Nat → Int32)), E.trans E0.symm, rfl, rfl⟩ (by omega) (by omega) d_By_setByte_21
    · have E := (if_neg c_10).symm.trans E
      refine lv_aload_n hx hb d_By_setByte_13 rfl (lv_at hl 0 rfl) ?_
      refine va_get (D := D) (v := .ref h_t_row) hx hb hta i_By hown hK hP 0 rfl rfl 1 (by decide) (hta _ lk_By_13) (fun _ h9 => h9) rfl d_By_setByte_14 ?_
      refine lv_iload_n hx hb d_By_setByte_17 rfl (lv_at hl 1 rfl) ?_
      refine lv_iload_n hx hb d_By_setByte_18 rfl (lv_at hl 2 rfl) ?_
      refine lv_i2b (v := (p2 : Int32).toInt8.toInt32) hx hb d_By_setByte_19 rfl ?_
      refine va_bast hx hb hK hP hD hS 1 0 rfl rfl (vin_of c_1 c_10 hn_t_row) d_By_setByte_20 (fun H locs (hP : va_P D classes [(h_t, .inr (0, [.int t_most, .ref h_t_row, .int t_count])), (h_t_row, .inl (cB, n_t_row, .inl (upd f_t_row p1.toNatClampNeg (vp_nar .byte ((p2 : Int32).toInt8.toInt32)))))] H) (hD : va_D A [(h_t, .inr (0, [.int t_most, .ref h_t_row, .int t_count])), (h_t_row, .inl (cB, n_t_row, .inl (upd f_t_row p1.toNatClampNeg (vp_nar .byte ((p2 : Int32).toInt8.toInt32)))))]) hS => ?_)
      exact kr_v hx hb hr hlk hQ hK hP hD hS ⟨(upd f_t_row p1.toNatClampNeg (vp_nar .byte ((p2 : Int32).toInt8.toInt32)) : (Nat → Int32)), E.trans E0.symm, rfl, rfl⟩ (by omega) (by omega) d_By_setByte_21
theorem d_By_byteAt_0 : decode b_By_byteAt 0 = .ok (.iload_n 1, 1) := by decide +kernel
theorem d_By_byteAt_1 : decode b_By_byteAt 1 = .ok (.ifCond .lt 33, 3) := by decide +kernel
theorem d_By_byteAt_4 : decode b_By_byteAt 4 = .ok (.iload_n 1, 1) := by decide +kernel
theorem d_By_byteAt_5 : decode b_By_byteAt 5 = .ok (.aload_n 0, 1) := by decide +kernel
theorem d_By_byteAt_6 : decode b_By_byteAt 6 = .ok (.getfield 17, 3) := by decide +kernel
theorem d_By_byteAt_9 : decode b_By_byteAt 9 = .ok (.if_icmp .ge 25, 3) := by decide +kernel
theorem d_By_byteAt_12 : decode b_By_byteAt 12 = .ok (.iload_n 1, 1) := by decide +kernel
theorem d_By_byteAt_13 : decode b_By_byteAt 13 = .ok (.aload_n 0, 1) := by decide +kernel
theorem d_By_byteAt_14 : decode b_By_byteAt 14 = .ok (.getfield 13, 3) := by decide +kernel
theorem d_By_byteAt_17 : decode b_By_byteAt 17 = .ok (.arraylength, 1) := by decide +kernel
theorem d_By_byteAt_18 : decode b_By_byteAt 18 = .ok (.if_icmp .ge 16, 3) := by decide +kernel
theorem d_By_byteAt_21 : decode b_By_byteAt 21 = .ok (.aload_n 0, 1) := by decide +kernel
theorem d_By_byteAt_22 : decode b_By_byteAt 22 = .ok (.getfield 13, 3) := by decide +kernel
theorem d_By_byteAt_25 : decode b_By_byteAt 25 = .ok (.iload_n 1, 1) := by decide +kernel
theorem d_By_byteAt_26 : decode b_By_byteAt 26 = .ok (.baload, 1) := by decide +kernel
theorem d_By_byteAt_27 : decode b_By_byteAt 27 = .ok (.sipush 255, 3) := by decide +kernel
theorem d_By_byteAt_30 : decode b_By_byteAt 30 = .ok (.iand, 1) := by decide +kernel
theorem d_By_byteAt_31 : decode b_By_byteAt 31 = .ok (.goto 4, 3) := by decide +kernel
theorem d_By_byteAt_34 : decode b_By_byteAt 34 = .ok (.iconst 0, 1) := by decide +kernel
theorem d_By_byteAt_35 : decode b_By_byteAt 35 = .ok (.ireturn, 1) := by decide +kernel
def m_By_byteAt (t_count : Int32) (n_t_row : Nat) (f_t_row : Nat → Int32) (p1 : Int32) : Int32 :=
  if p1 < 0 then 0 else (if t_count ≤ p1 then 0 else (if (nI n_t_row) ≤ p1 then 0 else ((f_t_row p1.toNatClampNeg) &&& 255)))
set_option maxHeartbeats 4000000 in
set_option maxRecDepth 100000 in
theorem c_By_byteAt (l : Launch) (D : va_G) (cB cI cJ : ClassId) (h_t h_t_row : Nat) (t_most : Int32) (t_count : Int32) (n_t_row : Nat) (f_t_row : Nat → Int32) (p1 : Int32) (hn_t_row : n_t_row < 2147483648) (sz : Nat) : Ct l D cB cI cJ y_By_byteAt b_By_byteAt 2 (some .int) 0 0 0 0 [.ref h_t, .int p1] [(h_t, .inr (0, [.int t_most, .ref h_t_row, .int t_count])), (h_t_row, .inl (cB, n_t_row, .inl f_t_row))] (fun v w1 => ∃ (x : Int32), x = m_By_byteAt t_count n_t_row f_t_row p1 ∧ v = some (.int x) ∧ w1 = [(h_t, .inr (0, [.int t_most, .ref h_t_row, .int t_count])), (h_t_row, .inl (cB, n_t_row, .inl f_t_row))]) sz := by
  refine Ct.of (by decide) (Nat.le_of_ble_eq_true rfl) ?_
  intro p e R s m args below meth c A ls Q hx hb hr hlk hml hta hown hin hK hN hA hRf hRl hRc hRs hP hD hS hl hQ
  have hl : lv_has ls 2 [(0, .ref h_t), (1, .int p1)] := hl
  obtain ⟨RES, E0⟩ : ∃ R, m_By_byteAt t_count n_t_row f_t_row p1 = R := ⟨_, rfl⟩
  have E := E0
  refine lv_iload_n hx hb d_By_byteAt_0 rfl (lv_at hl 1 rfl) ?_
  refine lv_if_lt (tgt := 34) hx hb d_By_byteAt_1 (by decide) (fun c_1 => ?_) (fun c_1 => ?_)
  · have E := (if_pos c_1).symm.trans E
    refine lv_iconst (v := 0) hx hb d_By_byteAt_34 (by decide) ?_
    exact kr_i hx hb hr hlk hQ hK hP hD hS ⟨(0 : Int32), E.trans E0.symm, rfl, rfl⟩ (by omega) (by omega) d_By_byteAt_35
  · have E := (if_neg c_1).symm.trans E
    refine lv_iload_n hx hb d_By_byteAt_4 rfl (lv_at hl 1 rfl) ?_
    refine lv_aload_n hx hb d_By_byteAt_5 rfl (lv_at hl 0 rfl) ?_
    refine va_get (D := D) (v := .int t_count) hx hb hta i_By hown hK hP 0 rfl rfl 2 (by decide) (hta _ lk_By_17) (fun _ h9 => h9) rfl d_By_byteAt_6 ?_
    refine lv_icmp_ge (tgt := 34) hx hb d_By_byteAt_9 (by decide) (fun c_9 => ?_) (fun c_9 => ?_)
    · have E := (if_pos c_9).symm.trans E
      refine lv_iconst (v := 0) hx hb d_By_byteAt_34 (by decide) ?_
      exact kr_i hx hb hr hlk hQ hK hP hD hS ⟨(0 : Int32), E.trans E0.symm, rfl, rfl⟩ (by omega) (by omega) d_By_byteAt_35
    · have E := (if_neg c_9).symm.trans E
      refine lv_iload_n hx hb d_By_byteAt_12 rfl (lv_at hl 1 rfl) ?_
      refine lv_aload_n hx hb d_By_byteAt_13 rfl (lv_at hl 0 rfl) ?_
      refine va_get (D := D) (v := .ref h_t_row) hx hb hta i_By hown hK hP 0 rfl rfl 1 (by decide) (hta _ lk_By_13) (fun _ h9 => h9) rfl d_By_byteAt_14 ?_
      refine va_alen (v := nI n_t_row) hx hb hK hP 1 0 rfl rfl rfl d_By_byteAt_17 ?_
      refine lv_icmp_ge (tgt := 34) hx hb d_By_byteAt_18 (by decide) (fun c_18 => ?_) (fun c_18 => ?_)
      · have E := (if_pos c_18).symm.trans E
        refine lv_iconst (v := 0) hx hb d_By_byteAt_34 (by decide) ?_
        exact kr_i hx hb hr hlk hQ hK hP hD hS ⟨(0 : Int32), E.trans E0.symm, rfl, rfl⟩ (by omega) (by omega) d_By_byteAt_35
      · have E := (if_neg c_18).symm.trans E
        refine lv_aload_n hx hb d_By_byteAt_21 rfl (lv_at hl 0 rfl) ?_
        refine va_get (D := D) (v := .ref h_t_row) hx hb hta i_By hown hK hP 0 rfl rfl 1 (by decide) (hta _ lk_By_13) (fun _ h9 => h9) rfl d_By_byteAt_22 ?_
        refine lv_iload_n hx hb d_By_byteAt_25 rfl (lv_at hl 1 rfl) ?_
        refine va_bald hx hb hK hP 1 0 rfl rfl (vin_of c_1 c_18 hn_t_row) d_By_byteAt_26 ?_
        refine lv_sipush (v := 255) hx hb d_By_byteAt_27 (by decide) ?_
        refine lv_iand hx hb d_By_byteAt_30 ?_
        refine lv_goto (tgt := 35) hx hb d_By_byteAt_31 (by decide) ?_
        exact kr_i hx hb hr hlk hQ hK hP hD hS ⟨((f_t_row p1.toNatClampNeg) &&& 255 : Int32), E.trans E0.symm, rfl, rfl⟩ (by omega) (by omega) d_By_byteAt_35
theorem d_By_numberAt_0 : decode b_By_numberAt 0 = .ok (.lconst 0, 1) := by decide +kernel
theorem d_By_numberAt_1 : decode b_By_numberAt 1 = .ok (.lstore_n 3, 1) := by decide +kernel
theorem d_By_numberAt_2 : decode b_By_numberAt 2 = .ok (.iload_n 1, 1) := by decide +kernel
theorem d_By_numberAt_3 : decode b_By_numberAt 3 = .ok (.istore 5, 2) := by decide +kernel
theorem d_By_numberAt_5 : decode b_By_numberAt 5 = .ok (.iload 5, 2) := by decide +kernel
theorem d_By_numberAt_7 : decode b_By_numberAt 7 = .ok (.iload_n 1, 1) := by decide +kernel
theorem d_By_numberAt_8 : decode b_By_numberAt 8 = .ok (.iload_n 2, 1) := by decide +kernel
theorem d_By_numberAt_9 : decode b_By_numberAt 9 = .ok (.iadd, 1) := by decide +kernel
theorem d_By_numberAt_10 : decode b_By_numberAt 10 = .ok (.if_icmp .ge 55, 3) := by decide +kernel
theorem d_By_numberAt_13 : decode b_By_numberAt 13 = .ok (.lload_n 3, 1) := by decide +kernel
theorem d_By_numberAt_14 : decode b_By_numberAt 14 = .ok (.bipush 8, 2) := by decide +kernel
theorem d_By_numberAt_16 : decode b_By_numberAt 16 = .ok (.lshl, 1) := by decide +kernel
theorem d_By_numberAt_17 : decode b_By_numberAt 17 = .ok (.iload 5, 2) := by decide +kernel
theorem d_By_numberAt_19 : decode b_By_numberAt 19 = .ok (.ifCond .lt 36, 3) := by decide +kernel
theorem d_By_numberAt_22 : decode b_By_numberAt 22 = .ok (.iload 5, 2) := by decide +kernel
theorem d_By_numberAt_24 : decode b_By_numberAt 24 = .ok (.aload_n 0, 1) := by decide +kernel
theorem d_By_numberAt_25 : decode b_By_numberAt 25 = .ok (.getfield 17, 3) := by decide +kernel
theorem d_By_numberAt_28 : decode b_By_numberAt 28 = .ok (.if_icmp .ge 27, 3) := by decide +kernel
theorem d_By_numberAt_31 : decode b_By_numberAt 31 = .ok (.iload 5, 2) := by decide +kernel
theorem d_By_numberAt_33 : decode b_By_numberAt 33 = .ok (.aload_n 0, 1) := by decide +kernel
theorem d_By_numberAt_34 : decode b_By_numberAt 34 = .ok (.getfield 13, 3) := by decide +kernel
theorem d_By_numberAt_37 : decode b_By_numberAt 37 = .ok (.arraylength, 1) := by decide +kernel
theorem d_By_numberAt_38 : decode b_By_numberAt 38 = .ok (.if_icmp .ge 17, 3) := by decide +kernel
theorem d_By_numberAt_41 : decode b_By_numberAt 41 = .ok (.aload_n 0, 1) := by decide +kernel
theorem d_By_numberAt_42 : decode b_By_numberAt 42 = .ok (.getfield 13, 3) := by decide +kernel
theorem d_By_numberAt_45 : decode b_By_numberAt 45 = .ok (.iload 5, 2) := by decide +kernel
theorem d_By_numberAt_47 : decode b_By_numberAt 47 = .ok (.baload, 1) := by decide +kernel
theorem d_By_numberAt_48 : decode b_By_numberAt 48 = .ok (.sipush 255, 3) := by decide +kernel
theorem d_By_numberAt_51 : decode b_By_numberAt 51 = .ok (.iand, 1) := by decide +kernel
theorem d_By_numberAt_52 : decode b_By_numberAt 52 = .ok (.goto 4, 3) := by decide +kernel
theorem d_By_numberAt_55 : decode b_By_numberAt 55 = .ok (.iconst 0, 1) := by decide +kernel
theorem d_By_numberAt_56 : decode b_By_numberAt 56 = .ok (.i2l, 1) := by decide +kernel
theorem d_By_numberAt_57 : decode b_By_numberAt 57 = .ok (.lor, 1) := by decide +kernel
theorem d_By_numberAt_58 : decode b_By_numberAt 58 = .ok (.lstore_n 3, 1) := by decide +kernel
theorem d_By_numberAt_59 : decode b_By_numberAt 59 = .ok (.iinc 5 1, 3) := by decide +kernel
theorem d_By_numberAt_62 : decode b_By_numberAt 62 = .ok (.goto (-57), 3) := by decide +kernel
theorem d_By_numberAt_65 : decode b_By_numberAt 65 = .ok (.lload_n 3, 1) := by decide +kernel
theorem d_By_numberAt_66 : decode b_By_numberAt 66 = .ok (.lreturn, 1) := by decide +kernel
def j_By_numberAt_56 (kk_5 : Int32 → Int64 → Int64) (v5_5 : Int32) (j56_s0 : Int64) (j56_s1 : Int32) : Int64 :=
  kk_5 (v5_5 + 1) (j56_s0 ||| ((j56_s1 : Int32).toInt64))
def j_By_numberAt_55 (kk_5 : Int32 → Int64 → Int64) (v5_5 : Int32) (j55_s0 : Int64) : Int64 :=
  j_By_numberAt_56 kk_5 v5_5 j55_s0 0
def lb_By_numberAt_5 (t_count : Int32) (n_t_row : Nat) (f_t_row : Nat → Int32) (p1 : Int32) (p2 : Int32) (kk_5 : Int32 → Int64 → Int64) (v5_5 : Int32) (v5_3 : Int64) : Int64 :=
  if (p1 + p2) ≤ v5_5 then v5_3 else (if v5_5 < 0 then (j_By_numberAt_55 kk_5 v5_5 (v5_3 <<< ((8 : Int32).toInt64 &&& 63))) else (if t_count ≤ v5_5 then (j_By_numberAt_55 kk_5 v5_5 (v5_3 <<< ((8 : Int32).toInt64 &&& 63))) else (if (nI n_t_row) ≤ v5_5 then (j_By_numberAt_55 kk_5 v5_5 (v5_3 <<< ((8 : Int32).toInt64 &&& 63))) else (j_By_numberAt_56 kk_5 v5_5 (v5_3 <<< ((8 : Int32).toInt64 &&& 63)) ((f_t_row v5_5.toNatClampNeg) &&& 255)))))
def lp_By_numberAt_5 (t_count : Int32) (n_t_row : Nat) (f_t_row : Nat → Int32) (p1 : Int32) (p2 : Int32) : Nat → Int32 → Int64 → Int64
  | 0, v5_5, v5_3 => 0
  | n + 1, v5_5, v5_3 => lb_By_numberAt_5 t_count n_t_row f_t_row p1 p2 (lp_By_numberAt_5 t_count n_t_row f_t_row p1 p2 n) v5_5 v5_3
def m_By_numberAt (t_count : Int32) (n_t_row : Nat) (f_t_row : Nat → Int32) (p1 : Int32) (p2 : Int32) : Int64 :=
  lp_By_numberAt_5 t_count n_t_row f_t_row p1 p2 (((p1 + p2).toInt - p1.toInt).toNat + 1) p1 0
set_option maxHeartbeats 4000000 in
set_option maxRecDepth 100000 in
theorem c_By_numberAt (l : Launch) (D : va_G) (cB cI cJ : ClassId) (h_t h_t_row : Nat) (t_most : Int32) (t_count : Int32) (n_t_row : Nat) (f_t_row : Nat → Int32) (p1 : Int32) (p2 : Int32) (hn_t_row : n_t_row < 2147483648) (sz : Nat) : Ct l D cB cI cJ y_By_numberAt b_By_numberAt 6 (some .long) 0 0 0 0 [.ref h_t, .int p1, .int p2] [(h_t, .inr (0, [.int t_most, .ref h_t_row, .int t_count])), (h_t_row, .inl (cB, n_t_row, .inl f_t_row))] (fun v w1 => ∃ (x : Int64), x = m_By_numberAt t_count n_t_row f_t_row p1 p2 ∧ v = some (.long x) ∧ w1 = [(h_t, .inr (0, [.int t_most, .ref h_t_row, .int t_count])), (h_t_row, .inl (cB, n_t_row, .inl f_t_row))]) sz := by
  refine Ct.of (by decide) (Nat.le_of_ble_eq_true rfl) ?_
  intro p e R s m args below meth c A ls Q hx hb hr hlk hml hta hown hin hK hN hA hRf hRl hRc hRs hP hD hS hl hQ
  have hl : lv_has ls 6 [(0, .ref h_t), (1, .int p1), (2, .int p2)] := hl
  obtain ⟨RES, E0⟩ : ∃ R, m_By_numberAt t_count n_t_row f_t_row p1 p2 = R := ⟨_, rfl⟩
  have E := E0
  refine lv_lconst (v := 0) hx hb d_By_numberAt_0 (by decide) ?_
  refine lv_lstore_n (lv' := [(3, .long 0), (0, .ref h_t), (1, .int p1), (2, .int p2)]) hx hb d_By_numberAt_1 rfl hl (by decide) rfl (fun ls hl => ?_)
  refine lv_iload_n hx hb d_By_numberAt_2 rfl (lv_at hl 2 rfl) ?_
  refine lv_istore (lv' := [(5, .int p1), (3, .long 0), (0, .ref h_t), (1, .int p1), (2, .int p2)]) hx hb d_By_numberAt_3 hl (by decide) rfl (fun ls hl => ?_)
  have L_5 : ∀ (n : Nat) (v5_5 : Int32) (v5_3 : Int64), ((p1 + p2).toInt - v5_5.toInt).toNat < n → lp_By_numberAt_5 t_count n_t_row f_t_row p1 p2 n v5_5 v5_3 = RES → ∀ (H : Heap) (locs : List Loc), va_P D classes [(h_t, .inr (0, [.int t_most, .ref h_t_row, .int t_count])), (h_t_row, .inl (cB, n_t_row, .inl f_t_row))] H → va_D A [(h_t, .inr (0, [.int t_most, .ref h_t_row, .int t_count])), (h_t_row, .inl (cB, n_t_row, .inl f_t_row))] → va_S A s.heap H locs → ∀ ls : Array Slot, lv_has ls 6 [(5, .int v5_5), (3, .long v5_3), (0, .ref h_t), (1, .int p1), (2, .int p2)] → W p l e R s m args below meth c H locs 0 0 Q (F0 m 5 ls []) := by
    intro n
    induction n with
    | zero => intro v5_5 v5_3 hlt; exact absurd hlt (Nat.not_lt_zero _)
    | succ n ih =>
      intro v5_5 v5_3 hlt_5 E H locs hP hD hS ls hl
      have E : lb_By_numberAt_5 t_count n_t_row f_t_row p1 p2 (lp_By_numberAt_5 t_count n_t_row f_t_row p1 p2 n) v5_5 v5_3 = RES := E
      generalize lp_By_numberAt_5 t_count n_t_row f_t_row p1 p2 n = kk_5 at ih E
      have ih_5 := ih
      clear ih
      refine lv_iload hx hb d_By_numberAt_5 (lv_at hl 0 rfl) ?_
      refine lv_iload_n hx hb d_By_numberAt_7 rfl (lv_at hl 3 rfl) ?_
      refine lv_iload_n hx hb d_By_numberAt_8 rfl (lv_at hl 4 rfl) ?_
      refine lv_iadd hx hb d_By_numberAt_9 ?_
      refine lv_icmp_ge (tgt := 65) hx hb d_By_numberAt_10 (by decide) (fun c_10 => ?_) (fun c_10 => ?_)
      · have E := (if_pos c_10).symm.trans E
        refine lv_lload_n hx hb d_By_numberAt_65 rfl (lv_at hl 1 rfl) ?_
        exact kr_l hx hb hr hlk hQ hK hP hD hS ⟨(v5_3 : Int64), E.trans E0.symm, rfl, rfl⟩ (by omega) (by omega) d_By_numberAt_66
      · have E := (if_neg c_10).symm.trans E
        refine lv_lload_n hx hb d_By_numberAt_13 rfl (lv_at hl 1 rfl) ?_
        refine lv_bipush (v := 8) hx hb d_By_numberAt_14 (by decide) ?_
        refine lv_lshl (v := v5_3 <<< ((8 : Int32).toInt64 &&& 63)) hx hb d_By_numberAt_16 rfl ?_
        refine lv_iload hx hb d_By_numberAt_17 (lv_at hl 0 rfl) ?_
        have J_56 : ∀ (j56_s0 : Int64) (j56_s1 : Int32), j_By_numberAt_56 kk_5 v5_5 j56_s0 j56_s1 = RES → ∀ (H : Heap) (locs : List Loc), va_P D classes [(h_t, .inr (0, [.int t_most, .ref h_t_row, .int t_count])), (h_t_row, .inl (cB, n_t_row, .inl f_t_row))] H → va_D A [(h_t, .inr (0, [.int t_most, .ref h_t_row, .int t_count])), (h_t_row, .inl (cB, n_t_row, .inl f_t_row))] → va_S A s.heap H locs → ∀ ls : Array Slot, lv_has ls 6 [(5, .int v5_5), (0, .ref h_t), (1, .int p1), (2, .int p2)] → W p l e R s m args below meth c H locs 0 0 Q (F0 m 56 ls [.int j56_s1, .long j56_s0]) := by
          intro j56_s0 j56_s1 E H locs hP hD hS ls hl
          refine lv_i2l (v := (j56_s1 : Int32).toInt64) hx hb d_By_numberAt_56 rfl ?_
          refine lv_lor hx hb d_By_numberAt_57 ?_
          refine lv_lstore_n (lv' := [(3, .long (j56_s0 ||| ((j56_s1 : Int32).toInt64))), (5, .int v5_5), (0, .ref h_t), (1, .int p1), (2, .int p2)]) hx hb d_By_numberAt_58 rfl hl (by decide) rfl (fun ls hl => ?_)
          refine lv_iinc (v := v5_5 + 1) (lv' := [(5, .int (v5_5 + 1)), (3, .long (j56_s0 ||| ((j56_s1 : Int32).toInt64))), (0, .ref h_t), (1, .int p1), (2, .int p2)]) hx hb d_By_numberAt_59 hl (k := 1) rfl rfl (by decide) rfl (fun ls hl => ?_)
          refine lv_goto (tgt := 5) hx hb d_By_numberAt_62 (by decide) ?_
          exact ih_5 (v5_5 + 1) (j56_s0 ||| ((j56_s1 : Int32).toInt64)) (Nat.lt_of_lt_of_le (tm_up c_10) (Nat.le_of_lt_succ hlt_5)) E _ _ hP hD hS ls (lv_sub hl [0, 1, 2, 3, 4] rfl)
        have J_55 : ∀ (j55_s0 : Int64), j_By_numberAt_55 kk_5 v5_5 j55_s0 = RES → ∀ (H : Heap) (locs : List Loc), va_P D classes [(h_t, .inr (0, [.int t_most, .ref h_t_row, .int t_count])), (h_t_row, .inl (cB, n_t_row, .inl f_t_row))] H → va_D A [(h_t, .inr (0, [.int t_most, .ref h_t_row, .int t_count])), (h_t_row, .inl (cB, n_t_row, .inl f_t_row))] → va_S A s.heap H locs → ∀ ls : Array Slot, lv_has ls 6 [(5, .int v5_5), (0, .ref h_t), (1, .int p1), (2, .int p2)] → W p l e R s m args below meth c H locs 0 0 Q (F0 m 55 ls [.long j55_s0]) := by
          intro j55_s0 E H locs hP hD hS ls hl
          refine lv_iconst (v := 0) hx hb d_By_numberAt_55 (by decide) ?_
          exact J_56 j55_s0 0 E _ _ hP hD hS ls (lv_sub hl [0, 1, 2, 3] rfl)
        refine lv_if_lt (tgt := 55) hx hb d_By_numberAt_19 (by decide) (fun c_19 => ?_) (fun c_19 => ?_)
        · have E := (if_pos c_19).symm.trans E
          exact J_55 (v5_3 <<< ((8 : Int32).toInt64 &&& 63)) E _ _ hP hD hS ls (lv_sub hl [0, 2, 3, 4] rfl)
        · have E := (if_neg c_19).symm.trans E
          refine lv_iload hx hb d_By_numberAt_22 (lv_at hl 0 rfl) ?_
          refine lv_aload_n hx hb d_By_numberAt_24 rfl (lv_at hl 2 rfl) ?_
          refine va_get (D := D) (v := .int t_count) hx hb hta i_By hown hK hP 0 rfl rfl 2 (by decide) (hta _ lk_By_17) (fun _ h9 => h9) rfl d_By_numberAt_25 ?_
          refine lv_icmp_ge (tgt := 55) hx hb d_By_numberAt_28 (by decide) (fun c_28 => ?_) (fun c_28 => ?_)
          · have E := (if_pos c_28).symm.trans E
            exact J_55 (v5_3 <<< ((8 : Int32).toInt64 &&& 63)) E _ _ hP hD hS ls (lv_sub hl [0, 2, 3, 4] rfl)
          · have E := (if_neg c_28).symm.trans E
            refine lv_iload hx hb d_By_numberAt_31 (lv_at hl 0 rfl) ?_
            refine lv_aload_n hx hb d_By_numberAt_33 rfl (lv_at hl 2 rfl) ?_
            refine va_get (D := D) (v := .ref h_t_row) hx hb hta i_By hown hK hP 0 rfl rfl 1 (by decide) (hta _ lk_By_13) (fun _ h9 => h9) rfl d_By_numberAt_34 ?_
            refine va_alen (v := nI n_t_row) hx hb hK hP 1 0 rfl rfl rfl d_By_numberAt_37 ?_
            refine lv_icmp_ge (tgt := 55) hx hb d_By_numberAt_38 (by decide) (fun c_38 => ?_) (fun c_38 => ?_)
            · have E := (if_pos c_38).symm.trans E
              exact J_55 (v5_3 <<< ((8 : Int32).toInt64 &&& 63)) E _ _ hP hD hS ls (lv_sub hl [0, 2, 3, 4] rfl)
            · have E := (if_neg c_38).symm.trans E
              refine lv_aload_n hx hb d_By_numberAt_41 rfl (lv_at hl 2 rfl) ?_
              refine va_get (D := D) (v := .ref h_t_row) hx hb hta i_By hown hK hP 0 rfl rfl 1 (by decide) (hta _ lk_By_13) (fun _ h9 => h9) rfl d_By_numberAt_42 ?_
              refine lv_iload hx hb d_By_numberAt_45 (lv_at hl 0 rfl) ?_
              refine va_bald hx hb hK hP 1 0 rfl rfl (vin_of c_19 c_38 hn_t_row) d_By_numberAt_47 ?_
              refine lv_sipush (v := 255) hx hb d_By_numberAt_48 (by decide) ?_
              refine lv_iand hx hb d_By_numberAt_51 ?_
              refine lv_goto (tgt := 56) hx hb d_By_numberAt_52 (by decide) ?_
              exact J_56 (v5_3 <<< ((8 : Int32).toInt64 &&& 63)) ((f_t_row v5_5.toNatClampNeg) &&& 255) E _ _ hP hD hS ls (lv_sub hl [0, 2, 3, 4] rfl)
  exact L_5 _ p1 0 (Nat.lt_succ_self _) E _ _ hP hD hS ls (lv_sub hl [0, 1, 2, 3, 4] rfl)
theorem d_By_intAt_0 : decode b_By_intAt 0 = .ok (.aload_n 0, 1) := by decide +kernel
theorem d_By_intAt_1 : decode b_By_intAt 1 = .ok (.iload_n 1, 1) := by decide +kernel
theorem d_By_intAt_2 : decode b_By_intAt 2 = .ok (.iload_n 2, 1) := by decide +kernel
theorem d_By_intAt_3 : decode b_By_intAt 3 = .ok (.invokevirtual 39, 3) := by decide +kernel
theorem d_By_intAt_6 : decode b_By_intAt 6 = .ok (.l2i, 1) := by decide +kernel
theorem d_By_intAt_7 : decode b_By_intAt 7 = .ok (.ireturn, 1) := by decide +kernel
def k_By_intAt_3 (x3 : Int64) : Int32 :=
  (x3 : Int64).toInt32
def m_By_intAt (t_count : Int32) (n_t_row : Nat) (f_t_row : Nat → Int32) (p1 : Int32) (p2 : Int32) : Int32 :=
  k_By_intAt_3 (m_By_numberAt t_count n_t_row f_t_row p1 p2)
set_option maxHeartbeats 4000000 in
set_option maxRecDepth 100000 in
theorem c_By_intAt (l : Launch) (D : va_G) (cB cI cJ : ClassId) (h_t h_t_row : Nat) (t_most : Int32) (t_count : Int32) (n_t_row : Nat) (f_t_row : Nat → Int32) (p1 : Int32) (p2 : Int32) (hn_t_row : n_t_row < 2147483648) (sz : Nat) : Ct l D cB cI cJ y_By_intAt b_By_intAt 3 (some .int) 1 25 0 0 [.ref h_t, .int p1, .int p2] [(h_t, .inr (0, [.int t_most, .ref h_t_row, .int t_count])), (h_t_row, .inl (cB, n_t_row, .inl f_t_row))] (fun v w1 => ∃ (x : Int32), x = m_By_intAt t_count n_t_row f_t_row p1 p2 ∧ v = some (.int x) ∧ w1 = [(h_t, .inr (0, [.int t_most, .ref h_t_row, .int t_count])), (h_t_row, .inl (cB, n_t_row, .inl f_t_row))]) sz := by
  refine Ct.of (by decide) (Nat.le_of_ble_eq_true rfl) ?_
  intro p e R s m args below meth c A ls Q hx hb hr hlk hml hta hown hin hK hN hA hRf hRl hRc hRs hP hD hS hl hQ
  have hl : lv_has ls 3 [(0, .ref h_t), (1, .int p1), (2, .int p2)] := hl
  obtain ⟨RES, E0⟩ : ∃ R, m_By_intAt t_count n_t_row f_t_row p1 p2 = R := ⟨_, rfl⟩
  have E := E0
  refine lv_aload_n hx hb d_By_intAt_0 rfl (lv_at hl 0 rfl) ?_
  refine lv_iload_n hx hb d_By_intAt_1 rfl (lv_at hl 1 rfl) ?_
  refine lv_iload_n hx hb d_By_intAt_2 rfl (lv_at hl 2 rfl) ?_
  refine kc_V (As := [.int p1, .int p2]) (rest := []) (wr := []) [0, 1] [] ⟨hx, hb, hml, hown, hta⟩ hK hN hP hD hS hA (c_By_numberAt l D cB cI cJ h_t h_t_row t_most t_count n_t_row f_t_row p1 p2 hn_t_row _) (hta _ lk_By_39) (hta _ ini_By) (hta _ code_By_numberAt) code_By_numberAt (hta _ inst_By_numberAt) (hta _ sel_By_numberAt) hd_By_numberAt rfl ⟨by omega, by omega⟩ (ci := 0) 0 rfl rfl rfl rfl (by decide) (by decide) (by decide) rfl hl.1 (lv_room (Nat.le_of_ble_eq_true rfl)) d_By_intAt_3 ⟨by omega, by omega⟩ (fun v w1 H locs hw hP hD hS => ?_)
  obtain ⟨x3, hx3, rfl, rfl⟩ := hw
  have hP : va_P D classes [(h_t, .inr (0, [.int t_most, .ref h_t_row, .int t_count])), (h_t_row, .inl (cB, n_t_row, .inl f_t_row))] H := hP.sub [0, 1] rfl
  have hD : va_D A [(h_t, .inr (0, [.int t_most, .ref h_t_row, .int t_count])), (h_t_row, .inl (cB, n_t_row, .inl f_t_row))] := hD.sub [0, 1] (by decide) rfl
  refine W.eq (g2 := F0 m 6 ls [.long x3]) rfl ?_
  have E : k_By_intAt_3 x3 = RES := (congrArg (k_By_intAt_3) hx3).trans E
  refine lv_l2i (v := (x3 : Int64).toInt32) hx hb d_By_intAt_6 rfl ?_
  exact kr_i hx hb hr hlk hQ hK hP hD hS ⟨((x3 : Int64).toInt32 : Int32), E.trans E0.symm, rfl, rfl⟩ (by omega) (by omega) d_By_intAt_7
