theorem d_Ar_fillI_0 : decode b_Ar_fillI 0 = .ok (.iconst 0, 1) := by decide +kernel
theorem d_Ar_fillI_1 : decode b_Ar_fillI 1 = .ok (.istore_n 2, 1) := by decide +kernel
theorem d_Ar_fillI_2 : decode b_Ar_fillI 2 = .ok (.aload_n 0, 1) := by decide +kernel
theorem d_Ar_fillI_3 : decode b_Ar_fillI 3 = .ok (.arraylength, 1) := by decide +kernel
theorem d_Ar_fillI_4 : decode b_Ar_fillI 4 = .ok (.istore_n 3, 1) := by decide +kernel
theorem d_Ar_fillI_5 : decode b_Ar_fillI 5 = .ok (.iload_n 2, 1) := by decide +kernel
theorem d_Ar_fillI_6 : decode b_Ar_fillI 6 = .ok (.iload_n 3, 1) := by decide +kernel
theorem d_Ar_fillI_7 : decode b_Ar_fillI 7 = .ok (.if_icmp .ge 13, 3) := by decide +kernel
theorem d_Ar_fillI_10 : decode b_Ar_fillI 10 = .ok (.aload_n 0, 1) := by decide +kernel
theorem d_Ar_fillI_11 : decode b_Ar_fillI 11 = .ok (.iload_n 2, 1) := by decide +kernel
theorem d_Ar_fillI_12 : decode b_Ar_fillI 12 = .ok (.iload_n 1, 1) := by decide +kernel
theorem d_Ar_fillI_13 : decode b_Ar_fillI 13 = .ok (.iastore, 1) := by decide +kernel
theorem d_Ar_fillI_14 : decode b_Ar_fillI 14 = .ok (.iinc 2 1, 3) := by decide +kernel
theorem d_Ar_fillI_17 : decode b_Ar_fillI 17 = .ok (.goto (-12), 3) := by decide +kernel
theorem d_Ar_fillI_20 : decode b_Ar_fillI 20 = .ok (.return_, 1) := by decide +kernel
def lb_Ar_fillI_5 (n_a0 : Nat) (p1 : Int32) (kk_5 : Int32 → (Nat → Int32) → (Nat → Int32)) (v5_2 : Int32) (v5_a0 : Nat → Int32) : (Nat → Int32) :=
  if (nI n_a0) ≤ v5_2 then v5_a0 else (kk_5 (v5_2 + 1) (upd v5_a0 v5_2.toNatClampNeg p1))
def lp_Ar_fillI_5 (n_a0 : Nat) (p1 : Int32) : Nat → Int32 → (Nat → Int32) → (Nat → Int32)
  | 0, v5_2, v5_a0 => v5_a0
  | n + 1, v5_2, v5_a0 => lb_Ar_fillI_5 n_a0 p1 (lp_Ar_fillI_5 n_a0 p1 n) v5_2 v5_a0
def m_Ar_fillI (n_a0 : Nat) (f_a0 : Nat → Int32) (p1 : Int32) : (Nat → Int32) :=
  lp_Ar_fillI_5 n_a0 p1 (((nI n_a0).toInt - (0 : Int32).toInt).toNat + 1) 0 f_a0
set_option maxHeartbeats 4000000 in
set_option maxRecDepth 100000 in
theorem c_Ar_fillI (l : Launch) (D : va_G) (cB cI cJ : ClassId) (h_a0 : Nat) (n_a0 : Nat) (f_a0 : Nat → Int32) (p1 : Int32) (hn_a0 : n_a0 < 2147483648) (sz : Nat) : Ct l D cB cI cJ y_Ar_fillI b_Ar_fillI 4 none 0 0 0 0 [.ref h_a0, .int p1] [(h_a0, .inl (cI, n_a0, .inl f_a0))] (fun v w1 => ∃ (x : (Nat → Int32)), x = m_Ar_fillI n_a0 f_a0 p1 ∧ v = none ∧ w1 = [(h_a0, .inl (cI, n_a0, .inl x))]) sz := by
  refine Ct.of (by decide) (Nat.le_of_ble_eq_true rfl) ?_
  intro p e R s m args below meth c A ls Q hx hb hr hlk hml hta hown hin hK hN hA hRf hRl hRc hRs hP hD hS hl hQ
  have hl : lv_has ls 4 [(0, .ref h_a0), (1, .int p1)] := hl
  obtain ⟨RES, E0⟩ : ∃ R, m_Ar_fillI n_a0 f_a0 p1 = R := ⟨_, rfl⟩
  have E := E0
  refine lv_iconst (v := 0) hx hb d_Ar_fillI_0 (by decide) ?_
  refine lv_istore_n (lv' := [(2, .int 0), (0, .ref h_a0), (1, .int p1)]) hx hb d_Ar_fillI_1 rfl hl (by decide) rfl (fun ls hl => ?_)
  refine lv_aload_n hx hb d_Ar_fillI_2 rfl (lv_at hl 1 rfl) ?_
  refine va_alen (v := nI n_a0) hx hb hK hP 0 1 rfl rfl rfl d_Ar_fillI_3 ?_
  refine lv_istore_n (lv' := [(3, .int (nI n_a0)), (2, .int 0), (0, .ref h_a0), (1, .int p1)]) hx hb d_Ar_fillI_4 rfl hl (by decide) rfl (fun ls hl => ?_)
  have L_5 : ∀ (n : Nat) (v5_2 : Int32) (v5_a0 : Nat → Int32), ((nI n_a0).toInt - v5_2.toInt).toNat < n → ¬ v5_2 < 0 → lp_Ar_fillI_5 n_a0 p1 n v5_2 v5_a0 = RES → ∀ (H : Heap) (locs : List Loc), va_P D classes [(h_a0, .inl (cI, n_a0, .inl v5_a0))] H → va_D A [(h_a0, .inl (cI, n_a0, .inl v5_a0))] → va_S A s.heap H locs → ∀ ls : Array Slot, lv_has ls 4 [(3, .int (nI n_a0)), (2, .int v5_2), (0, .ref h_a0), (1, .int p1)] → W p l e R s m args below meth c H locs 0 0 Q (F0 m 5 ls []) := by
    intro n
    induction n with
    | zero => intro v5_2 v5_a0 hlt; exact absurd hlt (Nat.not_lt_zero _)
    | succ n ih =>
      intro v5_2 v5_a0 hlt_5 hinv_5 E H locs hP hD hS ls hl
      have E : lb_Ar_fillI_5 n_a0 p1 (lp_Ar_fillI_5 n_a0 p1 n) v5_2 v5_a0 = RES := E
      generalize lp_Ar_fillI_5 n_a0 p1 n = kk_5 at ih E
      have ih_5 := ih
      clear ih
      refine lv_iload_n hx hb d_Ar_fillI_5 rfl (lv_at hl 1 rfl) ?_
      refine lv_iload_n hx hb d_Ar_fillI_6 rfl (lv_at hl 0 rfl) ?_
      refine lv_icmp_ge (tgt := 20) hx hb d_Ar_fillI_7 (by decide) (fun c_7 => ?_) (fun c_7 => ?_)
      · have E := (if_pos c_7).symm.trans E
        exact kr_v hx hb hr hlk hQ hK hP hD hS ⟨(v5_a0 : (Nat → Int32)), E.trans E0.symm, rfl, rfl⟩ (by omega) (by omega) d_Ar_fillI_20
      · have E := (if_neg c_7).symm.trans E
        refine lv_aload_n hx hb d_Ar_fillI_10 rfl (lv_at hl 2 rfl) ?_
        refine lv_iload_n hx hb d_Ar_fillI_11 rfl (lv_at hl 1 rfl) ?_
        refine lv_iload_n hx hb d_Ar_fillI_12 rfl (lv_at hl 3 rfl) ?_
        refine va_iast hx hb hK hP hD hS 0 1 rfl rfl (vin_of hinv_5 c_7 hn_a0) d_Ar_fillI_13 (fun H locs (hP : va_P D classes [(h_a0, .inl (cI, n_a0, .inl (upd v5_a0 v5_2.toNatClampNeg p1)))] H) (hD : va_D A [(h_a0, .inl (cI, n_a0, .inl (upd v5_a0 v5_2.toNatClampNeg p1)))]) hS => ?_)
        refine lv_iinc (v := v5_2 + 1) (lv' := [(2, .int (v5_2 + 1)), (3, .int (nI n_a0)), (0, .ref h_a0), (1, .int p1)]) hx hb d_Ar_fillI_14 hl (k := 1) rfl rfl (by decide) rfl (fun ls hl => ?_)
        refine lv_goto (tgt := 5) hx hb d_Ar_fillI_17 (by decide) ?_
        exact ih_5 (v5_2 + 1) (upd v5_a0 v5_2.toNatClampNeg p1) (Nat.lt_of_lt_of_le (tm_up c_7) (Nat.le_of_lt_succ hlt_5)) (up_nn hinv_5 c_7) E _ _ hP hD hS ls (lv_sub hl [1, 0, 2, 3] rfl)
  exact L_5 _ 0 f_a0 (Nat.lt_succ_self _) (by decide) E _ _ hP hD hS ls (lv_sub hl [0, 1, 2, 3] rfl)
theorem d_Ar_fillJ_0 : decode b_Ar_fillJ 0 = .ok (.iconst 0, 1) := by decide +kernel
theorem d_Ar_fillJ_1 : decode b_Ar_fillJ 1 = .ok (.istore_n 3, 1) := by decide +kernel
theorem d_Ar_fillJ_2 : decode b_Ar_fillJ 2 = .ok (.aload_n 0, 1) := by decide +kernel
theorem d_Ar_fillJ_3 : decode b_Ar_fillJ 3 = .ok (.arraylength, 1) := by decide +kernel
theorem d_Ar_fillJ_4 : decode b_Ar_fillJ 4 = .ok (.istore 4, 2) := by decide +kernel
theorem d_Ar_fillJ_6 : decode b_Ar_fillJ 6 = .ok (.iload_n 3, 1) := by decide +kernel
theorem d_Ar_fillJ_7 : decode b_Ar_fillJ 7 = .ok (.iload 4, 2) := by decide +kernel
theorem d_Ar_fillJ_9 : decode b_Ar_fillJ 9 = .ok (.if_icmp .ge 13, 3) := by decide +kernel
theorem d_Ar_fillJ_12 : decode b_Ar_fillJ 12 = .ok (.aload_n 0, 1) := by decide +kernel
theorem d_Ar_fillJ_13 : decode b_Ar_fillJ 13 = .ok (.iload_n 3, 1) := by decide +kernel
theorem d_Ar_fillJ_14 : decode b_Ar_fillJ 14 = .ok (.lload_n 1, 1) := by decide +kernel
theorem d_Ar_fillJ_15 : decode b_Ar_fillJ 15 = .ok (.lastore, 1) := by decide +kernel
theorem d_Ar_fillJ_16 : decode b_Ar_fillJ 16 = .ok (.iinc 3 1, 3) := by decide +kernel
theorem d_Ar_fillJ_19 : decode b_Ar_fillJ 19 = .ok (.goto (-13), 3) := by decide +kernel
theorem d_Ar_fillJ_22 : decode b_Ar_fillJ 22 = .ok (.return_, 1) := by decide +kernel
def lb_Ar_fillJ_6 (n_a0 : Nat) (p1 : Int64) (kk_6 : Int32 → (Nat → Int64) → (Nat → Int64)) (v6_3 : Int32) (v6_a0 : Nat → Int64) : (Nat → Int64) :=
  if (nI n_a0) ≤ v6_3 then v6_a0 else (kk_6 (v6_3 + 1) (vp_updL v6_a0 v6_3.toNatClampNeg p1))
def lp_Ar_fillJ_6 (n_a0 : Nat) (p1 : Int64) : Nat → Int32 → (Nat → Int64) → (Nat → Int64)
  | 0, v6_3, v6_a0 => v6_a0
  | n + 1, v6_3, v6_a0 => lb_Ar_fillJ_6 n_a0 p1 (lp_Ar_fillJ_6 n_a0 p1 n) v6_3 v6_a0
def m_Ar_fillJ (n_a0 : Nat) (f_a0 : Nat → Int64) (p1 : Int64) : (Nat → Int64) :=
  lp_Ar_fillJ_6 n_a0 p1 (((nI n_a0).toInt - (0 : Int32).toInt).toNat + 1) 0 f_a0
set_option maxHeartbeats 4000000 in
set_option maxRecDepth 100000 in
theorem c_Ar_fillJ (l : Launch) (D : va_G) (cB cI cJ : ClassId) (h_a0 : Nat) (n_a0 : Nat) (f_a0 : Nat → Int64) (p1 : Int64) (hn_a0 : n_a0 < 2147483648) (sz : Nat) : Ct l D cB cI cJ y_Ar_fillJ b_Ar_fillJ 5 none 0 0 0 0 [.ref h_a0, .long p1] [(h_a0, .inl (cJ, n_a0, .inr (.inl f_a0)))] (fun v w1 => ∃ (x : (Nat → Int64)), x = m_Ar_fillJ n_a0 f_a0 p1 ∧ v = none ∧ w1 = [(h_a0, .inl (cJ, n_a0, .inr (.inl x)))]) sz := by
  refine Ct.of (by decide) (Nat.le_of_ble_eq_true rfl) ?_
  intro p e R s m args below meth c A ls Q hx hb hr hlk hml hta hown hin hK hN hA hRf hRl hRc hRs hP hD hS hl hQ
  have hl : lv_has ls 5 [(0, .ref h_a0), (1, .long p1)] := hl
  obtain ⟨RES, E0⟩ : ∃ R, m_Ar_fillJ n_a0 f_a0 p1 = R := ⟨_, rfl⟩
  have E := E0
  refine lv_iconst (v := 0) hx hb d_Ar_fillJ_0 (by decide) ?_
  refine lv_istore_n (lv' := [(3, .int 0), (0, .ref h_a0), (1, .long p1)]) hx hb d_Ar_fillJ_1 rfl hl (by decide) rfl (fun ls hl => ?_)
  refine lv_aload_n hx hb d_Ar_fillJ_2 rfl (lv_at hl 1 rfl) ?_
  refine va_alen (v := nI n_a0) hx hb hK hP 0 2 rfl rfl rfl d_Ar_fillJ_3 ?_
  refine lv_istore (lv' := [(4, .int (nI n_a0)), (3, .int 0), (0, .ref h_a0), (1, .long p1)]) hx hb d_Ar_fillJ_4 hl (by decide) rfl (fun ls hl => ?_)
  have L_6 : ∀ (n : Nat) (v6_3 : Int32) (v6_a0 : Nat → Int64), ((nI n_a0).toInt - v6_3.toInt).toNat < n → ¬ v6_3 < 0 → lp_Ar_fillJ_6 n_a0 p1 n v6_3 v6_a0 = RES → ∀ (H : Heap) (locs : List Loc), va_P D classes [(h_a0, .inl (cJ, n_a0, .inr (.inl v6_a0)))] H → va_D A [(h_a0, .inl (cJ, n_a0, .inr (.inl v6_a0)))] → va_S A s.heap H locs → ∀ ls : Array Slot, lv_has ls 5 [(4, .int (nI n_a0)), (3, .int v6_3), (0, .ref h_a0), (1, .long p1)] → W p l e R s m args below meth c H locs 0 0 Q (F0 m 6 ls []) := by
    intro n
    induction n with
    | zero => intro v6_3 v6_a0 hlt; exact absurd hlt (Nat.not_lt_zero _)
    | succ n ih =>
      intro v6_3 v6_a0 hlt_6 hinv_6 E H locs hP hD hS ls hl
      have E : lb_Ar_fillJ_6 n_a0 p1 (lp_Ar_fillJ_6 n_a0 p1 n) v6_3 v6_a0 = RES := E
      generalize lp_Ar_fillJ_6 n_a0 p1 n = kk_6 at ih E
      have ih_6 := ih
      clear ih
      refine lv_iload_n hx hb d_Ar_fillJ_6 rfl (lv_at hl 1 rfl) ?_
      refine lv_iload hx hb d_Ar_fillJ_7 (lv_at hl 0 rfl) ?_
      refine lv_icmp_ge (tgt := 22) hx hb d_Ar_fillJ_9 (by decide) (fun c_9 => ?_) (fun c_9 => ?_)
      · have E := (if_pos c_9).symm.trans E
        exact kr_v hx hb hr hlk hQ hK hP hD hS ⟨(v6_a0 : (Nat → Int64)), E.trans E0.symm, rfl, rfl⟩ (by omega) (by omega) d_Ar_fillJ_22
      · have E := (if_neg c_9).symm.trans E
        refine lv_aload_n hx hb d_Ar_fillJ_12 rfl (lv_at hl 2 rfl) ?_
        refine lv_iload_n hx hb d_Ar_fillJ_13 rfl (lv_at hl 1 rfl) ?_
        refine lv_lload_n hx hb d_Ar_fillJ_14 rfl (lv_at hl 3 rfl) ?_
        refine va_last hx hb hK hP hD hS 0 2 rfl rfl (vin_of hinv_6 c_9 hn_a0) d_Ar_fillJ_15 (fun H locs (hP : va_P D classes [(h_a0, .inl (cJ, n_a0, .inr (.inl (vp_updL v6_a0 v6_3.toNatClampNeg p1))))] H) (hD : va_D A [(h_a0, .inl (cJ, n_a0, .inr (.inl (vp_updL v6_a0 v6_3.toNatClampNeg p1))))]) hS => ?_)
        refine lv_iinc (v := v6_3 + 1) (lv' := [(3, .int (v6_3 + 1)), (4, .int (nI n_a0)), (0, .ref h_a0), (1, .long p1)]) hx hb d_Ar_fillJ_16 hl (k := 1) rfl rfl (by decide) rfl (fun ls hl => ?_)
        refine lv_goto (tgt := 6) hx hb d_Ar_fillJ_19 (by decide) ?_
        exact ih_6 (v6_3 + 1) (vp_updL v6_a0 v6_3.toNatClampNeg p1) (Nat.lt_of_lt_of_le (tm_up c_9) (Nat.le_of_lt_succ hlt_6)) (up_nn hinv_6 c_9) E _ _ hP hD hS ls (lv_sub hl [1, 0, 2, 3] rfl)
  exact L_6 _ 0 f_a0 (Nat.lt_succ_self _) (by decide) E _ _ hP hD hS ls (lv_sub hl [0, 1, 2, 3] rfl)
theorem d_Ar_copyOf_0 : decode b_Ar_copyOf 0 = .ok (.iload_n 1, 1) := by decide +kernel
theorem d_Ar_copyOf_1 : decode b_Ar_copyOf 1 = .ok (.aload_n 0, 1) := by decide +kernel
theorem d_Ar_copyOf_2 : decode b_Ar_copyOf 2 = .ok (.arraylength, 1) := by decide +kernel
theorem d_Ar_copyOf_3 : decode b_Ar_copyOf 3 = .ok (.if_icmp .ne 11, 3) := by decide +kernel
theorem d_Ar_copyOf_14 : decode b_Ar_copyOf 14 = .ok (.iload_n 1, 1) := by decide +kernel
theorem d_Ar_copyOf_15 : decode b_Ar_copyOf 15 = .ok (.newarray .byte, 2) := by decide +kernel
theorem d_Ar_copyOf_17 : decode b_Ar_copyOf 17 = .ok (.astore_n 2, 1) := by decide +kernel
theorem d_Ar_copyOf_18 : decode b_Ar_copyOf 18 = .ok (.aload_n 0, 1) := by decide +kernel
theorem d_Ar_copyOf_19 : decode b_Ar_copyOf 19 = .ok (.iconst 0, 1) := by decide +kernel
theorem d_Ar_copyOf_20 : decode b_Ar_copyOf 20 = .ok (.aload_n 2, 1) := by decide +kernel
theorem d_Ar_copyOf_21 : decode b_Ar_copyOf 21 = .ok (.iconst 0, 1) := by decide +kernel
theorem d_Ar_copyOf_22 : decode b_Ar_copyOf 22 = .ok (.aload_n 0, 1) := by decide +kernel
theorem d_Ar_copyOf_23 : decode b_Ar_copyOf 23 = .ok (.arraylength, 1) := by decide +kernel
theorem d_Ar_copyOf_24 : decode b_Ar_copyOf 24 = .ok (.iload_n 1, 1) := by decide +kernel
theorem d_Ar_copyOf_25 : decode b_Ar_copyOf 25 = .ok (.invokestatic 304, 3) := by decide +kernel
theorem d_Ar_copyOf_28 : decode b_Ar_copyOf 28 = .ok (.invokestatic 150, 3) := by decide +kernel
theorem d_Ar_copyOf_31 : decode b_Ar_copyOf 31 = .ok (.aload_n 2, 1) := by decide +kernel
theorem d_Ar_copyOf_32 : decode b_Ar_copyOf 32 = .ok (.areturn, 1) := by decide +kernel
set_option maxHeartbeats 4000000 in
set_option maxRecDepth 100000 in
/-- Arrays.copyOf of bytes, to a greater length -/
theorem c_Ar_copyOf (l : Launch) (D : va_G) (cB cI cJ : ClassId) (h_a0 : Nat) (n_a0 : Nat) (f_a0 : Nat → Int32) (p1 : Int32) (hn : n_a0 < 2147483648) (hgt : nI n_a0 < p1) (hby : p1.toNatClampNeg ≤ 536870912) (hfit : sb_Fit f_a0) (sz : Nat) :
    Ct l D cB cI cJ y_Ar_copyOf b_Ar_copyOf 3 (some (.array .byte)) 1 60 1 p1.toNatClampNeg [.ref h_a0, .int p1] [(h_a0, .inl (cB, n_a0, .inl f_a0))] (fun v w1 => ∃ (q_r : Nat), v = some (.ref q_r) ∧ w1 = [(h_a0, .inl (cB, n_a0, .inl f_a0)), (q_r, .inl (cB, p1.toNatClampNeg, .inl (va_cpy f_a0 (fun _ => 0) 0 0 n_a0)))]) sz := by
  refine Ct.of (by decide) (Nat.le_of_ble_eq_true rfl) ?_
  intro p e R s m args below meth c A ls Q hx hb hr hlk hml hta hown hin hK hN hA hRf hRl hRc hRs hP hD hS hl hQ
  have hl : lv_has ls 3 [(0, .ref h_a0), (1, .int p1)] := hl
  refine lv_iload_n hx hb d_Ar_copyOf_0 rfl (lv_at hl 1 rfl) ?_
  refine lv_aload_n hx hb d_Ar_copyOf_1 rfl (lv_at hl 0 rfl) ?_
  refine va_alen (v := nI n_a0) hx hb hK hP 0 0 rfl rfl rfl d_Ar_copyOf_2 ?_
  refine lv_icmp_ne (tgt := 14) hx hb d_Ar_copyOf_3 (by decide) (fun c_3 => ?_) (fun c_3 => ?_)
  · refine lv_iload_n hx hb d_Ar_copyOf_14 rfl (lv_at hl 1 rfl) ?_
    refine kn_byte hx hb (hta _ ac_byte) hK hP hD hS hA (N := p1.toNatClampNeg) (nI_lt_nn hn hgt) rfl (by omega) (by omega) (by omega) d_Ar_copyOf_15 (fun q H (hP : va_P D classes [(h_a0, .inl (cB, n_a0, .inl f_a0)), (q, .inl (cB, p1.toNatClampNeg, .inl (fun _ => 0)))] H) (hD : va_D A [(h_a0, .inl (cB, n_a0, .inl f_a0)), (q, .inl (cB, p1.toNatClampNeg, .inl (fun _ => 0)))]) hS => ?_)
    refine lv_astore_n (lv' := [(2, .ref q), (0, .ref h_a0), (1, .int p1)]) hx hb d_Ar_copyOf_17 rfl hl (by decide) rfl (fun ls hl => ?_)
    refine lv_aload_n hx hb d_Ar_copyOf_18 rfl (lv_at hl 1 rfl) ?_
    refine lv_iconst (v := 0) hx hb d_Ar_copyOf_19 (by decide) ?_
    refine lv_aload_n hx hb d_Ar_copyOf_20 rfl (lv_at hl 0 rfl) ?_
    refine lv_iconst (v := 0) hx hb d_Ar_copyOf_21 (by decide) ?_
    refine lv_aload_n hx hb d_Ar_copyOf_22 rfl (lv_at hl 1 rfl) ?_
    refine va_alen (v := nI n_a0) hx hb hK hP 0 0 rfl rfl rfl d_Ar_copyOf_23 ?_
    refine lv_iload_n hx hb d_Ar_copyOf_24 rfl (lv_at hl 2 rfl) ?_
    refine va_mmin hx hb (hml.trans hl.1.symm) hown (hta _ lk_Ar_304) (hta _ stat_Math_min) (hta _ ini_Math) (hta _ code_Math_min) (by omega) (by simp only [List.map, Value.category, List.sum_cons, List.sum_nil]; omega) (by omega) (by omega) d_Ar_copyOf_25 ?_
    have hm : (if p1 < nI n_a0 then p1 else nI n_a0) = nI n_a0 := if_neg (fun h => by rw [Int32.lt_iff_toInt_lt] at h hgt; omega)
    rw [hm]
    refine va_copyi (n := nI n_a0) hx hb (hml.trans hl.1.symm) hown (hta _ lk_Ar_150) (hta _ nat_arraycopy) (hta _ stat_arraycopy) (hta _ ini_System) hK hP hD hS 0 1 0 0 rfl rfl rfl rfl rfl (by decide) (by decide) (nI_pos hn) (by rw [nI_clamp hn]; exact Nat.le_of_eq (Nat.zero_add _)) (by rw [nI_clamp hn]; exact Nat.le_trans (Nat.le_of_eq (Nat.zero_add _)) (nI_lt_len hn hgt)) (fun i _ => hfit _) (by omega) (by rw [hRl]; decide +kernel) d_Ar_copyOf_28 (fun H locs hP hD hS => ?_)
    rw [nI_clamp hn] at hP hD
    have hP : va_P D classes [(h_a0, .inl (cB, n_a0, .inl f_a0)), (q, .inl (cB, p1.toNatClampNeg, .inl (va_cpy f_a0 (fun _ => 0) 0 0 n_a0)))] H := hP
    have hD : va_D A [(h_a0, .inl (cB, n_a0, .inl f_a0)), (q, .inl (cB, p1.toNatClampNeg, .inl (va_cpy f_a0 (fun _ => 0) 0 0 n_a0)))] := hD
    refine lv_aload_n hx hb d_Ar_copyOf_31 rfl (lv_at hl 0 rfl) ?_
    exact kr_a hx hb hr hlk hQ hK hP hD hS ⟨q, rfl, rfl⟩ (by omega) (by omega) (Or.inr ⟨_, rfl⟩) d_Ar_copyOf_32
  · exact absurd c_3 (fun h => by rw [h] at hgt; exact absurd hgt (by rw [Int32.lt_iff_toInt_lt]; omega))
theorem d_By_init_0 : decode b_By_init 0 = .ok (.aload_n 0, 1) := by decide +kernel
theorem d_By_init_1 : decode b_By_init 1 = .ok (.invokespecial 1, 3) := by decide +kernel
theorem d_By_init_4 : decode b_By_init 4 = .ok (.aload_n 0, 1) := by decide +kernel
theorem d_By_init_5 : decode b_By_init 5 = .ok (.iload_n 1, 1) := by decide +kernel
theorem d_By_init_6 : decode b_By_init 6 = .ok (.putfield 7, 3) := by decide +kernel
theorem d_By_init_9 : decode b_By_init 9 = .ok (.aload_n 0, 1) := by decide +kernel
theorem d_By_init_10 : decode b_By_init 10 = .ok (.bipush 64, 2) := by decide +kernel
theorem d_By_init_12 : decode b_By_init 12 = .ok (.newarray .byte, 2) := by decide +kernel
theorem d_By_init_14 : decode b_By_init 14 = .ok (.putfield 13, 3) := by decide +kernel
theorem d_By_init_17 : decode b_By_init 17 = .ok (.aload_n 0, 1) := by decide +kernel
theorem d_By_init_18 : decode b_By_init 18 = .ok (.iconst 0, 1) := by decide +kernel
theorem d_By_init_19 : decode b_By_init 19 = .ok (.putfield 17, 3) := by decide +kernel
theorem d_By_init_22 : decode b_By_init 22 = .ok (.return_, 1) := by decide +kernel

set_option maxHeartbeats 4000000 in
set_option maxRecDepth 100000 in
theorem c_By_init (l : Launch) (D : va_G) (cB cI cJ : ClassId) (h_t : Nat) (p1 : Int32) (sz : Nat) : Ct l D cB cI cJ y_By_init b_By_init 2 none 1 20 1 64 [.ref h_t, .int p1] [(h_t, .inr (0, [.int 0, .null, .int 0]))] (fun v w1 => ∃ (q_12 : Nat), v = none ∧ w1 = [(h_t, .inr (0, [.int p1, .ref q_12, .int 0])), (q_12, .inl (cB, 64, .inl (fun _ => 0)))]) sz := by
  refine Ct.of (by decide) (Nat.le_of_ble_eq_true rfl) ?_
  intro p e R s m args below meth c A ls Q hx hb hr hlk hml hta hown hin hK hN hA hRf hRl hRc hRs hP hD hS hl hQ
  have hl : lv_has ls 2 [(0, .ref h_t), (1, .int p1)] := hl
  refine lv_aload_n hx hb d_By_init_0 rfl (lv_at hl 0 rfl) ?_
  refine W.objInit hx hb hown (hta _ lk_By_1) (hta _ inst_Object_init) (hta _ code_Object_init) rfl (by rw [hml]; exact hl.1) rfl d_By_init_1 (by omega) (by first | omega | (simp only [List.map, List.sum_cons, List.sum_nil, F0, JFrame.monitorRoom]; omega)) ?_
  refine lv_aload_n hx hb d_By_init_4 rfl (lv_at hl 0 rfl) ?_
  refine lv_iload_n hx hb d_By_init_5 rfl (lv_at hl 1 rfl) ?_
  refine va_putF (D := D) (ty := .int) hx hb hta i_By t_By t_By_ok n_By hown hK hP hD hS 0 rfl rfl 0 (by decide) (hta _ lk_By_7) (fun _ h9 => h9) rfl hin rfl (by decide +kernel) rfl rfl (Nat.le_of_ble_eq_true rfl) d_By_init_6 (fun H locs (hP : va_P D classes [(h_t, .inr (0, [.int p1, .null, .int 0]))] H) (hD : va_D A [(h_t, .inr (0, [.int p1, .null, .int 0]))]) hS => ?_)
  refine lv_aload_n hx hb d_By_init_9 rfl (lv_at hl 0 rfl) ?_
  refine lv_bipush (v := 64) hx hb d_By_init_10 (by decide) ?_
  refine kn_byte hx hb (hta _ ac_byte) hK hP hD hS hA (N := 64) (by decide) (by decide) (by decide) (by omega) (by omega) d_By_init_12 (fun q_12 H (hP : va_P D classes [(h_t, .inr (0, [.int p1, .null, .int 0])), (q_12, .inl (cB, 64, .inl (fun _ => 0)))] H) (hD : va_D A [(h_t, .inr (0, [.int p1, .null, .int 0])), (q_12, .inl (cB, 64, .inl (fun _ => 0)))]) hS => ?_)
  refine va_put (D := D) (ty := .array .byte) hx hb hta i_By t_By t_By_ok n_By hown hK hP hD hS 0 rfl rfl 1 (by decide) (hta _ lk_By_13) (fun _ h9 => h9) rfl (by decide +kernel) rfl rfl (Nat.le_of_ble_eq_true rfl) d_By_init_14 (fun H locs (hP : va_P D classes [(h_t, .inr (0, [.int p1, .ref q_12, .int 0])), (q_12, .inl (cB, 64, .inl (fun _ => 0)))] H) (hD : va_D A [(h_t, .inr (0, [.int p1, .ref q_12, .int 0])), (q_12, .inl (cB, 64, .inl (fun _ => 0)))]) hS => ?_)
  refine lv_aload_n hx hb d_By_init_17 rfl (lv_at hl 0 rfl) ?_
  refine lv_iconst (v := 0) hx hb d_By_init_18 (by decide) ?_
  refine va_put (D := D) (ty := .int) hx hb hta i_By t_By t_By_ok n_By hown hK hP hD hS 0 rfl rfl 2 (by decide) (hta _ lk_By_17) (fun _ h9 => h9) rfl (by decide +kernel) rfl rfl (Nat.le_of_ble_eq_true rfl) d_By_init_19 (fun H locs (hP : va_P D classes [(h_t, .inr (0, [.int p1, .ref q_12, .int 0])), (q_12, .inl (cB, 64, .inl (fun _ => 0)))] H) (hD : va_D A [(h_t, .inr (0, [.int p1, .ref q_12, .int 0])), (q_12, .inl (cB, 64, .inl (fun _ => 0)))]) hS => ?_)
  exact kr_v hx hb hr hlk hQ hK hP hD hS ⟨q_12, rfl, rfl⟩ (by omega) (by omega) d_By_init_22
theorem d_By_makeRoom_0 : decode b_By_makeRoom 0 = .ok (.aload_n 0, 1) := by decide +kernel
theorem d_By_makeRoom_1 : decode b_By_makeRoom 1 = .ok (.getfield 7, 3) := by decide +kernel
theorem d_By_makeRoom_4 : decode b_By_makeRoom 4 = .ok (.aload_n 0, 1) := by decide +kernel
theorem d_By_makeRoom_5 : decode b_By_makeRoom 5 = .ok (.getfield 17, 3) := by decide +kernel
theorem d_By_makeRoom_8 : decode b_By_makeRoom 8 = .ok (.iload_n 1, 1) := by decide +kernel
theorem d_By_makeRoom_9 : decode b_By_makeRoom 9 = .ok (.iadd, 1) := by decide +kernel
theorem d_By_makeRoom_10 : decode b_By_makeRoom 10 = .ok (.invokestatic 20, 3) := by decide +kernel
theorem d_By_makeRoom_13 : decode b_By_makeRoom 13 = .ok (.istore_n 2, 1) := by decide +kernel
theorem d_By_makeRoom_14 : decode b_By_makeRoom 14 = .ok (.iload_n 2, 1) := by decide +kernel
theorem d_By_makeRoom_15 : decode b_By_makeRoom 15 = .ok (.aload_n 0, 1) := by decide +kernel
theorem d_By_makeRoom_16 : decode b_By_makeRoom 16 = .ok (.getfield 13, 3) := by decide +kernel
theorem d_By_makeRoom_19 : decode b_By_makeRoom 19 = .ok (.arraylength, 1) := by decide +kernel
theorem d_By_makeRoom_20 : decode b_By_makeRoom 20 = .ok (.if_icmp .le 32, 3) := by decide +kernel
theorem d_By_makeRoom_23 : decode b_By_makeRoom 23 = .ok (.aload_n 0, 1) := by decide +kernel
theorem d_By_makeRoom_24 : decode b_By_makeRoom 24 = .ok (.aload_n 0, 1) := by decide +kernel
theorem d_By_makeRoom_25 : decode b_By_makeRoom 25 = .ok (.getfield 13, 3) := by decide +kernel
theorem d_By_makeRoom_28 : decode b_By_makeRoom 28 = .ok (.aload_n 0, 1) := by decide +kernel
theorem d_By_makeRoom_29 : decode b_By_makeRoom 29 = .ok (.getfield 7, 3) := by decide +kernel
theorem d_By_makeRoom_32 : decode b_By_makeRoom 32 = .ok (.iload_n 2, 1) := by decide +kernel
theorem d_By_makeRoom_33 : decode b_By_makeRoom 33 = .ok (.iconst 2, 1) := by decide +kernel
theorem d_By_makeRoom_34 : decode b_By_makeRoom 34 = .ok (.aload_n 0, 1) := by decide +kernel
theorem d_By_makeRoom_35 : decode b_By_makeRoom 35 = .ok (.getfield 13, 3) := by decide +kernel
theorem d_By_makeRoom_38 : decode b_By_makeRoom 38 = .ok (.arraylength, 1) := by decide +kernel
theorem d_By_makeRoom_39 : decode b_By_makeRoom 39 = .ok (.imul, 1) := by decide +kernel
theorem d_By_makeRoom_40 : decode b_By_makeRoom 40 = .ok (.invokestatic 26, 3) := by decide +kernel
theorem d_By_makeRoom_43 : decode b_By_makeRoom 43 = .ok (.invokestatic 20, 3) := by decide +kernel
theorem d_By_makeRoom_46 : decode b_By_makeRoom 46 = .ok (.invokestatic 29, 3) := by decide +kernel
theorem d_By_makeRoom_49 : decode b_By_makeRoom 49 = .ok (.putfield 13, 3) := by decide +kernel
theorem d_By_makeRoom_52 : decode b_By_makeRoom 52 = .ok (.return_, 1) := by decide +kernel
def m_By_makeRoom (t_most : Int32) (t_count : Int32) (n_t_row : Nat) (f_t_row : Nat → Int32) (p1 : Int32) : Nat × (Nat → Int32) :=
  if (if (t_count + p1) < t_most then (t_count + p1) else t_most) ≤ (nI n_t_row) then (n_t_row, f_t_row) else (((if (if (if (t_count + p1) < t_most then (t_count + p1) else t_most) < (2 * (nI n_t_row)) then (2 * (nI n_t_row)) else (if (t_count + p1) < t_most then (t_count + p1) else t_most)) < t_most then (if (if (t_count + p1) < t_most then (t_count + p1) else t_most) < (2 * (nI n_t_row)) then (2 * (nI n_t_row)) else (if (t_count + p1) < t_most then (t_count + p1) else t_most)) else t_most).toNatClampNeg, va_cpy f_t_row (fun _ => 0) 0 0 n_t_row))
set_option maxHeartbeats 4000000 in
set_option maxRecDepth 100000 in
theorem c_By_makeRoom (l : Launch) (D : va_G) (cB cI cJ : ClassId) (h_t h_t_row : Nat) (t_most : Int32) (t_count : Int32) (n_t_row : Nat) (f_t_row : Nat → Int32) (p1 : Int32) (hmost : t_most.toInt ≤ 65536) (hfit : sb_Fit f_t_row) (hn_t_row : n_t_row < 2147483648) (sz : Nat) : Ct l D cB cI cJ y_By_makeRoom b_By_makeRoom 3 none 2 82 1 (gr_By t_most t_count n_t_row p1) [.ref h_t, .int p1] [(h_t, .inr (0, [.int t_most, .ref h_t_row, .int t_count])), (h_t_row, .inl (cB, n_t_row, .inl f_t_row))] (fun v w1 => ∃ (x : Nat × (Nat → Int32)) (q_t_row : Nat), x = m_By_makeRoom t_most t_count n_t_row f_t_row p1 ∧ v = none ∧ w1 = [(h_t, .inr (0, [.int t_most, .ref q_t_row, .int t_count])), (q_t_row, .inl (cB, x.1, .inl x.2))]) sz := by
  refine Ct.of (by decide) (Nat.le_of_ble_eq_true rfl) ?_
  intro p e R s m args below meth c A ls Q hx hb hr hlk hml hta hown hin hK hN hA hRf hRl hRc hRs hP hD hS hl hQ
  have hl : lv_has ls 3 [(0, .ref h_t), (1, .int p1)] := hl
  obtain ⟨RES, E0⟩ : ∃ R, m_By_makeRoom t_most t_count n_t_row f_t_row p1 = R := ⟨_, rfl⟩
  have E := E0
  refine lv_aload_n hx hb d_By_makeRoom_0 rfl (lv_at hl 0 rfl) ?_
  refine va_get (D := D) (v := .int t_most) hx hb hta i_By hown hK hP 0 rfl rfl 0 (by decide) (hta _ lk_By_7) (fun _ h9 => h9) rfl d_By_makeRoom_1 ?_
  refine lv_aload_n hx hb d_By_makeRoom_4 rfl (lv_at hl 0 rfl) ?_
  refine va_get (D := D) (v := .int t_count) hx hb hta i_By hown hK hP 0 rfl rfl 2 (by decide) (hta _ lk_By_17) (fun _ h9 => h9) rfl d_By_makeRoom_5 ?_
  refine lv_iload_n hx hb d_By_makeRoom_8 rfl (lv_at hl 1 rfl) ?_
  refine lv_iadd hx hb d_By_makeRoom_9 ?_
  refine va_mmin hx hb (hml.trans hl.1.symm) hown (hta _ lk_By_20) (hta _ stat_Math_min) (hta _ ini_Math) (hta _ code_Math_min) (by omega) (by simp only [List.map, Value.category, List.sum_cons, List.sum_nil]; omega) (by omega) (by omega) d_By_makeRoom_10 ?_
  refine lv_istore_n (lv' := [(2, .int (if (t_count + p1) < t_most then (t_count + p1) else t_most)), (0, .ref h_t), (1, .int p1)]) hx hb d_By_makeRoom_13 rfl hl (by decide) rfl (fun ls hl => ?_)
  refine lv_iload_n hx hb d_By_makeRoom_14 rfl (lv_at hl 0 rfl) ?_
  refine lv_aload_n hx hb d_By_makeRoom_15 rfl (lv_at hl 1 rfl) ?_
  refine va_get (D := D) (v := .ref h_t_row) hx hb hta i_By hown hK hP 0 rfl rfl 1 (by decide) (hta _ lk_By_13) (fun _ h9 => h9) rfl d_By_makeRoom_16 ?_
  refine va_alen (v := nI n_t_row) hx hb hK hP 1 0 rfl rfl rfl d_By_makeRoom_19 ?_
  refine lv_icmp_le (tgt := 52) hx hb d_By_makeRoom_20 (by decide) (fun c_20 => ?_) (fun c_20 => ?_)
  · have E := (if_pos c_20).symm.trans E
    exact kr_v hx hb hr hlk hQ hK hP hD hS ⟨((n_t_row, f_t_row) : Nat × (Nat → Int32)), h_t_row, E.trans E0.symm, rfl, rfl⟩ (by omega) (by first | exact Nat.zero_le _ | (rw [gr_By, if_neg c_20]; omega)) d_By_makeRoom_52
  · have E := (if_neg c_20).symm.trans E
    refine lv_aload_n hx hb d_By_makeRoom_23 rfl (lv_at hl 1 rfl) ?_
    refine lv_aload_n hx hb d_By_makeRoom_24 rfl (lv_at hl 1 rfl) ?_
    refine va_get (D := D) (v := .ref h_t_row) hx hb hta i_By hown hK hP 0 rfl rfl 1 (by decide) (hta _ lk_By_13) (fun _ h9 => h9) rfl d_By_makeRoom_25 ?_
    refine lv_aload_n hx hb d_By_makeRoom_28 rfl (lv_at hl 1 rfl) ?_
    refine va_get (D := D) (v := .int t_most) hx hb hta i_By hown hK hP 0 rfl rfl 0 (by decide) (hta _ lk_By_7) (fun _ h9 => h9) rfl d_By_makeRoom_29 ?_
    refine lv_iload_n hx hb d_By_makeRoom_32 rfl (lv_at hl 0 rfl) ?_
    refine lv_iconst (v := 2) hx hb d_By_makeRoom_33 (by decide) ?_
    refine lv_aload_n hx hb d_By_makeRoom_34 rfl (lv_at hl 1 rfl) ?_
    refine va_get (D := D) (v := .ref h_t_row) hx hb hta i_By hown hK hP 0 rfl rfl 1 (by decide) (hta _ lk_By_13) (fun _ h9 => h9) rfl d_By_makeRoom_35 ?_
    refine va_alen (v := nI n_t_row) hx hb hK hP 1 0 rfl rfl rfl d_By_makeRoom_38 ?_
    refine lv_imul hx hb d_By_makeRoom_39 ?_
    refine va_mmax hx hb (hml.trans hl.1.symm) hown (hta _ lk_By_26) (hta _ stat_Math_max) (hta _ ini_Math) (hta _ code_Math_max) (by omega) (by simp only [List.map, Value.category, List.sum_cons, List.sum_nil]; omega) (by omega) (by omega) d_By_makeRoom_40 ?_
    refine va_mmin hx hb (hml.trans hl.1.symm) hown (hta _ lk_By_20) (hta _ stat_Math_min) (hta _ ini_Math) (hta _ code_Math_min) (by omega) (by simp only [List.map, Value.category, List.sum_cons, List.sum_nil]; omega) (by omega) (by omega) d_By_makeRoom_43 ?_
    refine kc_S (As := [.ref h_t_row, .int (if (if (if (t_count + p1) < t_most then (t_count + p1) else t_most) < (2 * (nI n_t_row)) then (2 * (nI n_t_row)) else (if (t_count + p1) < t_most then (t_count + p1) else t_most)) < t_most then (if (if (t_count + p1) < t_most then (t_count + p1) else t_most) < (2 * (nI n_t_row)) then (2 * (nI n_t_row)) else (if (t_count + p1) < t_most then (t_count + p1) else t_most)) else t_most)]) (rest := [.ref h_t]) (wr := [(h_t, .inr (0, [.int t_most, .ref h_t_row, .int t_count]))]) [1] [0] ⟨hx, hb, hml, hown, hta⟩ hK hN hP hD hS hA (c_Ar_copyOf l D cB cI cJ h_t_row n_t_row f_t_row (if (if (if (t_count + p1) < t_most then (t_count + p1) else t_most) < (2 * (nI n_t_row)) then (2 * (nI n_t_row)) else (if (t_count + p1) < t_most then (t_count + p1) else t_most)) < t_most then (if (if (t_count + p1) < t_most then (t_count + p1) else t_most) < (2 * (nI n_t_row)) then (2 * (nI n_t_row)) else (if (t_count + p1) < t_most then (t_count + p1) else t_most)) else t_most) hn_t_row (mr_gt hn_t_row c_20) (Nat.le_trans (mr_by hmost) (by decide)) hfit _) (hta _ lk_By_29) (hta _ ini_Ar) (hta _ code_Ar_copyOf) code_Ar_copyOf (hta _ stat_Ar_copyOf) hd_Ar_copyOf rfl ⟨by omega, by omega⟩ rfl rfl (by decide) (by decide) (by decide) rfl hl.1 (lv_room (Nat.le_of_ble_eq_true rfl)) d_By_makeRoom_46 ⟨by omega, by (rw [hRs, gr_By, if_neg c_20]; omega)⟩ (fun v w1 H locs hw hP hD hS => ?_)
    obtain ⟨q_46_r, rfl, rfl⟩ := hw
    have hP : va_P D classes [(h_t, .inr (0, [.int t_most, .ref h_t_row, .int t_count])), (h_t_row, .inl (cB, n_t_row, .inl f_t_row)), (q_46_r, .inl (cB, ((if (if (if (t_count + p1) < t_most then (t_count + p1) else t_most) < (2 * (nI n_t_row)) then (2 * (nI n_t_row)) else (if (t_count + p1) < t_most then (t_count + p1) else t_most)) < t_most then (if (if (t_count + p1) < t_most then (t_count + p1) else t_most) < (2 * (nI n_t_row)) then (2 * (nI n_t_row)) else (if (t_count + p1) < t_most then (t_count + p1) else t_most)) else t_most).toNatClampNeg), .inl (va_cpy f_t_row (fun _ => 0) 0 0 n_t_row)))] H := hP.sub [0, 1, 2] rfl
    have hD : va_D A [(h_t, .inr (0, [.int t_most, .ref h_t_row, .int t_count])), (h_t_row, .inl (cB, n_t_row, .inl f_t_row)), (q_46_r, .inl (cB, ((if (if (if (t_count + p1) < t_most then (t_count + p1) else t_most) < (2 * (nI n_t_row)) then (2 * (nI n_t_row)) else (if (t_count + p1) < t_most then (t_count + p1) else t_most)) < t_most then (if (if (t_count + p1) < t_most then (t_count + p1) else t_most) < (2 * (nI n_t_row)) then (2 * (nI n_t_row)) else (if (t_count + p1) < t_most then (t_count + p1) else t_most)) else t_most).toNatClampNeg), .inl (va_cpy f_t_row (fun _ => 0) 0 0 n_t_row)))] := hD.sub [0, 1, 2] (by decide) rfl
    refine W.eq (g2 := F0 m 49 ls [.ref q_46_r, .ref h_t]) rfl ?_
    refine va_put (D := D) (ty := .array .byte) hx hb hta i_By t_By t_By_ok n_By hown hK hP hD hS 0 rfl rfl 1 (by decide) (hta _ lk_By_13) (fun _ h9 => h9) rfl (by decide +kernel) rfl rfl (Nat.le_of_ble_eq_true rfl) d_By_makeRoom_49 (fun H locs (hP : va_P D classes [(h_t, .inr (0, [.int t_most, .ref q_46_r, .int t_count])), (h_t_row, .inl (cB, n_t_row, .inl f_t_row)), (q_46_r, .inl (cB, ((if (if (if (t_count + p1) < t_most then (t_count + p1) else t_most) < (2 * (nI n_t_row)) then (2 * (nI n_t_row)) else (if (t_count + p1) < t_most then (t_count + p1) else t_most)) < t_most then (if (if (t_count + p1) < t_most then (t_count + p1) else t_most) < (2 * (nI n_t_row)) then (2 * (nI n_t_row)) else (if (t_count + p1) < t_most then (t_count + p1) else t_most)) else t_most).toNatClampNeg), .inl (va_cpy f_t_row (fun _ => 0) 0 0 n_t_row)))] H) (hD : va_D A [(h_t, .inr (0, [.int t_most, .ref q_46_r, .int t_count])), (h_t_row, .inl (cB, n_t_row, .inl f_t_row)), (q_46_r, .inl (cB, ((if (if (if (t_count + p1) < t_most then (t_count + p1) else t_most) < (2 * (nI n_t_row)) then (2 * (nI n_t_row)) else (if (t_count + p1) < t_most then (t_count + p1) else t_most)) < t_most then (if (if (t_count + p1) < t_most then (t_count + p1) else t_most) < (2 * (nI n_t_row)) then (2 * (nI n_t_row)) else (if (t_count + p1) < t_most then (t_count + p1) else t_most)) else t_most).toNatClampNeg), .inl (va_cpy f_t_row (fun _ => 0) 0 0 n_t_row)))]) hS => ?_)
    exact kr_v hx hb hr hlk hQ hK (hP.sub [0, 2] rfl) (hD.sub [0, 2] (by decide) rfl) hS ⟨(((if (if (if (t_count + p1) < t_most then (t_count + p1) else t_most) < (2 * (nI n_t_row)) then (2 * (nI n_t_row)) else (if (t_count + p1) < t_most then (t_count + p1) else t_most)) < t_most then (if (if (t_count + p1) < t_most then (t_count + p1) else t_most) < (2 * (nI n_t_row)) then (2 * (nI n_t_row)) else (if (t_count + p1) < t_most then (t_count + p1) else t_most)) else t_most).toNatClampNeg, va_cpy f_t_row (fun _ => 0) 0 0 n_t_row) : Nat × (Nat → Int32)), q_46_r, E.trans E0.symm, rfl, rfl⟩ (by omega) (by first | exact Nat.zero_le _ | (rw [gr_By, if_neg c_20]; omega)) d_By_makeRoom_52
