theorem d_Mo_add_0 : decode b_Mo_add 0 = .ok (.iload_n 3, 1) := by decide +kernel
theorem d_Mo_add_1 : decode b_Mo_add 1 = .ok (.iconst 1, 1) := by decide +kernel
theorem d_Mo_add_2 : decode b_Mo_add 2 = .ok (.isub, 1) := by decide +kernel
theorem d_Mo_add_3 : decode b_Mo_add 3 = .ok (.istore 4, 2) := by decide +kernel
theorem d_Mo_add_5 : decode b_Mo_add 5 = .ok (.iload 4, 2) := by decide +kernel
theorem d_Mo_add_7 : decode b_Mo_add 7 = .ok (.ifCond .lt 49, 3) := by decide +kernel
theorem d_Mo_add_10 : decode b_Mo_add 10 = .ok (.aload_n 0, 1) := by decide +kernel
theorem d_Mo_add_11 : decode b_Mo_add 11 = .ok (.getfield 150, 3) := by decide +kernel
theorem d_Mo_add_14 : decode b_Mo_add 14 = .ok (.ldc 36, 2) := by decide +kernel
theorem d_Mo_add_16 : decode b_Mo_add 16 = .ok (.if_icmp .ge 24, 3) := by decide +kernel
theorem d_Mo_add_19 : decode b_Mo_add 19 = .ok (.aload_n 0, 1) := by decide +kernel
theorem d_Mo_add_20 : decode b_Mo_add 20 = .ok (.getfield 37, 3) := by decide +kernel
theorem d_Mo_add_23 : decode b_Mo_add 23 = .ok (.aload_n 0, 1) := by decide +kernel
theorem d_Mo_add_24 : decode b_Mo_add 24 = .ok (.getfield 150, 3) := by decide +kernel
theorem d_Mo_add_27 : decode b_Mo_add 27 = .ok (.lload_n 1, 1) := by decide +kernel
theorem d_Mo_add_28 : decode b_Mo_add 28 = .ok (.bipush 8, 2) := by decide +kernel
theorem d_Mo_add_30 : decode b_Mo_add 30 = .ok (.iload 4, 2) := by decide +kernel
theorem d_Mo_add_32 : decode b_Mo_add 32 = .ok (.imul, 1) := by decide +kernel
theorem d_Mo_add_33 : decode b_Mo_add 33 = .ok (.lshr, 1) := by decide +kernel
theorem d_Mo_add_34 : decode b_Mo_add 34 = .ok (.ldc2_w 94, 3) := by decide +kernel
theorem d_Mo_add_37 : decode b_Mo_add 37 = .ok (.land, 1) := by decide +kernel
theorem d_Mo_add_38 : decode b_Mo_add 38 = .ok (.l2i, 1) := by decide +kernel
theorem d_Mo_add_39 : decode b_Mo_add 39 = .ok (.iastore, 1) := by decide +kernel
theorem d_Mo_add_40 : decode b_Mo_add 40 = .ok (.aload_n 0, 1) := by decide +kernel
theorem d_Mo_add_41 : decode b_Mo_add 41 = .ok (.dup, 1) := by decide +kernel
theorem d_Mo_add_42 : decode b_Mo_add 42 = .ok (.getfield 150, 3) := by decide +kernel
theorem d_Mo_add_45 : decode b_Mo_add 45 = .ok (.iconst 1, 1) := by decide +kernel
theorem d_Mo_add_46 : decode b_Mo_add 46 = .ok (.iadd, 1) := by decide +kernel
theorem d_Mo_add_47 : decode b_Mo_add 47 = .ok (.putfield 150, 3) := by decide +kernel
theorem d_Mo_add_50 : decode b_Mo_add 50 = .ok (.iinc 4 (-1), 3) := by decide +kernel
theorem d_Mo_add_53 : decode b_Mo_add 53 = .ok (.goto (-48), 3) := by decide +kernel
theorem d_Mo_add_56 : decode b_Mo_add 56 = .ok (.return_, 1) := by decide +kernel
def j_Mo_add_40 (kk_5 : Int32 → Int32 → (Nat → Int32) → Int32 × (Nat → Int32)) (v5_4 : Int32) (v5_t_cursor : Int32) (j40_t_file : Nat → Int32) : Int32 × (Nat → Int32) :=
  kk_5 (v5_4 + (-1)) (v5_t_cursor + 1) j40_t_file
def oj_Mo_add_40 (okk_5 : Int32 → Int32 → (Nat → Int32) → Prop) (v5_4 : Int32) (v5_t_cursor : Int32) (j40_t_file : Nat → Int32) : Prop :=
  okk_5 (v5_4 + (-1)) (v5_t_cursor + 1) j40_t_file
def lb_Mo_add_5 (p1 : Int64) (kk_5 : Int32 → Int32 → (Nat → Int32) → Int32 × (Nat → Int32)) (v5_4 : Int32) (v5_t_cursor : Int32) (v5_t_file : Nat → Int32) : Int32 × (Nat → Int32) :=
  if v5_4 < 0 then (v5_t_cursor, v5_t_file) else (if 65536 ≤ v5_t_cursor then (j_Mo_add_40 kk_5 v5_4 v5_t_cursor v5_t_file) else (j_Mo_add_40 kk_5 v5_4 v5_t_cursor (upd v5_t_file v5_t_cursor.toNatClampNeg (((p1 >>> ((8 * v5_4 : Int32).toInt64 &&& 63)) &&& 255 : Int64).toInt32))))
def lp_Mo_add_5 (p1 : Int64) : Nat → Int32 → Int32 → (Nat → Int32) → Int32 × (Nat → Int32)
  | 0, v5_4, v5_t_cursor, v5_t_file => (v5_t_cursor, v5_t_file)
  | n + 1, v5_4, v5_t_cursor, v5_t_file => lb_Mo_add_5 p1 (lp_Mo_add_5 p1 n) v5_4 v5_t_cursor v5_t_file
def olb_Mo_add_5 (p1 : Int64) (okk_5 : Int32 → Int32 → (Nat → Int32) → Prop) (v5_4 : Int32) (v5_t_cursor : Int32) (v5_t_file : Nat → Int32) : Prop :=
  if v5_4 < 0 then True else (if 65536 ≤ v5_t_cursor then (oj_Mo_add_40 okk_5 v5_4 v5_t_cursor v5_t_file) else (vp_in v5_t_cursor 65536 ∧ (oj_Mo_add_40 okk_5 v5_4 v5_t_cursor (upd v5_t_file v5_t_cursor.toNatClampNeg (((p1 >>> ((8 * v5_4 : Int32).toInt64 &&& 63)) &&& 255 : Int64).toInt32)))))
def olp_Mo_add_5 (p1 : Int64) : Nat → Int32 → Int32 → (Nat → Int32) → Prop
  | 0, _, _, _ => True
  | n + 1, v5_4, v5_t_cursor, v5_t_file => olb_Mo_add_5 p1 (olp_Mo_add_5 p1 n) v5_4 v5_t_cursor v5_t_file
def om_Mo_add (t_cursor : Int32) (f_t_file : Nat → Int32) (p1 : Int64) (p3 : Int32) : Prop :=
  olp_Mo_add_5 p1 (((p3 - 1).toInt + 1).toNat + 1) (p3 - 1) t_cursor f_t_file
def m_Mo_add (t_cursor : Int32) (f_t_file : Nat → Int32) (p1 : Int64) (p3 : Int32) : Int32 × (Nat → Int32) :=
  lp_Mo_add_5 p1 (((p3 - 1).toInt + 1).toNat + 1) (p3 - 1) t_cursor f_t_file
set_option maxHeartbeats 4000000 in
set_option maxRecDepth 100000 in
theorem c_Mo_add (l : Launch) (D : va_G) (cB cI cJ : ClassId) (h_t h_t_bits h_t_profile h_t_columnBits h_t_numbers h_t_map h_t_line h_t_resolutions h_t_file : Nat) (t_thrown : Int32) (t_high : Int32) (t_wide : Int32) (t_components : Int32) (t_unknown : Int32) (t_rights : Int32) (t_colours : Int32) (t_profiled : Int32) (t_entries : Int32) (t_columns : Int32) (t_maps : Int32) (t_lines : Int32) (t_size : Int32) (t_scanned : Int32) (t_refusedAt : Int32) (t_cursor : Int32) (t_streamAt : Int32) (t_streamMany : Int32) (t_name : Int32) (t_from : Int32) (t_end : Int32) (t_sizeAt : Int32) (t_bitsAt : Int32) (t_colourAt : Int32) (t_colourEnd : Int32) (t_paletteAt : Int32) (t_mapAt : Int32) (t_mapEnd : Int32) (t_channelsAt : Int32) (t_captureAt : Int32) (t_displayAt : Int32) (t_resolved : Int32) (f_t_file : Nat → Int32) (p1 : Int64) (p3 : Int32) (hO : om_Mo_add t_cursor f_t_file p1 p3) (sz : Nat) : Ct l D cB cI cJ y_Mo_add b_Mo_add 5 none 0 0 0 0 [.ref h_t, .long p1, .int p3] [(h_t, .inr (7, (.int t_thrown :: .int t_high :: .int t_wide :: .int t_components :: .ref h_t_bits :: .int t_unknown :: .int t_rights :: .int t_colours :: .int t_profiled :: .ref h_t_profile :: .int t_entries :: .int t_columns :: .ref h_t_columnBits :: .ref h_t_numbers :: .int t_maps :: .ref h_t_map :: .int t_lines :: .ref h_t_line :: .ref h_t_resolutions :: .ref h_t_file :: .int t_size :: .int t_scanned :: .int t_refusedAt :: .int t_cursor :: .int t_streamAt :: .int t_streamMany :: .int t_name :: .int t_from :: .int t_end :: .int t_sizeAt :: .int t_bitsAt :: .int t_colourAt :: .int t_colourEnd :: .int t_paletteAt :: .int t_mapAt :: .int t_mapEnd :: .int t_channelsAt :: .int t_captureAt :: .int t_displayAt :: .int t_resolved :: []))), (h_t_file, .inl (cI, 65536, .inl f_t_file))] (fun v w1 => ∃ (x : Int32 × (Nat → Int32)), x = m_Mo_add t_cursor f_t_file p1 p3 ∧ v = none ∧ w1 = [(h_t, .inr (7, (.int t_thrown :: .int t_high :: .int t_wide :: .int t_components :: .ref h_t_bits :: .int t_unknown :: .int t_rights :: .int t_colours :: .int t_profiled :: .ref h_t_profile :: .int t_entries :: .int t_columns :: .ref h_t_columnBits :: .ref h_t_numbers :: .int t_maps :: .ref h_t_map :: .int t_lines :: .ref h_t_line :: .ref h_t_resolutions :: .ref h_t_file :: .int t_size :: .int t_scanned :: .int t_refusedAt :: .int x.1 :: .int t_streamAt :: .int t_streamMany :: .int t_name :: .int t_from :: .int t_end :: .int t_sizeAt :: .int t_bitsAt :: .int t_colourAt :: .int t_colourEnd :: .int t_paletteAt :: .int t_mapAt :: .int t_mapEnd :: .int t_channelsAt :: .int t_captureAt :: .int t_displayAt :: .int t_resolved :: []))), (h_t_file, .inl (cI, 65536, .inl x.2))]) sz := by
  refine Ct.of (by decide) (Nat.le_of_ble_eq_true rfl) ?_
  intro p e R s m args below meth c A ls Q hx hb hr hlk hml hta hown hin hK hN hA hRf hRl hRc hRs hP hD hS hl hQ
  have hl : lv_has ls 5 [(0, .ref h_t), (1, .long p1), (3, .int p3)] := hl
  obtain ⟨RES, E0⟩ : ∃ R, m_Mo_add t_cursor f_t_file p1 p3 = R := ⟨_, rfl⟩
  have E := E0
  have O := hO
  refine lv_iload_n hx hb d_Mo_add_0 rfl (lv_at hl 2 rfl) ?_
  refine lv_iconst (v := 1) hx hb d_Mo_add_1 (by decide) ?_
  refine lv_isub hx hb d_Mo_add_2 ?_
  refine lv_istore (lv' := [(4, .int (p3 - 1)), (0, .ref h_t), (1, .long p1), (3, .int p3)]) hx hb d_Mo_add_3 hl (by decide) rfl (fun ls hl => ?_)
  have L_5 : ∀ (n : Nat) (v5_4 : Int32) (v5_t_cursor : Int32) (v5_t_file : Nat → Int32), (v5_4.toInt + 1).toNat < n → lp_Mo_add_5 p1 n v5_4 v5_t_cursor v5_t_file = RES → olp_Mo_add_5 p1 n v5_4 v5_t_cursor v5_t_file → ∀ (H : Heap) (locs : List Loc), va_P D classes [(h_t, .inr (7, (.int t_thrown :: .int t_high :: .int t_wide :: .int t_components :: .ref h_t_bits :: .int t_unknown :: .int t_rights :: .int t_colours :: .int t_profiled :: .ref h_t_profile :: .int t_entries :: .int t_columns :: .ref h_t_columnBits :: .ref h_t_numbers :: .int t_maps :: .ref h_t_map :: .int t_lines :: .ref h_t_line :: .ref h_t_resolutions :: .ref h_t_file :: .int t_size :: .int t_scanned :: .int t_refusedAt :: .int v5_t_cursor :: .int t_streamAt :: .int t_streamMany :: .int t_name :: .int t_from :: .int t_end :: .int t_sizeAt :: .int t_bitsAt :: .int t_colourAt :: .int t_colourEnd :: .int t_paletteAt :: .int t_mapAt :: .int t_mapEnd :: .int t_channelsAt :: .int t_captureAt :: .int t_displayAt :: .int t_resolved :: []))), (h_t_file, .inl (cI, 65536, .inl v5_t_file))] H → va_D A [(h_t, .inr (7, (.int t_thrown :: .int t_high :: .int t_wide :: .int t_components :: .ref h_t_bits :: .int t_unknown :: .int t_rights :: .int t_colours :: .int t_profiled :: .ref h_t_profile :: .int t_entries :: .int t_columns :: .ref h_t_columnBits :: .ref h_t_numbers :: .int t_maps :: .ref h_t_map :: .int t_lines :: .ref h_t_line :: .ref h_t_resolutions :: .ref h_t_file :: .int t_size :: .int t_scanned :: .int t_refusedAt :: .int v5_t_cursor :: .int t_streamAt :: .int t_streamMany :: .int t_name :: .int t_from :: .int t_end :: .int t_sizeAt :: .int t_bitsAt :: .int t_colourAt :: .int t_colourEnd :: .int t_paletteAt :: .int t_mapAt :: .int t_mapEnd :: .int t_channelsAt :: .int t_captureAt :: .int t_displayAt :: .int t_resolved :: []))), (h_t_file, .inl (cI, 65536, .inl v5_t_file))] → va_S A s.heap H locs → ∀ ls : Array Slot, lv_has ls 5 [(4, .int v5_4), (0, .ref h_t), (1, .long p1)] → W p l e R s m args below meth c H locs 0 0 Q (F0 m 5 ls []) := by
    intro n
    induction n with
    | zero => intro v5_4 v5_t_cursor v5_t_file hlt; exact absurd hlt (Nat.not_lt_zero _)
    | succ n ih =>
      intro v5_4 v5_t_cursor v5_t_file hlt_5 E O H locs hP hD hS ls hl
      have E : lb_Mo_add_5 p1 (lp_Mo_add_5 p1 n) v5_4 v5_t_cursor v5_t_file = RES := E
      have O : olb_Mo_add_5 p1 (olp_Mo_add_5 p1 n) v5_4 v5_t_cursor v5_t_file := O
      generalize lp_Mo_add_5 p1 n = kk_5 at ih E
      generalize olp_Mo_add_5 p1 n = okk_5 at ih O
      have ih_5 := ih
      clear ih
      refine lv_iload hx hb d_Mo_add_5 (lv_at hl 0 rfl) ?_
      refine lv_if_lt (tgt := 56) hx hb d_Mo_add_7 (by decide) (fun c_7 => ?_) (fun c_7 => ?_)
      · have E := (if_pos c_7).symm.trans E
        have O := Eq.mp (if_pos c_7) O
        exact kr_v hx hb hr hlk hQ hK hP hD hS ⟨((v5_t_cursor, v5_t_file) : Int32 × (Nat → Int32)), E.trans E0.symm, rfl, rfl⟩ (by omega) (by omega) d_Mo_add_56
      · have E := (if_neg c_7).symm.trans E
        have O := Eq.mp (if_neg c_7) O
        refine lv_aload_n hx hb d_Mo_add_10 rfl (lv_at hl 1 rfl) ?_
        refine va_get (D := D) (v := .int v5_t_cursor) hx hb hta i_Mo hown hK hP 0 rfl rfl 23 (by decide) (hta _ lk_Mo_150) (fun _ h9 => h9) rfl d_Mo_add_11 ?_
        refine lv_ldc (v := 65536) hx hb hown (hta _ lk_Mo_36) d_Mo_add_14 ?_
        have J_40 : ∀ (j40_t_file : Nat → Int32), j_Mo_add_40 kk_5 v5_4 v5_t_cursor j40_t_file = RES → oj_Mo_add_40 okk_5 v5_4 v5_t_cursor j40_t_file → ∀ (H : Heap) (locs : List Loc), va_P D classes [(h_t, .inr (7, (.int t_thrown :: .int t_high :: .int t_wide :: .int t_components :: .ref h_t_bits :: .int t_unknown :: .int t_rights :: .int t_colours :: .int t_profiled :: .ref h_t_profile :: .int t_entries :: .int t_columns :: .ref h_t_columnBits :: .ref h_t_numbers :: .int t_maps :: .ref h_t_map :: .int t_lines :: .ref h_t_line :: .ref h_t_resolutions :: .ref h_t_file :: .int t_size :: .int t_scanned :: .int t_refusedAt :: .int v5_t_cursor :: .int t_streamAt :: .int t_streamMany :: .int t_name :: .int t_from :: .int t_end :: .int t_sizeAt :: .int t_bitsAt :: .int t_colourAt :: .int t_colourEnd :: .int t_paletteAt :: .int t_mapAt :: .int t_mapEnd :: .int t_channelsAt :: .int t_captureAt :: .int t_displayAt :: .int t_resolved :: []))), (h_t_file, .inl (cI, 65536, .inl j40_t_file))] H → va_D A [(h_t, .inr (7, (.int t_thrown :: .int t_high :: .int t_wide :: .int t_components :: .ref h_t_bits :: .int t_unknown :: .int t_rights :: .int t_colours :: .int t_profiled :: .ref h_t_profile :: .int t_entries :: .int t_columns :: .ref h_t_columnBits :: .ref h_t_numbers :: .int t_maps :: .ref h_t_map :: .int t_lines :: .ref h_t_line :: .ref h_t_resolutions :: .ref h_t_file :: .int t_size :: .int t_scanned :: .int t_refusedAt :: .int v5_t_cursor :: .int t_streamAt :: .int t_streamMany :: .int t_name :: .int t_from :: .int t_end :: .int t_sizeAt :: .int t_bitsAt :: .int t_colourAt :: .int t_colourEnd :: .int t_paletteAt :: .int t_mapAt :: .int t_mapEnd :: .int t_channelsAt :: .int t_captureAt :: .int t_displayAt :: .int t_resolved :: []))), (h_t_file, .inl (cI, 65536, .inl j40_t_file))] → va_S A s.heap H locs → ∀ ls : Array Slot, lv_has ls 5 [(4, .int v5_4), (0, .ref h_t), (1, .long p1)] → W p l e R s m args below meth c H locs 0 0 Q (F0 m 40 ls []) := by
          intro j40_t_file E O H locs hP hD hS ls hl
          refine lv_aload_n hx hb d_Mo_add_40 rfl (lv_at hl 1 rfl) ?_
          refine lv_dup hx hb d_Mo_add_41 rfl ?_
          refine va_get (D := D) (v := .int v5_t_cursor) hx hb hta i_Mo hown hK hP 0 rfl rfl 23 (by decide) (hta _ lk_Mo_150) (fun _ h9 => h9) rfl d_Mo_add_42 ?_
          refine lv_iconst (v := 1) hx hb d_Mo_add_45 (by decide) ?_
          refine lv_iadd hx hb d_Mo_add_46 ?_
          refine va_put (D := D) (ty := .int) hx hb hta i_Mo t_Mo t_Mo_ok n_Mo hown hK hP hD hS 0 rfl rfl 23 (by decide) (hta _ lk_Mo_150) (fun _ h9 => h9) rfl (by decide +kernel) rfl rfl (Nat.le_of_ble_eq_true rfl) d_Mo_add_47 (fun H locs (hP : va_P D classes [(h_t, .inr (7, (.int t_thrown :: .int t_high :: .int t_wide :: .int t_components :: .ref h_t_bits :: .int t_unknown :: .int t_rights :: .int t_colours :: .int t_profiled :: .ref h_t_profile :: .int t_entries :: .int t_columns :: .ref h_t_columnBits :: .ref h_t_numbers :: .int t_maps :: .ref h_t_map :: .int t_lines :: .ref h_t_line :: .ref h_t_resolutions :: .ref h_t_file :: .int t_size :: .int t_scanned :: .int t_refusedAt :: .int (v5_t_cursor + 1) :: .int t_streamAt :: .int t_streamMany :: .int t_name :: .int t_from :: .int t_end :: .int t_sizeAt :: .int t_bitsAt :: .int t_colourAt :: .int t_colourEnd :: .int t_paletteAt :: .int t_mapAt :: .int t_mapEnd :: .int t_channelsAt :: .int t_captureAt :: .int t_displayAt :: .int t_resolved :: []))), (h_t_file, .inl (cI, 65536, .inl j40_t_file))] H) (hD : va_D A [(h_t, .inr (7, (.int t_thrown :: .int t_high :: .int t_wide :: .int t_components :: .ref h_t_bits :: .int t_unknown :: .int t_rights :: .int t_colours :: .int t_profiled :: .ref h_t_profile :: .int t_entries :: .int t_columns :: .ref h_t_columnBits :: .ref h_t_numbers :: .int t_maps :: .ref h_t_map :: .int t_lines :: .ref h_t_line :: .ref h_t_resolutions :: .ref h_t_file :: .int t_size :: .int t_scanned :: .int t_refusedAt :: .int (v5_t_cursor + 1) :: .int t_streamAt :: .int t_streamMany :: .int t_name :: .int t_from :: .int t_end :: .int t_sizeAt :: .int t_bitsAt :: .int t_colourAt :: .int t_colourEnd :: .int t_paletteAt :: .int t_mapAt :: .int t_mapEnd :: .int t_channelsAt :: .int t_captureAt :: .int t_displayAt :: .int t_resolved :: []))), (h_t_file, .inl (cI, 65536, .inl j40_t_file))]) hS => ?_)
          refine lv_iinc (v := v5_4 + (-1)) (lv' := [(4, .int (v5_4 + (-1))), (0, .ref h_t), (1, .long p1)]) hx hb d_Mo_add_50 hl (k := 0) rfl rfl (by decide) rfl (fun ls hl => ?_)
          refine lv_goto (tgt := 5) hx hb d_Mo_add_53 (by decide) ?_
          exact ih_5 (v5_4 + (-1)) (v5_t_cursor + 1) j40_t_file (Nat.lt_of_lt_of_le (tm_dn1 c_7) (Nat.le_of_lt_succ hlt_5)) E O _ _ hP hD hS ls (lv_sub hl [0, 1, 2] rfl)
        refine lv_icmp_ge (tgt := 40) hx hb d_Mo_add_16 (by decide) (fun c_16 => ?_) (fun c_16 => ?_)
        · have E := (if_pos c_16).symm.trans E
          have O := Eq.mp (if_pos c_16) O
          exact J_40 v5_t_file E O _ _ hP hD hS ls (lv_sub hl [0, 1, 2] rfl)
        · have E := (if_neg c_16).symm.trans E
          have O := Eq.mp (if_neg c_16) O
          refine lv_aload_n hx hb d_Mo_add_19 rfl (lv_at hl 1 rfl) ?_
          refine va_get (D := D) (v := .ref h_t_file) hx hb hta i_Mo hown hK hP 0 rfl rfl 19 (by decide) (hta _ lk_Mo_37) (fun _ h9 => h9) rfl d_Mo_add_20 ?_
          refine lv_aload_n hx hb d_Mo_add_23 rfl (lv_at hl 1 rfl) ?_
          refine va_get (D := D) (v := .int v5_t_cursor) hx hb hta i_Mo hown hK hP 0 rfl rfl 23 (by decide) (hta _ lk_Mo_150) (fun _ h9 => h9) rfl d_Mo_add_24 ?_
          refine lv_lload_n hx hb d_Mo_add_27 rfl (lv_at hl 2 rfl) ?_
          refine lv_bipush (v := 8) hx hb d_Mo_add_28 (by decide) ?_
          refine lv_iload hx hb d_Mo_add_30 (lv_at hl 0 rfl) ?_
          refine lv_imul hx hb d_Mo_add_32 ?_
          refine lv_lshr (v := p1 >>> ((8 * v5_4 : Int32).toInt64 &&& 63)) hx hb d_Mo_add_33 rfl ?_
          refine lv_ldc2 (v := 255) hx hb hown (hta _ lk_Mo_94) d_Mo_add_34 ?_
          refine lv_land hx hb d_Mo_add_37 ?_
          refine lv_l2i (v := ((p1 >>> ((8 * v5_4 : Int32).toInt64 &&& 63)) &&& 255 : Int64).toInt32) hx hb d_Mo_add_38 rfl ?_
          refine va_iast hx hb hK hP hD hS 1 1 rfl rfl O.1 d_Mo_add_39 (fun H locs (hP : va_P D classes [(h_t, .inr (7, (.int t_thrown :: .int t_high :: .int t_wide :: .int t_components :: .ref h_t_bits :: .int t_unknown :: .int t_rights :: .int t_colours :: .int t_profiled :: .ref h_t_profile :: .int t_entries :: .int t_columns :: .ref h_t_columnBits :: .ref h_t_numbers :: .int t_maps :: .ref h_t_map :: .int t_lines :: .ref h_t_line :: .ref h_t_resolutions :: .ref h_t_file :: .int t_size :: .int t_scanned :: .int t_refusedAt :: .int v5_t_cursor :: .int t_streamAt :: .int t_streamMany :: .int t_name :: .int t_from :: .int t_end :: .int t_sizeAt :: .int t_bitsAt :: .int t_colourAt :: .int t_colourEnd :: .int t_paletteAt :: .int t_mapAt :: .int t_mapEnd :: .int t_channelsAt :: .int t_captureAt :: .int t_displayAt :: .int t_resolved :: []))), (h_t_file, .inl (cI, 65536, .inl (upd v5_t_file v5_t_cursor.toNatClampNeg (((p1 >>> ((8 * v5_4 : Int32).toInt64 &&& 63)) &&& 255 : Int64).toInt32))))] H) (hD : va_D A [(h_t, .inr (7, (.int t_thrown :: .int t_high :: .int t_wide :: .int t_components :: .ref h_t_bits :: .int t_unknown :: .int t_rights :: .int t_colours :: .int t_profiled :: .ref h_t_profile :: .int t_entries :: .int t_columns :: .ref h_t_columnBits :: .ref h_t_numbers :: .int t_maps :: .ref h_t_map :: .int t_lines :: .ref h_t_line :: .ref h_t_resolutions :: .ref h_t_file :: .int t_size :: .int t_scanned :: .int t_refusedAt :: .int v5_t_cursor :: .int t_streamAt :: .int t_streamMany :: .int t_name :: .int t_from :: .int t_end :: .int t_sizeAt :: .int t_bitsAt :: .int t_colourAt :: .int t_colourEnd :: .int t_paletteAt :: .int t_mapAt :: .int t_mapEnd :: .int t_channelsAt :: .int t_captureAt :: .int t_displayAt :: .int t_resolved :: []))), (h_t_file, .inl (cI, 65536, .inl (upd v5_t_file v5_t_cursor.toNatClampNeg (((p1 >>> ((8 * v5_4 : Int32).toInt64 &&& 63)) &&& 255 : Int64).toInt32))))]) hS => ?_)
          have O := O.2
          exact J_40 (upd v5_t_file v5_t_cursor.toNatClampNeg (((p1 >>> ((8 * v5_4 : Int32).toInt64 &&& 63)) &&& 255 : Int64).toInt32)) E O _ _ hP hD hS ls (lv_sub hl [0, 1, 2] rfl)
  exact L_5 _ (p3 - 1) t_cursor f_t_file (Nat.lt_succ_self _) E O _ _ hP hD hS ls (lv_sub hl [0, 1, 2] rfl)
theorem d_Mo_box_0 : decode b_Mo_box 0 = .ok (.aload_n 0, 1) := by decide +kernel
theorem d_Mo_box_1 : decode b_Mo_box 1 = .ok (.bipush 8, 2) := by decide +kernel
theorem d_Mo_box_3 : decode b_Mo_box 3 = .ok (.iload_n 2, 1) := by decide +kernel
theorem d_Mo_box_4 : decode b_Mo_box 4 = .ok (.iadd, 1) := by decide +kernel
theorem d_Mo_box_5 : decode b_Mo_box 5 = .ok (.i2l, 1) := by decide +kernel
theorem d_Mo_box_6 : decode b_Mo_box 6 = .ok (.iconst 4, 1) := by decide +kernel
theorem d_Mo_box_7 : decode b_Mo_box 7 = .ok (.invokevirtual 153, 3) := by decide +kernel
theorem d_Mo_box_10 : decode b_Mo_box 10 = .ok (.aload_n 0, 1) := by decide +kernel
theorem d_Mo_box_11 : decode b_Mo_box 11 = .ok (.iload_n 1, 1) := by decide +kernel
theorem d_Mo_box_12 : decode b_Mo_box 12 = .ok (.i2l, 1) := by decide +kernel
theorem d_Mo_box_13 : decode b_Mo_box 13 = .ok (.iconst 4, 1) := by decide +kernel
theorem d_Mo_box_14 : decode b_Mo_box 14 = .ok (.invokevirtual 153, 3) := by decide +kernel
theorem d_Mo_box_17 : decode b_Mo_box 17 = .ok (.return_, 1) := by decide +kernel
def k_Mo_box_14 (x14 : Int32 × (Nat → Int32)) : Int32 × (Nat → Int32) :=
  (x14.1, x14.2)
def ok_Mo_box_14 (x14 : Int32 × (Nat → Int32)) : Prop :=
  True
def k_Mo_box_7 (p1 : Int32) (x7 : Int32 × (Nat → Int32)) : Int32 × (Nat → Int32) :=
  k_Mo_box_14 (m_Mo_add x7.1 x7.2 ((p1 : Int32).toInt64) 4)
def ok_Mo_box_7 (p1 : Int32) (x7 : Int32 × (Nat → Int32)) : Prop :=
  om_Mo_add x7.1 x7.2 ((p1 : Int32).toInt64) 4 ∧ (ok_Mo_box_14 (m_Mo_add x7.1 x7.2 ((p1 : Int32).toInt64) 4))
def om_Mo_box (t_cursor : Int32) (f_t_file : Nat → Int32) (p1 : Int32) (p2 : Int32) : Prop :=
  om_Mo_add t_cursor f_t_file ((8 + p2 : Int32).toInt64) 4 ∧ (ok_Mo_box_7 p1 (m_Mo_add t_cursor f_t_file ((8 + p2 : Int32).toInt64) 4))
def m_Mo_box (t_cursor : Int32) (f_t_file : Nat → Int32) (p1 : Int32) (p2 : Int32) : Int32 × (Nat → Int32) :=
  k_Mo_box_7 p1 (m_Mo_add t_cursor f_t_file ((8 + p2 : Int32).toInt64) 4)
set_option maxHeartbeats 4000000 in
set_option maxRecDepth 100000 in
theorem c_Mo_box (l : Launch) (D : va_G) (cB cI cJ : ClassId) (h_t h_t_bits h_t_profile h_t_columnBits h_t_numbers h_t_map h_t_line h_t_resolutions h_t_file : Nat) (t_thrown : Int32) (t_high : Int32) (t_wide : Int32) (t_components : Int32) (t_unknown : Int32) (t_rights : Int32) (t_colours : Int32) (t_profiled : Int32) (t_entries : Int32) (t_columns : Int32) (t_maps : Int32) (t_lines : Int32) (t_size : Int32) (t_scanned : Int32) (t_refusedAt : Int32) (t_cursor : Int32) (t_streamAt : Int32) (t_streamMany : Int32) (t_name : Int32) (t_from : Int32) (t_end : Int32) (t_sizeAt : Int32) (t_bitsAt : Int32) (t_colourAt : Int32) (t_colourEnd : Int32) (t_paletteAt : Int32) (t_mapAt : Int32) (t_mapEnd : Int32) (t_channelsAt : Int32) (t_captureAt : Int32) (t_displayAt : Int32) (t_resolved : Int32) (f_t_file : Nat → Int32) (p1 : Int32) (p2 : Int32) (hO : om_Mo_box t_cursor f_t_file p1 p2) (sz : Nat) : Ct l D cB cI cJ y_Mo_box b_Mo_box 3 none 1 24 0 0 [.ref h_t, .int p1, .int p2] [(h_t, .inr (7, (.int t_thrown :: .int t_high :: .int t_wide :: .int t_components :: .ref h_t_bits :: .int t_unknown :: .int t_rights :: .int t_colours :: .int t_profiled :: .ref h_t_profile :: .int t_entries :: .int t_columns :: .ref h_t_columnBits :: .ref h_t_numbers :: .int t_maps :: .ref h_t_map :: .int t_lines :: .ref h_t_line :: .ref h_t_resolutions :: .ref h_t_file :: .int t_size :: .int t_scanned :: .int t_refusedAt :: .int t_cursor :: .int t_streamAt :: .int t_streamMany :: .int t_name :: .int t_from :: .int t_end :: .int t_sizeAt :: .int t_bitsAt :: .int t_colourAt :: .int t_colourEnd :: .int t_paletteAt :: .int t_mapAt :: .int t_mapEnd :: .int t_channelsAt :: .int t_captureAt :: .int t_displayAt :: .int t_resolved :: []))), (h_t_file, .inl (cI, 65536, .inl f_t_file))] (fun v w1 => ∃ (x : Int32 × (Nat → Int32)), x = m_Mo_box t_cursor f_t_file p1 p2 ∧ v = none ∧ w1 = [(h_t, .inr (7, (.int t_thrown :: .int t_high :: .int t_wide :: .int t_components :: .ref h_t_bits :: .int t_unknown :: .int t_rights :: .int t_colours :: .int t_profiled :: .ref h_t_profile :: .int t_entries :: .int t_columns :: .ref h_t_columnBits :: .ref h_t_numbers :: .int t_maps :: .ref h_t_map :: .int t_lines :: .ref h_t_line :: .ref h_t_resolutions :: .ref h_t_file :: .int t_size :: .int t_scanned :: .int t_refusedAt :: .int x.1 :: .int t_streamAt :: .int t_streamMany :: .int t_name :: .int t_from :: .int t_end :: .int t_sizeAt :: .int t_bitsAt :: .int t_colourAt :: .int t_colourEnd :: .int t_paletteAt :: .int t_mapAt :: .int t_mapEnd :: .int t_channelsAt :: .int t_captureAt :: .int t_displayAt :: .int t_resolved :: []))), (h_t_file, .inl (cI, 65536, .inl x.2))]) sz := by
  refine Ct.of (by decide) (Nat.le_of_ble_eq_true rfl) ?_
  intro p e R s m args below meth c A ls Q hx hb hr hlk hml hta hown hin hK hN hA hRf hRl hRc hRs hP hD hS hl hQ
  have hl : lv_has ls 3 [(0, .ref h_t), (1, .int p1), (2, .int p2)] := hl
  obtain ⟨RES, E0⟩ : ∃ R, m_Mo_box t_cursor f_t_file p1 p2 = R := ⟨_, rfl⟩
  have E := E0
  have O := hO
  refine lv_aload_n hx hb d_Mo_box_0 rfl (lv_at hl 0 rfl) ?_
  refine lv_bipush (v := 8) hx hb d_Mo_box_1 (by decide) ?_
  refine lv_iload_n hx hb d_Mo_box_3 rfl (lv_at hl 2 rfl) ?_
  refine lv_iadd hx hb d_Mo_box_4 ?_
  refine lv_i2l (v := (8 + p2 : Int32).toInt64) hx hb d_Mo_box_5 rfl ?_
  refine lv_iconst (v := 4) hx hb d_Mo_box_6 (by decide) ?_
  refine kc_V (As := [.long ((8 + p2 : Int32).toInt64), .int 4]) (rest := []) (wr := []) [0, 1] [] ⟨hx, hb, hml, hown, hta⟩ hK hN hP hD hS hA (c_Mo_add l D cB cI cJ h_t h_t_bits h_t_profile h_t_columnBits h_t_numbers h_t_map h_t_line h_t_resolutions h_t_file t_thrown t_high t_wide t_components t_unknown t_rights t_colours t_profiled t_entries t_columns t_maps t_lines t_size t_scanned t_refusedAt t_cursor t_streamAt t_streamMany t_name t_from t_end t_sizeAt t_bitsAt t_colourAt t_colourEnd t_paletteAt t_mapAt t_mapEnd t_channelsAt t_captureAt t_displayAt t_resolved f_t_file ((8 + p2 : Int32).toInt64) 4 O.1 _) (hta _ lk_Mo_153) (hta _ ini_Mo) (hta _ code_Mo_add) code_Mo_add (hta _ inst_Mo_add) (hta _ sel_Mo_add) hd_Mo_add rfl ⟨by omega, by omega⟩ (ci := 7) 0 rfl rfl rfl rfl (by decide) (by decide) (by decide) rfl hl.1 (lv_room (Nat.le_of_ble_eq_true rfl)) d_Mo_box_7 ⟨by omega, by omega⟩ (fun v w1 H locs hw hP hD hS => ?_)
  obtain ⟨x7, hx7, rfl, rfl⟩ := hw
  have hP : va_P D classes [(h_t, .inr (7, (.int t_thrown :: .int t_high :: .int t_wide :: .int t_components :: .ref h_t_bits :: .int t_unknown :: .int t_rights :: .int t_colours :: .int t_profiled :: .ref h_t_profile :: .int t_entries :: .int t_columns :: .ref h_t_columnBits :: .ref h_t_numbers :: .int t_maps :: .ref h_t_map :: .int t_lines :: .ref h_t_line :: .ref h_t_resolutions :: .ref h_t_file :: .int t_size :: .int t_scanned :: .int t_refusedAt :: .int x7.1 :: .int t_streamAt :: .int t_streamMany :: .int t_name :: .int t_from :: .int t_end :: .int t_sizeAt :: .int t_bitsAt :: .int t_colourAt :: .int t_colourEnd :: .int t_paletteAt :: .int t_mapAt :: .int t_mapEnd :: .int t_channelsAt :: .int t_captureAt :: .int t_displayAt :: .int t_resolved :: []))), (h_t_file, .inl (cI, 65536, .inl x7.2))] H := hP.sub [0, 1] rfl
  have hD : va_D A [(h_t, .inr (7, (.int t_thrown :: .int t_high :: .int t_wide :: .int t_components :: .ref h_t_bits :: .int t_unknown :: .int t_rights :: .int t_colours :: .int t_profiled :: .ref h_t_profile :: .int t_entries :: .int t_columns :: .ref h_t_columnBits :: .ref h_t_numbers :: .int t_maps :: .ref h_t_map :: .int t_lines :: .ref h_t_line :: .ref h_t_resolutions :: .ref h_t_file :: .int t_size :: .int t_scanned :: .int t_refusedAt :: .int x7.1 :: .int t_streamAt :: .int t_streamMany :: .int t_name :: .int t_from :: .int t_end :: .int t_sizeAt :: .int t_bitsAt :: .int t_colourAt :: .int t_colourEnd :: .int t_paletteAt :: .int t_mapAt :: .int t_mapEnd :: .int t_channelsAt :: .int t_captureAt :: .int t_displayAt :: .int t_resolved :: []))), (h_t_file, .inl (cI, 65536, .inl x7.2))] := hD.sub [0, 1] (by decide) rfl
  refine W.eq (g2 := F0 m 10 ls []) rfl ?_
  have O := O.2
  have E : k_Mo_box_7 p1 x7 = RES := (congrArg (k_Mo_box_7 p1) hx7).trans E
  have O : ok_Mo_box_7 p1 x7 := by rw [hx7]; exact O
  refine lv_aload_n hx hb d_Mo_box_10 rfl (lv_at hl 0 rfl) ?_
  refine lv_iload_n hx hb d_Mo_box_11 rfl (lv_at hl 1 rfl) ?_
  refine lv_i2l (v := (p1 : Int32).toInt64) hx hb d_Mo_box_12 rfl ?_
  refine lv_iconst (v := 4) hx hb d_Mo_box_13 (by decide) ?_
  refine kc_V (As := [.long ((p1 : Int32).toInt64), .int 4]) (rest := []) (wr := []) [0, 1] [] ⟨hx, hb, hml, hown, hta⟩ hK hN hP hD hS hA (c_Mo_add l D cB cI cJ h_t h_t_bits h_t_profile h_t_columnBits h_t_numbers h_t_map h_t_line h_t_resolutions h_t_file t_thrown t_high t_wide t_components t_unknown t_rights t_colours t_profiled t_entries t_columns t_maps t_lines t_size t_scanned t_refusedAt x7.1 t_streamAt t_streamMany t_name t_from t_end t_sizeAt t_bitsAt t_colourAt t_colourEnd t_paletteAt t_mapAt t_mapEnd t_channelsAt t_captureAt t_displayAt t_resolved x7.2 ((p1 : Int32).toInt64) 4 O.1 _) (hta _ lk_Mo_153) (hta _ ini_Mo) (hta _ code_Mo_add) code_Mo_add (hta _ inst_Mo_add) (hta _ sel_Mo_add) hd_Mo_add rfl ⟨by omega, by omega⟩ (ci := 7) 0 rfl rfl rfl rfl (by decide) (by decide) (by decide) rfl hl.1 (lv_room (Nat.le_of_ble_eq_true rfl)) d_Mo_box_14 ⟨by omega, by omega⟩ (fun v w1 H locs hw hP hD hS => ?_)
  obtain ⟨x14, hx14, rfl, rfl⟩ := hw
  have hP : va_P D classes [(h_t, .inr (7, (.int t_thrown :: .int t_high :: .int t_wide :: .int t_components :: .ref h_t_bits :: .int t_unknown :: .int t_rights :: .int t_colours :: .int t_profiled :: .ref h_t_profile :: .int t_entries :: .int t_columns :: .ref h_t_columnBits :: .ref h_t_numbers :: .int t_maps :: .ref h_t_map :: .int t_lines :: .ref h_t_line :: .ref h_t_resolutions :: .ref h_t_file :: .int t_size :: .int t_scanned :: .int t_refusedAt :: .int x14.1 :: .int t_streamAt :: .int t_streamMany :: .int t_name :: .int t_from :: .int t_end :: .int t_sizeAt :: .int t_bitsAt :: .int t_colourAt :: .int t_colourEnd :: .int t_paletteAt :: .int t_mapAt :: .int t_mapEnd :: .int t_channelsAt :: .int t_captureAt :: .int t_displayAt :: .int t_resolved :: []))), (h_t_file, .inl (cI, 65536, .inl x14.2))] H := hP.sub [0, 1] rfl
  have hD : va_D A [(h_t, .inr (7, (.int t_thrown :: .int t_high :: .int t_wide :: .int t_components :: .ref h_t_bits :: .int t_unknown :: .int t_rights :: .int t_colours :: .int t_profiled :: .ref h_t_profile :: .int t_entries :: .int t_columns :: .ref h_t_columnBits :: .ref h_t_numbers :: .int t_maps :: .ref h_t_map :: .int t_lines :: .ref h_t_line :: .ref h_t_resolutions :: .ref h_t_file :: .int t_size :: .int t_scanned :: .int t_refusedAt :: .int x14.1 :: .int t_streamAt :: .int t_streamMany :: .int t_name :: .int t_from :: .int t_end :: .int t_sizeAt :: .int t_bitsAt :: .int t_colourAt :: .int t_colourEnd :: .int t_paletteAt :: .int t_mapAt :: .int t_mapEnd :: .int t_channelsAt :: .int t_captureAt :: .int t_displayAt :: .int t_resolved :: []))), (h_t_file, .inl (cI, 65536, .inl x14.2))] := hD.sub [0, 1] (by decide) rfl
  refine W.eq (g2 := F0 m 17 ls []) rfl ?_
  have O := O.2
  have E : k_Mo_box_14 x14 = RES := (congrArg (k_Mo_box_14) hx14).trans E
  have O : ok_Mo_box_14 x14 := by rw [hx14]; exact O
  exact kr_v hx hb hr hlk hQ hK hP hD hS ⟨((x14.1, x14.2) : Int32 × (Nat → Int32)), E.trans E0.symm, rfl, rfl⟩ (by omega) (by omega) d_Mo_box_17
theorem d_Mo_bytesOf_0 : decode b_Mo_bytesOf 0 = .ok (.iload_n 0, 1) := by decide +kernel
theorem d_Mo_bytesOf_1 : decode b_Mo_bytesOf 1 = .ok (.bipush 127, 2) := by decide +kernel
theorem d_Mo_bytesOf_3 : decode b_Mo_bytesOf 3 = .ok (.iand, 1) := by decide +kernel
theorem d_Mo_bytesOf_4 : decode b_Mo_bytesOf 4 = .ok (.bipush 8, 2) := by decide +kernel
theorem d_Mo_bytesOf_6 : decode b_Mo_bytesOf 6 = .ok (.idiv, 1) := by decide +kernel
theorem d_Mo_bytesOf_7 : decode b_Mo_bytesOf 7 = .ok (.iconst 1, 1) := by decide +kernel
theorem d_Mo_bytesOf_8 : decode b_Mo_bytesOf 8 = .ok (.iadd, 1) := by decide +kernel
theorem d_Mo_bytesOf_9 : decode b_Mo_bytesOf 9 = .ok (.ireturn, 1) := by decide +kernel
def om_Mo_bytesOf : Prop :=
  True
def m_Mo_bytesOf (p0 : Int32) : Int32 :=
  ((p0 &&& 127) / 8) + 1
set_option maxHeartbeats 4000000 in
set_option maxRecDepth 100000 in
theorem c_Mo_bytesOf (l : Launch) (D : va_G) (cB cI cJ : ClassId) (p0 : Int32) (hO : om_Mo_bytesOf) (sz : Nat) : Ct l D cB cI cJ y_Mo_bytesOf b_Mo_bytesOf 1 (some .int) 0 0 0 0 [.int p0] [] (fun v w1 => ∃ (x : Int32), x = m_Mo_bytesOf p0 ∧ v = some (.int x) ∧ w1 = []) sz := by
  refine Ct.of (by decide) (Nat.le_of_ble_eq_true rfl) ?_
  intro p e R s m args below meth c A ls Q hx hb hr hlk hml hta hown hin hK hN hA hRf hRl hRc hRs hP hD hS hl hQ
  have hl : lv_has ls 1 [(0, .int p0)] := hl
  obtain ⟨RES, E0⟩ : ∃ R, m_Mo_bytesOf p0 = R := ⟨_, rfl⟩
  have E := E0
  have O := hO
  refine lv_iload_n hx hb d_Mo_bytesOf_0 rfl (lv_at hl 0 rfl) ?_
  refine lv_bipush (v := 127) hx hb d_Mo_bytesOf_1 (by decide) ?_
  refine lv_iand hx hb d_Mo_bytesOf_3 ?_
  refine lv_bipush (v := 8) hx hb d_Mo_bytesOf_4 (by decide) ?_
  refine lv_idiv hx hb d_Mo_bytesOf_6 (by decide) ?_
  refine lv_iconst (v := 1) hx hb d_Mo_bytesOf_7 (by decide) ?_
  refine lv_iadd hx hb d_Mo_bytesOf_8 ?_
  exact kr_i hx hb hr hlk hQ hK hP hD hS ⟨(((p0 &&& 127) / 8) + 1 : Int32), E.trans E0.symm, rfl, rfl⟩ (by omega) (by omega) d_Mo_bytesOf_9
theorem d_Mo_areAlike_0 : decode b_Mo_areAlike 0 = .ok (.iconst 1, 1) := by decide +kernel
theorem d_Mo_areAlike_1 : decode b_Mo_areAlike 1 = .ok (.istore_n 1, 1) := by decide +kernel
theorem d_Mo_areAlike_2 : decode b_Mo_areAlike 2 = .ok (.iconst 1, 1) := by decide +kernel
theorem d_Mo_areAlike_3 : decode b_Mo_areAlike 3 = .ok (.istore_n 2, 1) := by decide +kernel
theorem d_Mo_areAlike_4 : decode b_Mo_areAlike 4 = .ok (.iload_n 2, 1) := by decide +kernel
theorem d_Mo_areAlike_5 : decode b_Mo_areAlike 5 = .ok (.aload_n 0, 1) := by decide +kernel
theorem d_Mo_areAlike_6 : decode b_Mo_areAlike 6 = .ok (.getfield 55, 3) := by decide +kernel
theorem d_Mo_areAlike_9 : decode b_Mo_areAlike 9 = .ok (.if_icmp .ge 34, 3) := by decide +kernel
theorem d_Mo_areAlike_12 : decode b_Mo_areAlike 12 = .ok (.iload_n 1, 1) := by decide +kernel
theorem d_Mo_areAlike_13 : decode b_Mo_areAlike 13 = .ok (.ifCond .eq 22, 3) := by decide +kernel
theorem d_Mo_areAlike_16 : decode b_Mo_areAlike 16 = .ok (.aload_n 0, 1) := by decide +kernel
theorem d_Mo_areAlike_17 : decode b_Mo_areAlike 17 = .ok (.getfield 7, 3) := by decide +kernel
theorem d_Mo_areAlike_20 : decode b_Mo_areAlike 20 = .ok (.iload_n 2, 1) := by decide +kernel
theorem d_Mo_areAlike_21 : decode b_Mo_areAlike 21 = .ok (.iaload, 1) := by decide +kernel
theorem d_Mo_areAlike_22 : decode b_Mo_areAlike 22 = .ok (.aload_n 0, 1) := by decide +kernel
theorem d_Mo_areAlike_23 : decode b_Mo_areAlike 23 = .ok (.getfield 7, 3) := by decide +kernel
theorem d_Mo_areAlike_26 : decode b_Mo_areAlike 26 = .ok (.iconst 0, 1) := by decide +kernel
theorem d_Mo_areAlike_27 : decode b_Mo_areAlike 27 = .ok (.iaload, 1) := by decide +kernel
theorem d_Mo_areAlike_28 : decode b_Mo_areAlike 28 = .ok (.if_icmp .ne 7, 3) := by decide +kernel
theorem d_Mo_areAlike_31 : decode b_Mo_areAlike 31 = .ok (.iconst 1, 1) := by decide +kernel
theorem d_Mo_areAlike_32 : decode b_Mo_areAlike 32 = .ok (.goto 4, 3) := by decide +kernel
theorem d_Mo_areAlike_35 : decode b_Mo_areAlike 35 = .ok (.iconst 0, 1) := by decide +kernel
theorem d_Mo_areAlike_36 : decode b_Mo_areAlike 36 = .ok (.istore_n 1, 1) := by decide +kernel
theorem d_Mo_areAlike_37 : decode b_Mo_areAlike 37 = .ok (.iinc 2 1, 3) := by decide +kernel
theorem d_Mo_areAlike_40 : decode b_Mo_areAlike 40 = .ok (.goto (-36), 3) := by decide +kernel
theorem d_Mo_areAlike_43 : decode b_Mo_areAlike 43 = .ok (.iload_n 1, 1) := by decide +kernel
theorem d_Mo_areAlike_44 : decode b_Mo_areAlike 44 = .ok (.ireturn, 1) := by decide +kernel
def j_Mo_areAlike_35 (kk_4 : Int32 → Int32 → Int32) (v4_2 : Int32) : Int32 :=
  kk_4 (v4_2 + 1) 0
def oj_Mo_areAlike_35 (okk_4 : Int32 → Int32 → Prop) (v4_2 : Int32) : Prop :=
  okk_4 (v4_2 + 1) 0
def lb_Mo_areAlike_4 (t_components : Int32) (f_t_bits : Nat → Int32) (kk_4 : Int32 → Int32 → Int32) (v4_2 : Int32) (v4_1 : Int32) : Int32 :=
  if t_components ≤ v4_2 then v4_1 else (if v4_1 = 0 then (j_Mo_areAlike_35 kk_4 v4_2) else (if (f_t_bits v4_2.toNatClampNeg) = (f_t_bits (0 : Int32).toNatClampNeg) then (kk_4 (v4_2 + 1) 1) else (j_Mo_areAlike_35 kk_4 v4_2)))
def lp_Mo_areAlike_4 (t_components : Int32) (f_t_bits : Nat → Int32) : Nat → Int32 → Int32 → Int32
  | 0, v4_2, v4_1 => 0
  | n + 1, v4_2, v4_1 => lb_Mo_areAlike_4 t_components f_t_bits (lp_Mo_areAlike_4 t_components f_t_bits n) v4_2 v4_1
def olb_Mo_areAlike_4 (t_components : Int32) (f_t_bits : Nat → Int32) (okk_4 : Int32 → Int32 → Prop) (v4_2 : Int32) (v4_1 : Int32) : Prop :=
  if t_components ≤ v4_2 then (narrow .boolean (.int v4_1) = .int v4_1 ∧ True) else (if v4_1 = 0 then (oj_Mo_areAlike_35 okk_4 v4_2) else (vp_in v4_2 16 ∧ (if (f_t_bits v4_2.toNatClampNeg) = (f_t_bits (0 : Int32).toNatClampNeg) then (okk_4 (v4_2 + 1) 1) else (oj_Mo_areAlike_35 okk_4 v4_2))))
def olp_Mo_areAlike_4 (t_components : Int32) (f_t_bits : Nat → Int32) : Nat → Int32 → Int32 → Prop
  | 0, _, _ => True
  | n + 1, v4_2, v4_1 => olb_Mo_areAlike_4 t_components f_t_bits (olp_Mo_areAlike_4 t_components f_t_bits n) v4_2 v4_1
def om_Mo_areAlike (t_components : Int32) (f_t_bits : Nat → Int32) : Prop :=
  olp_Mo_areAlike_4 t_components f_t_bits ((t_components.toInt - (1 : Int32).toInt).toNat + 1) 1 1
def m_Mo_areAlike (t_components : Int32) (f_t_bits : Nat → Int32) : Int32 :=
  lp_Mo_areAlike_4 t_components f_t_bits ((t_components.toInt - (1 : Int32).toInt).toNat + 1) 1 1
set_option maxHeartbeats 4000000 in
set_option maxRecDepth 100000 in
theorem c_Mo_areAlike (l : Launch) (D : va_G) (cB cI cJ : ClassId) (h_t h_t_bits h_t_profile h_t_columnBits h_t_numbers h_t_map h_t_line h_t_resolutions h_t_file : Nat) (t_thrown : Int32) (t_high : Int32) (t_wide : Int32) (t_components : Int32) (t_unknown : Int32) (t_rights : Int32) (t_colours : Int32) (t_profiled : Int32) (t_entries : Int32) (t_columns : Int32) (t_maps : Int32) (t_lines : Int32) (t_size : Int32) (t_scanned : Int32) (t_refusedAt : Int32) (t_cursor : Int32) (t_streamAt : Int32) (t_streamMany : Int32) (t_name : Int32) (t_from : Int32) (t_end : Int32) (t_sizeAt : Int32) (t_bitsAt : Int32) (t_colourAt : Int32) (t_colourEnd : Int32) (t_paletteAt : Int32) (t_mapAt : Int32) (t_mapEnd : Int32) (t_channelsAt : Int32) (t_captureAt : Int32) (t_displayAt : Int32) (t_resolved : Int32) (f_t_bits : Nat → Int32) (hO : om_Mo_areAlike t_components f_t_bits) (sz : Nat) : Ct l D cB cI cJ y_Mo_areAlike b_Mo_areAlike 3 (some .boolean) 0 0 0 0 [.ref h_t] [(h_t, .inr (7, (.int t_thrown :: .int t_high :: .int t_wide :: .int t_components :: .ref h_t_bits :: .int t_unknown :: .int t_rights :: .int t_colours :: .int t_profiled :: .ref h_t_profile :: .int t_entries :: .int t_columns :: .ref h_t_columnBits :: .ref h_t_numbers :: .int t_maps :: .ref h_t_map :: .int t_lines :: .ref h_t_line :: .ref h_t_resolutions :: .ref h_t_file :: .int t_size :: .int t_scanned :: .int t_refusedAt :: .int t_cursor :: .int t_streamAt :: .int t_streamMany :: .int t_name :: .int t_from :: .int t_end :: .int t_sizeAt :: .int t_bitsAt :: .int t_colourAt :: .int t_colourEnd :: .int t_paletteAt :: .int t_mapAt :: .int t_mapEnd :: .int t_channelsAt :: .int t_captureAt :: .int t_displayAt :: .int t_resolved :: []))), (h_t_bits, .inl (cI, 16, .inl f_t_bits))] (fun v w1 => ∃ (x : Int32), x = m_Mo_areAlike t_components f_t_bits ∧ v = some (.int x) ∧ w1 = [(h_t, .inr (7, (.int t_thrown :: .int t_high :: .int t_wide :: .int t_components :: .ref h_t_bits :: .int t_unknown :: .int t_rights :: .int t_colours :: .int t_profiled :: .ref h_t_profile :: .int t_entries :: .int t_columns :: .ref h_t_columnBits :: .ref h_t_numbers :: .int t_maps :: .ref h_t_map :: .int t_lines :: .ref h_t_line :: .ref h_t_resolutions :: .ref h_t_file :: .int t_size :: .int t_scanned :: .int t_refusedAt :: .int t_cursor :: .int t_streamAt :: .int t_streamMany :: .int t_name :: .int t_from :: .int t_end :: .int t_sizeAt :: .int t_bitsAt :: .int t_colourAt :: .int t_colourEnd :: .int t_paletteAt :: .int t_mapAt :: .int t_mapEnd :: .int t_channelsAt :: .int t_captureAt :: .int t_displayAt :: .int t_resolved :: []))), (h_t_bits, .inl (cI, 16, .inl f_t_bits))]) sz := by
  refine Ct.of (by decide) (Nat.le_of_ble_eq_true rfl) ?_
  intro p e R s m args below meth c A ls Q hx hb hr hlk hml hta hown hin hK hN hA hRf hRl hRc hRs hP hD hS hl hQ
  have hl : lv_has ls 3 [(0, .ref h_t)] := hl
  obtain ⟨RES, E0⟩ : ∃ R, m_Mo_areAlike t_components f_t_bits = R := ⟨_, rfl⟩
  have E := E0
  have O := hO
  refine lv_iconst (v := 1) hx hb d_Mo_areAlike_0 (by decide) ?_
  refine lv_istore_n (lv' := [(1, .int 1), (0, .ref h_t)]) hx hb d_Mo_areAlike_1 rfl hl (by decide) rfl (fun ls hl => ?_)
  refine lv_iconst (v := 1) hx hb d_Mo_areAlike_2 (by decide) ?_
  refine lv_istore_n (lv' := [(2, .int 1), (1, .int 1), (0, .ref h_t)]) hx hb d_Mo_areAlike_3 rfl hl (by decide) rfl (fun ls hl => ?_)
  have L_4 : ∀ (n : Nat) (v4_2 : Int32) (v4_1 : Int32), (t_components.toInt - v4_2.toInt).toNat < n → lp_Mo_areAlike_4 t_components f_t_bits n v4_2 v4_1 = RES → olp_Mo_areAlike_4 t_components f_t_bits n v4_2 v4_1 → ∀ (H : Heap) (locs : List Loc), va_P D classes [(h_t, .inr (7, (.int t_thrown :: .int t_high :: .int t_wide :: .int t_components :: .ref h_t_bits :: .int t_unknown :: .int t_rights :: .int t_colours :: .int t_profiled :: .ref h_t_profile :: .int t_entries :: .int t_columns :: .ref h_t_columnBits :: .ref h_t_numbers :: .int t_maps :: .ref h_t_map :: .int t_lines :: .ref h_t_line :: .ref h_t_resolutions :: .ref h_t_file :: .int t_size :: .int t_scanned :: .int t_refusedAt :: .int t_cursor :: .int t_streamAt :: .int t_streamMany :: .int t_name :: .int t_from :: .int t_end :: .int t_sizeAt :: .int t_bitsAt :: .int t_colourAt :: .int t_colourEnd :: .int t_paletteAt :: .int t_mapAt :: .int t_mapEnd :: .int t_channelsAt :: .int t_captureAt :: .int t_displayAt :: .int t_resolved :: []))), (h_t_bits, .inl (cI, 16, .inl f_t_bits))] H → va_D A [(h_t, .inr (7, (.int t_thrown :: .int t_high :: .int t_wide :: .int t_components :: .ref h_t_bits :: .int t_unknown :: .int t_rights :: .int t_colours :: .int t_profiled :: .ref h_t_profile :: .int t_entries :: .int t_columns :: .ref h_t_columnBits :: .ref h_t_numbers :: .int t_maps :: .ref h_t_map :: .int t_lines :: .ref h_t_line :: .ref h_t_resolutions :: .ref h_t_file :: .int t_size :: .int t_scanned :: .int t_refusedAt :: .int t_cursor :: .int t_streamAt :: .int t_streamMany :: .int t_name :: .int t_from :: .int t_end :: .int t_sizeAt :: .int t_bitsAt :: .int t_colourAt :: .int t_colourEnd :: .int t_paletteAt :: .int t_mapAt :: .int t_mapEnd :: .int t_channelsAt :: .int t_captureAt :: .int t_displayAt :: .int t_resolved :: []))), (h_t_bits, .inl (cI, 16, .inl f_t_bits))] → va_S A s.heap H locs → ∀ ls : Array Slot, lv_has ls 3 [(2, .int v4_2), (1, .int v4_1), (0, .ref h_t)] → W p l e R s m args below meth c H locs 0 0 Q (F0 m 4 ls []) := by
    intro n
    induction n with
    | zero => intro v4_2 v4_1 hlt; exact absurd hlt (Nat.not_lt_zero _)
    | succ n ih =>
      intro v4_2 v4_1 hlt_4 E O H locs hP hD hS ls hl
      have E : lb_Mo_areAlike_4 t_components f_t_bits (lp_Mo_areAlike_4 t_components f_t_bits n) v4_2 v4_1 = RES := E
      have O : olb_Mo_areAlike_4 t_components f_t_bits (olp_Mo_areAlike_4 t_components f_t_bits n) v4_2 v4_1 := O
      generalize lp_Mo_areAlike_4 t_components f_t_bits n = kk_4 at ih E
      generalize olp_Mo_areAlike_4 t_components f_t_bits n = okk_4 at ih O
      have ih_4 := ih
      clear ih
      refine lv_iload_n hx hb d_Mo_areAlike_4 rfl (lv_at hl 0 rfl) ?_
      refine lv_aload_n hx hb d_Mo_areAlike_5 rfl (lv_at hl 2 rfl) ?_
      refine va_get (D := D) (v := .int t_components) hx hb hta i_Mo hown hK hP 0 rfl rfl 3 (by decide) (hta _ lk_Mo_55) (fun _ h9 => h9) rfl d_Mo_areAlike_6 ?_
      refine lv_icmp_ge (tgt := 43) hx hb d_Mo_areAlike_9 (by decide) (fun c_9 => ?_) (fun c_9 => ?_)
      · have E := (if_pos c_9).symm.trans E
        have O := Eq.mp (if_pos c_9) O
        refine lv_iload_n hx hb d_Mo_areAlike_43 rfl (lv_at hl 1 rfl) ?_
        exact kr_z hx hb hr hlk hQ hK hP hD hS ⟨(v4_1 : Int32), E.trans E0.symm, rfl, rfl⟩ (by omega) (by omega) O.1 d_Mo_areAlike_44
      · have E := (if_neg c_9).symm.trans E
        have O := Eq.mp (if_neg c_9) O
        refine lv_iload_n hx hb d_Mo_areAlike_12 rfl (lv_at hl 1 rfl) ?_
        have J_35 : j_Mo_areAlike_35 kk_4 v4_2 = RES → oj_Mo_areAlike_35 okk_4 v4_2 → ∀ (H : Heap) (locs : List Loc), va_P D classes [(h_t, .inr (7, (.int t_thrown :: .int t_high :: .int t_wide :: .int t_components :: .ref h_t_bits :: .int t_unknown :: .int t_rights :: .int t_colours :: .int t_profiled :: .ref h_t_profile :: .int t_entries :: .int t_columns :: .ref h_t_columnBits :: .ref h_t_numbers :: .int t_maps :: .ref h_t_map :: .int t_lines :: .ref h_t_line :: .ref h_t_resolutions :: .ref h_t_file :: .int t_size :: .int t_scanned :: .int t_refusedAt :: .int t_cursor :: .int t_streamAt :: .int t_streamMany :: .int t_name :: .int t_from :: .int t_end :: .int t_sizeAt :: .int t_bitsAt :: .int t_colourAt :: .int t_colourEnd :: .int t_paletteAt :: .int t_mapAt :: .int t_mapEnd :: .int t_channelsAt :: .int t_captureAt :: .int t_displayAt :: .int t_resolved :: []))), (h_t_bits, .inl (cI, 16, .inl f_t_bits))] H → va_D A [(h_t, .inr (7, (.int t_thrown :: .int t_high :: .int t_wide :: .int t_components :: .ref h_t_bits :: .int t_unknown :: .int t_rights :: .int t_colours :: .int t_profiled :: .ref h_t_profile :: .int t_entries :: .int t_columns :: .ref h_t_columnBits :: .ref h_t_numbers :: .int t_maps :: .ref h_t_map :: .int t_lines :: .ref h_t_line :: .ref h_t_resolutions :: .ref h_t_file :: .int t_size :: .int t_scanned :: .int t_refusedAt :: .int t_cursor :: .int t_streamAt :: .int t_streamMany :: .int t_name :: .int t_from :: .int t_end :: .int t_sizeAt :: .int t_bitsAt :: .int t_colourAt :: .int t_colourEnd :: .int t_paletteAt :: .int t_mapAt :: .int t_mapEnd :: .int t_channelsAt :: .int t_captureAt :: .int t_displayAt :: .int t_resolved :: []))), (h_t_bits, .inl (cI, 16, .inl f_t_bits))] → va_S A s.heap H locs → ∀ ls : Array Slot, lv_has ls 3 [(2, .int v4_2), (0, .ref h_t)] → W p l e R s m args below meth c H locs 0 0 Q (F0 m 35 ls []) := by
          intro E O H locs hP hD hS ls hl
          refine lv_iconst (v := 0) hx hb d_Mo_areAlike_35 (by decide) ?_
          refine lv_istore_n (lv' := [(1, .int 0), (2, .int v4_2), (0, .ref h_t)]) hx hb d_Mo_areAlike_36 rfl hl (by decide) rfl (fun ls hl => ?_)
          refine lv_iinc (v := v4_2 + 1) (lv' := [(2, .int (v4_2 + 1)), (1, .int 0), (0, .ref h_t)]) hx hb d_Mo_areAlike_37 hl (k := 1) rfl rfl (by decide) rfl (fun ls hl => ?_)
          refine lv_goto (tgt := 4) hx hb d_Mo_areAlike_40 (by decide) ?_
          exact ih_4 (v4_2 + 1) 0 (Nat.lt_of_lt_of_le (tm_up c_9) (Nat.le_of_lt_succ hlt_4)) E O _ _ hP hD hS ls (lv_sub hl [0, 1, 2] rfl)
        refine lv_if_eq (tgt := 35) hx hb d_Mo_areAlike_13 (by decide) (fun c_13 => ?_) (fun c_13 => ?_)
        · have E := (if_pos c_13).symm.trans E
          have O := Eq.mp (if_pos c_13) O
          exact J_35  E O _ _ hP hD hS ls (lv_sub hl [0, 2] rfl)
        · have E := (if_neg c_13).symm.trans E
          have O := Eq.mp (if_neg c_13) O
          refine lv_aload_n hx hb d_Mo_areAlike_16 rfl (lv_at hl 2 rfl) ?_
          refine va_get (D := D) (v := .ref h_t_bits) hx hb hta i_Mo hown hK hP 0 rfl rfl 4 (by decide) (hta _ lk_Mo_7) (fun _ h9 => h9) rfl d_Mo_areAlike_17 ?_
          refine lv_iload_n hx hb d_Mo_areAlike_20 rfl (lv_at hl 0 rfl) ?_
          refine va_iald hx hb hK hP 1 1 rfl rfl O.1 d_Mo_areAlike_21 ?_
          have O := O.2
          refine lv_aload_n hx hb d_Mo_areAlike_22 rfl (lv_at hl 2 rfl) ?_
          refine va_get (D := D) (v := .ref h_t_bits) hx hb hta i_Mo hown hK hP 0 rfl rfl 4 (by decide) (hta _ lk_Mo_7) (fun _ h9 => h9) rfl d_Mo_areAlike_23 ?_
          refine lv_iconst (v := 0) hx hb d_Mo_areAlike_26 (by decide) ?_
          refine va_iald hx hb hK hP 1 1 rfl rfl (vin_of (by decide) (by decide) (by decide)) d_Mo_areAlike_27 ?_
          refine lv_icmp_ne (tgt := 35) hx hb d_Mo_areAlike_28 (by decide) (fun c_28 => ?_) (fun c_28 => ?_)
          · have E := (if_neg c_28).symm.trans E
            have O := Eq.mp (if_neg c_28) O
            exact J_35  E O _ _ hP hD hS ls (lv_sub hl [0, 2] rfl)
          · have E := (if_pos c_28).symm.trans E
            have O := Eq.mp (if_pos c_28) O
            refine lv_iconst (v := 1) hx hb d_Mo_areAlike_31 (by decide) ?_
            refine lv_goto (tgt := 36) hx hb d_Mo_areAlike_32 (by decide) ?_
            refine lv_istore_n (lv' := [(1, .int 1), (2, .int v4_2), (0, .ref h_t)]) hx hb d_Mo_areAlike_36 rfl hl (by decide) rfl (fun ls hl => ?_)
            refine lv_iinc (v := v4_2 + 1) (lv' := [(2, .int (v4_2 + 1)), (1, .int 1), (0, .ref h_t)]) hx hb d_Mo_areAlike_37 hl (k := 1) rfl rfl (by decide) rfl (fun ls hl => ?_)
            refine lv_goto (tgt := 4) hx hb d_Mo_areAlike_40 (by decide) ?_
            exact ih_4 (v4_2 + 1) 1 (Nat.lt_of_lt_of_le (tm_up c_9) (Nat.le_of_lt_succ hlt_4)) E O _ _ hP hD hS ls (lv_sub hl [0, 1, 2] rfl)
  exact L_4 _ 1 1 (Nat.lt_succ_self _) E O _ _ hP hD hS ls (lv_sub hl [0, 1, 2] rfl)
theorem d_Mo_paletteSize_0 : decode b_Mo_paletteSize 0 = .ok (.iconst 0, 1) := by decide +kernel
theorem d_Mo_paletteSize_1 : decode b_Mo_paletteSize 1 = .ok (.istore_n 1, 1) := by decide +kernel
theorem d_Mo_paletteSize_2 : decode b_Mo_paletteSize 2 = .ok (.iconst 0, 1) := by decide +kernel
theorem d_Mo_paletteSize_3 : decode b_Mo_paletteSize 3 = .ok (.istore_n 2, 1) := by decide +kernel
theorem d_Mo_paletteSize_4 : decode b_Mo_paletteSize 4 = .ok (.iload_n 2, 1) := by decide +kernel
theorem d_Mo_paletteSize_5 : decode b_Mo_paletteSize 5 = .ok (.aload_n 0, 1) := by decide +kernel
theorem d_Mo_paletteSize_6 : decode b_Mo_paletteSize 6 = .ok (.getfield 70, 3) := by decide +kernel
theorem d_Mo_paletteSize_9 : decode b_Mo_paletteSize 9 = .ok (.if_icmp .ge 21, 3) := by decide +kernel
theorem d_Mo_paletteSize_12 : decode b_Mo_paletteSize 12 = .ok (.iload_n 1, 1) := by decide +kernel
theorem d_Mo_paletteSize_13 : decode b_Mo_paletteSize 13 = .ok (.aload_n 0, 1) := by decide +kernel
theorem d_Mo_paletteSize_14 : decode b_Mo_paletteSize 14 = .ok (.getfield 20, 3) := by decide +kernel
theorem d_Mo_paletteSize_17 : decode b_Mo_paletteSize 17 = .ok (.iload_n 2, 1) := by decide +kernel
theorem d_Mo_paletteSize_18 : decode b_Mo_paletteSize 18 = .ok (.iaload, 1) := by decide +kernel
theorem d_Mo_paletteSize_19 : decode b_Mo_paletteSize 19 = .ok (.invokestatic 157, 3) := by decide +kernel
theorem d_Mo_paletteSize_22 : decode b_Mo_paletteSize 22 = .ok (.iadd, 1) := by decide +kernel
theorem d_Mo_paletteSize_23 : decode b_Mo_paletteSize 23 = .ok (.istore_n 1, 1) := by decide +kernel
theorem d_Mo_paletteSize_24 : decode b_Mo_paletteSize 24 = .ok (.iinc 2 1, 3) := by decide +kernel
theorem d_Mo_paletteSize_27 : decode b_Mo_paletteSize 27 = .ok (.goto (-23), 3) := by decide +kernel
theorem d_Mo_paletteSize_30 : decode b_Mo_paletteSize 30 = .ok (.iconst 3, 1) := by decide +kernel
theorem d_Mo_paletteSize_31 : decode b_Mo_paletteSize 31 = .ok (.aload_n 0, 1) := by decide +kernel
theorem d_Mo_paletteSize_32 : decode b_Mo_paletteSize 32 = .ok (.getfield 70, 3) := by decide +kernel
theorem d_Mo_paletteSize_35 : decode b_Mo_paletteSize 35 = .ok (.iadd, 1) := by decide +kernel
theorem d_Mo_paletteSize_36 : decode b_Mo_paletteSize 36 = .ok (.aload_n 0, 1) := by decide +kernel
theorem d_Mo_paletteSize_37 : decode b_Mo_paletteSize 37 = .ok (.getfield 67, 3) := by decide +kernel
theorem d_Mo_paletteSize_40 : decode b_Mo_paletteSize 40 = .ok (.iload_n 1, 1) := by decide +kernel
theorem d_Mo_paletteSize_41 : decode b_Mo_paletteSize 41 = .ok (.imul, 1) := by decide +kernel
theorem d_Mo_paletteSize_42 : decode b_Mo_paletteSize 42 = .ok (.iadd, 1) := by decide +kernel
theorem d_Mo_paletteSize_43 : decode b_Mo_paletteSize 43 = .ok (.ireturn, 1) := by decide +kernel
def k_Mo_paletteSize_19 (kk_4 : Int32 → Int32 → Int32) (v4_2 : Int32) (v4_1 : Int32) (x19 : Int32) : Int32 :=
  kk_4 (v4_2 + 1) (v4_1 + x19)
def ok_Mo_paletteSize_19 (okk_4 : Int32 → Int32 → Prop) (v4_2 : Int32) (v4_1 : Int32) (x19 : Int32) : Prop :=
  okk_4 (v4_2 + 1) (v4_1 + x19)
def lb_Mo_paletteSize_4 (t_entries : Int32) (t_columns : Int32) (f_t_columnBits : Nat → Int32) (kk_4 : Int32 → Int32 → Int32) (v4_2 : Int32) (v4_1 : Int32) : Int32 :=
  if t_columns ≤ v4_2 then ((3 + t_columns) + (t_entries * v4_1)) else (k_Mo_paletteSize_19 kk_4 v4_2 v4_1 (m_Mo_bytesOf (f_t_columnBits v4_2.toNatClampNeg)))
def lp_Mo_paletteSize_4 (t_entries : Int32) (t_columns : Int32) (f_t_columnBits : Nat → Int32) : Nat → Int32 → Int32 → Int32
  | 0, v4_2, v4_1 => 0
  | n + 1, v4_2, v4_1 => lb_Mo_paletteSize_4 t_entries t_columns f_t_columnBits (lp_Mo_paletteSize_4 t_entries t_columns f_t_columnBits n) v4_2 v4_1
def olb_Mo_paletteSize_4 (t_columns : Int32) (f_t_columnBits : Nat → Int32) (okk_4 : Int32 → Int32 → Prop) (v4_2 : Int32) (v4_1 : Int32) : Prop :=
  if t_columns ≤ v4_2 then True else (vp_in v4_2 8 ∧ om_Mo_bytesOf ∧ (ok_Mo_paletteSize_19 okk_4 v4_2 v4_1 (m_Mo_bytesOf (f_t_columnBits v4_2.toNatClampNeg))))
def olp_Mo_paletteSize_4 (t_columns : Int32) (f_t_columnBits : Nat → Int32) : Nat → Int32 → Int32 → Prop
  | 0, _, _ => True
  | n + 1, v4_2, v4_1 => olb_Mo_paletteSize_4 t_columns f_t_columnBits (olp_Mo_paletteSize_4 t_columns f_t_columnBits n) v4_2 v4_1
def om_Mo_paletteSize (t_columns : Int32) (f_t_columnBits : Nat → Int32) : Prop :=
  olp_Mo_paletteSize_4 t_columns f_t_columnBits ((t_columns.toInt - (0 : Int32).toInt).toNat + 1) 0 0
def m_Mo_paletteSize (t_entries : Int32) (t_columns : Int32) (f_t_columnBits : Nat → Int32) : Int32 :=
  lp_Mo_paletteSize_4 t_entries t_columns f_t_columnBits ((t_columns.toInt - (0 : Int32).toInt).toNat + 1) 0 0
set_option maxHeartbeats 4000000 in
set_option maxRecDepth 100000 in
theorem c_Mo_paletteSize (l : Launch) (D : va_G) (cB cI cJ : ClassId) (h_t h_t_bits h_t_profile h_t_columnBits h_t_numbers h_t_map h_t_line h_t_resolutions h_t_file : Nat) (t_thrown : Int32) (t_high : Int32) (t_wide : Int32) (t_components : Int32) (t_unknown : Int32) (t_rights : Int32) (t_colours : Int32) (t_profiled : Int32) (t_entries : Int32) (t_columns : Int32) (t_maps : Int32) (t_lines : Int32) (t_size : Int32) (t_scanned : Int32) (t_refusedAt : Int32) (t_cursor : Int32) (t_streamAt : Int32) (t_streamMany : Int32) (t_name : Int32) (t_from : Int32) (t_end : Int32) (t_sizeAt : Int32) (t_bitsAt : Int32) (t_colourAt : Int32) (t_colourEnd : Int32) (t_paletteAt : Int32) (t_mapAt : Int32) (t_mapEnd : Int32) (t_channelsAt : Int32) (t_captureAt : Int32) (t_displayAt : Int32) (t_resolved : Int32) (f_t_columnBits : Nat → Int32) (hO : om_Mo_paletteSize t_columns f_t_columnBits) (sz : Nat) : Ct l D cB cI cJ y_Mo_paletteSize b_Mo_paletteSize 3 (some .int) 1 20 0 0 [.ref h_t] [(h_t, .inr (7, (.int t_thrown :: .int t_high :: .int t_wide :: .int t_components :: .ref h_t_bits :: .int t_unknown :: .int t_rights :: .int t_colours :: .int t_profiled :: .ref h_t_profile :: .int t_entries :: .int t_columns :: .ref h_t_columnBits :: .ref h_t_numbers :: .int t_maps :: .ref h_t_map :: .int t_lines :: .ref h_t_line :: .ref h_t_resolutions :: .ref h_t_file :: .int t_size :: .int t_scanned :: .int t_refusedAt :: .int t_cursor :: .int t_streamAt :: .int t_streamMany :: .int t_name :: .int t_from :: .int t_end :: .int t_sizeAt :: .int t_bitsAt :: .int t_colourAt :: .int t_colourEnd :: .int t_paletteAt :: .int t_mapAt :: .int t_mapEnd :: .int t_channelsAt :: .int t_captureAt :: .int t_displayAt :: .int t_resolved :: []))), (h_t_columnBits, .inl (cI, 8, .inl f_t_columnBits))] (fun v w1 => ∃ (x : Int32), x = m_Mo_paletteSize t_entries t_columns f_t_columnBits ∧ v = some (.int x) ∧ w1 = [(h_t, .inr (7, (.int t_thrown :: .int t_high :: .int t_wide :: .int t_components :: .ref h_t_bits :: .int t_unknown :: .int t_rights :: .int t_colours :: .int t_profiled :: .ref h_t_profile :: .int t_entries :: .int t_columns :: .ref h_t_columnBits :: .ref h_t_numbers :: .int t_maps :: .ref h_t_map :: .int t_lines :: .ref h_t_line :: .ref h_t_resolutions :: .ref h_t_file :: .int t_size :: .int t_scanned :: .int t_refusedAt :: .int t_cursor :: .int t_streamAt :: .int t_streamMany :: .int t_name :: .int t_from :: .int t_end :: .int t_sizeAt :: .int t_bitsAt :: .int t_colourAt :: .int t_colourEnd :: .int t_paletteAt :: .int t_mapAt :: .int t_mapEnd :: .int t_channelsAt :: .int t_captureAt :: .int t_displayAt :: .int t_resolved :: []))), (h_t_columnBits, .inl (cI, 8, .inl f_t_columnBits))]) sz := by
  refine Ct.of (by decide) (Nat.le_of_ble_eq_true rfl) ?_
  intro p e R s m args below meth c A ls Q hx hb hr hlk hml hta hown hin hK hN hA hRf hRl hRc hRs hP hD hS hl hQ
  have hl : lv_has ls 3 [(0, .ref h_t)] := hl
  obtain ⟨RES, E0⟩ : ∃ R, m_Mo_paletteSize t_entries t_columns f_t_columnBits = R := ⟨_, rfl⟩
  have E := E0
  have O := hO
  refine lv_iconst (v := 0) hx hb d_Mo_paletteSize_0 (by decide) ?_
  refine lv_istore_n (lv' := [(1, .int 0), (0, .ref h_t)]) hx hb d_Mo_paletteSize_1 rfl hl (by decide) rfl (fun ls hl => ?_)
  refine lv_iconst (v := 0) hx hb d_Mo_paletteSize_2 (by decide) ?_
  refine lv_istore_n (lv' := [(2, .int 0), (1, .int 0), (0, .ref h_t)]) hx hb d_Mo_paletteSize_3 rfl hl (by decide) rfl (fun ls hl => ?_)
  have L_4 : ∀ (n : Nat) (v4_2 : Int32) (v4_1 : Int32), (t_columns.toInt - v4_2.toInt).toNat < n → lp_Mo_paletteSize_4 t_entries t_columns f_t_columnBits n v4_2 v4_1 = RES → olp_Mo_paletteSize_4 t_columns f_t_columnBits n v4_2 v4_1 → ∀ (H : Heap) (locs : List Loc), va_P D classes [(h_t, .inr (7, (.int t_thrown :: .int t_high :: .int t_wide :: .int t_components :: .ref h_t_bits :: .int t_unknown :: .int t_rights :: .int t_colours :: .int t_profiled :: .ref h_t_profile :: .int t_entries :: .int t_columns :: .ref h_t_columnBits :: .ref h_t_numbers :: .int t_maps :: .ref h_t_map :: .int t_lines :: .ref h_t_line :: .ref h_t_resolutions :: .ref h_t_file :: .int t_size :: .int t_scanned :: .int t_refusedAt :: .int t_cursor :: .int t_streamAt :: .int t_streamMany :: .int t_name :: .int t_from :: .int t_end :: .int t_sizeAt :: .int t_bitsAt :: .int t_colourAt :: .int t_colourEnd :: .int t_paletteAt :: .int t_mapAt :: .int t_mapEnd :: .int t_channelsAt :: .int t_captureAt :: .int t_displayAt :: .int t_resolved :: []))), (h_t_columnBits, .inl (cI, 8, .inl f_t_columnBits))] H → va_D A [(h_t, .inr (7, (.int t_thrown :: .int t_high :: .int t_wide :: .int t_components :: .ref h_t_bits :: .int t_unknown :: .int t_rights :: .int t_colours :: .int t_profiled :: .ref h_t_profile :: .int t_entries :: .int t_columns :: .ref h_t_columnBits :: .ref h_t_numbers :: .int t_maps :: .ref h_t_map :: .int t_lines :: .ref h_t_line :: .ref h_t_resolutions :: .ref h_t_file :: .int t_size :: .int t_scanned :: .int t_refusedAt :: .int t_cursor :: .int t_streamAt :: .int t_streamMany :: .int t_name :: .int t_from :: .int t_end :: .int t_sizeAt :: .int t_bitsAt :: .int t_colourAt :: .int t_colourEnd :: .int t_paletteAt :: .int t_mapAt :: .int t_mapEnd :: .int t_channelsAt :: .int t_captureAt :: .int t_displayAt :: .int t_resolved :: []))), (h_t_columnBits, .inl (cI, 8, .inl f_t_columnBits))] → va_S A s.heap H locs → ∀ ls : Array Slot, lv_has ls 3 [(2, .int v4_2), (1, .int v4_1), (0, .ref h_t)] → W p l e R s m args below meth c H locs 0 0 Q (F0 m 4 ls []) := by
    intro n
    induction n with
    | zero => intro v4_2 v4_1 hlt; exact absurd hlt (Nat.not_lt_zero _)
    | succ n ih =>
      intro v4_2 v4_1 hlt_4 E O H locs hP hD hS ls hl
      have E : lb_Mo_paletteSize_4 t_entries t_columns f_t_columnBits (lp_Mo_paletteSize_4 t_entries t_columns f_t_columnBits n) v4_2 v4_1 = RES := E
      have O : olb_Mo_paletteSize_4 t_columns f_t_columnBits (olp_Mo_paletteSize_4 t_columns f_t_columnBits n) v4_2 v4_1 := O
      generalize lp_Mo_paletteSize_4 t_entries t_columns f_t_columnBits n = kk_4 at ih E
      generalize olp_Mo_paletteSize_4 t_columns f_t_columnBits n = okk_4 at ih O
      have ih_4 := ih
      clear ih
      refine lv_iload_n hx hb d_Mo_paletteSize_4 rfl (lv_at hl 0 rfl) ?_
      refine lv_aload_n hx hb d_Mo_paletteSize_5 rfl (lv_at hl 2 rfl) ?_
      refine va_get (D := D) (v := .int t_columns) hx hb hta i_Mo hown hK hP 0 rfl rfl 11 (by decide) (hta _ lk_Mo_70) (fun _ h9 => h9) rfl d_Mo_paletteSize_6 ?_
      refine lv_icmp_ge (tgt := 30) hx hb d_Mo_paletteSize_9 (by decide) (fun c_9 => ?_) (fun c_9 => ?_)
      · have E := (if_pos c_9).symm.trans E
        have O := Eq.mp (if_pos c_9) O
        refine lv_iconst (v := 3) hx hb d_Mo_paletteSize_30 (by decide) ?_
        refine lv_aload_n hx hb d_Mo_paletteSize_31 rfl (lv_at hl 2 rfl) ?_
        refine va_get (D := D) (v := .int t_columns) hx hb hta i_Mo hown hK hP 0 rfl rfl 11 (by decide) (hta _ lk_Mo_70) (fun _ h9 => h9) rfl d_Mo_paletteSize_32 ?_
        refine lv_iadd hx hb d_Mo_paletteSize_35 ?_
        refine lv_aload_n hx hb d_Mo_paletteSize_36 rfl (lv_at hl 2 rfl) ?_
        refine va_get (D := D) (v := .int t_entries) hx hb hta i_Mo hown hK hP 0 rfl rfl 10 (by decide) (hta _ lk_Mo_67) (fun _ h9 => h9) rfl d_Mo_paletteSize_37 ?_
        refine lv_iload_n hx hb d_Mo_paletteSize_40 rfl (lv_at hl 1 rfl) ?_
        refine lv_imul hx hb d_Mo_paletteSize_41 ?_
        refine lv_iadd hx hb d_Mo_paletteSize_42 ?_
        exact kr_i hx hb hr hlk hQ hK hP hD hS ⟨((3 + t_columns) + (t_entries * v4_1) : Int32), E.trans E0.symm, rfl, rfl⟩ (by omega) (by omega) d_Mo_paletteSize_43
      · have E := (if_neg c_9).symm.trans E
        have O := Eq.mp (if_neg c_9) O
        refine lv_iload_n hx hb d_Mo_paletteSize_12 rfl (lv_at hl 1 rfl) ?_
        refine lv_aload_n hx hb d_Mo_paletteSize_13 rfl (lv_at hl 2 rfl) ?_
        refine va_get (D := D) (v := .ref h_t_columnBits) hx hb hta i_Mo hown hK hP 0 rfl rfl 12 (by decide) (hta _ lk_Mo_20) (fun _ h9 => h9) rfl d_Mo_paletteSize_14 ?_
        refine lv_iload_n hx hb d_Mo_paletteSize_17 rfl (lv_at hl 0 rfl) ?_
        refine va_iald hx hb hK hP 1 1 rfl rfl O.1 d_Mo_paletteSize_18 ?_
        have O := O.2
        refine kc_S (As := [.int (f_t_columnBits v4_2.toNatClampNeg)]) (rest := [.int v4_1]) (wr := [(h_t, .inr (7, (.int t_thrown :: .int t_high :: .int t_wide :: .int t_components :: .ref h_t_bits :: .int t_unknown :: .int t_rights :: .int t_colours :: .int t_profiled :: .ref h_t_profile :: .int t_entries :: .int t_columns :: .ref h_t_columnBits :: .ref h_t_numbers :: .int t_maps :: .ref h_t_map :: .int t_lines :: .ref h_t_line :: .ref h_t_resolutions :: .ref h_t_file :: .int t_size :: .int t_scanned :: .int t_refusedAt :: .int t_cursor :: .int t_streamAt :: .int t_streamMany :: .int t_name :: .int t_from :: .int t_end :: .int t_sizeAt :: .int t_bitsAt :: .int t_colourAt :: .int t_colourEnd :: .int t_paletteAt :: .int t_mapAt :: .int t_mapEnd :: .int t_channelsAt :: .int t_captureAt :: .int t_displayAt :: .int t_resolved :: []))), (h_t_columnBits, .inl (cI, 8, .inl f_t_columnBits))]) [] [0, 1] ⟨hx, hb, hml, hown, hta⟩ hK hN hP hD hS hA (c_Mo_bytesOf l D cB cI cJ (f_t_columnBits v4_2.toNatClampNeg) O.1 _) (hta _ lk_Mo_157) (hta _ ini_Mo) (hta _ code_Mo_bytesOf) code_Mo_bytesOf (hta _ stat_Mo_bytesOf) hd_Mo_bytesOf rfl ⟨by omega, by omega⟩ rfl rfl (by decide) (by decide) (by decide) rfl hl.1 (lv_room (Nat.le_of_ble_eq_true rfl)) d_Mo_paletteSize_19 ⟨by omega, by omega⟩ (fun v w1 H locs hw hP hD hS => ?_)
        obtain ⟨x19, hx19, rfl, rfl⟩ := hw
        have hP : va_P D classes [(h_t, .inr (7, (.int t_thrown :: .int t_high :: .int t_wide :: .int t_components :: .ref h_t_bits :: .int t_unknown :: .int t_rights :: .int t_colours :: .int t_profiled :: .ref h_t_profile :: .int t_entries :: .int t_columns :: .ref h_t_columnBits :: .ref h_t_numbers :: .int t_maps :: .ref h_t_map :: .int t_lines :: .ref h_t_line :: .ref h_t_resolutions :: .ref h_t_file :: .int t_size :: .int t_scanned :: .int t_refusedAt :: .int t_cursor :: .int t_streamAt :: .int t_streamMany :: .int t_name :: .int t_from :: .int t_end :: .int t_sizeAt :: .int t_bitsAt :: .int t_colourAt :: .int t_colourEnd :: .int t_paletteAt :: .int t_mapAt :: .int t_mapEnd :: .int t_channelsAt :: .int t_captureAt :: .int t_displayAt :: .int t_resolved :: []))), (h_t_columnBits, .inl (cI, 8, .inl f_t_columnBits))] H := hP.sub [0, 1] rfl
        have hD : va_D A [(h_t, .inr (7, (.int t_thrown :: .int t_high :: .int t_wide :: .int t_components :: .ref h_t_bits :: .int t_unknown :: .int t_rights :: .int t_colours :: .int t_profiled :: .ref h_t_profile :: .int t_entries :: .int t_columns :: .ref h_t_columnBits :: .ref h_t_numbers :: .int t_maps :: .ref h_t_map :: .int t_lines :: .ref h_t_line :: .ref h_t_resolutions :: .ref h_t_file :: .int t_size :: .int t_scanned :: .int t_refusedAt :: .int t_cursor :: .int t_streamAt :: .int t_streamMany :: .int t_name :: .int t_from :: .int t_end :: .int t_sizeAt :: .int t_bitsAt :: .int t_colourAt :: .int t_colourEnd :: .int t_paletteAt :: .int t_mapAt :: .int t_mapEnd :: .int t_channelsAt :: .int t_captureAt :: .int t_displayAt :: .int t_resolved :: []))), (h_t_columnBits, .inl (cI, 8, .inl f_t_columnBits))] := hD.sub [0, 1] (by decide) rfl
        refine W.eq (g2 := F0 m 22 ls [.int x19, .int v4_1]) rfl ?_
        have O := O.2
        have E : k_Mo_paletteSize_19 kk_4 v4_2 v4_1 x19 = RES := (congrArg (k_Mo_paletteSize_19 kk_4 v4_2 v4_1) hx19).trans E
        have O : ok_Mo_paletteSize_19 okk_4 v4_2 v4_1 x19 := by rw [hx19]; exact O
        refine lv_iadd hx hb d_Mo_paletteSize_22 ?_
        refine lv_istore_n (lv' := [(1, .int (v4_1 + x19)), (2, .int v4_2), (0, .ref h_t)]) hx hb d_Mo_paletteSize_23 rfl hl (by decide) rfl (fun ls hl => ?_)
        refine lv_iinc (v := v4_2 + 1) (lv' := [(2, .int (v4_2 + 1)), (1, .int (v4_1 + x19)), (0, .ref h_t)]) hx hb d_Mo_paletteSize_24 hl (k := 1) rfl rfl (by decide) rfl (fun ls hl => ?_)
        refine lv_goto (tgt := 4) hx hb d_Mo_paletteSize_27 (by decide) ?_
        exact ih_4 (v4_2 + 1) (v4_1 + x19) (Nat.lt_of_lt_of_le (tm_up c_9) (Nat.le_of_lt_succ hlt_4)) E O _ _ hP hD hS ls (lv_sub hl [0, 1, 2] rfl)
  exact L_4 _ 0 0 (Nat.lt_succ_self _) E O _ _ hP hD hS ls (lv_sub hl [0, 1, 2] rfl)
theorem d_Mo_isResolved_0 : decode b_Mo_isResolved 0 = .ok (.aload_n 0, 1) := by decide +kernel
theorem d_Mo_isResolved_1 : decode b_Mo_isResolved 1 = .ok (.getfield 33, 3) := by decide +kernel
theorem d_Mo_isResolved_4 : decode b_Mo_isResolved 4 = .ok (.iload_n 1, 1) := by decide +kernel
theorem d_Mo_isResolved_5 : decode b_Mo_isResolved 5 = .ok (.iaload, 1) := by decide +kernel
theorem d_Mo_isResolved_6 : decode b_Mo_isResolved 6 = .ok (.ifCond .le 7, 3) := by decide +kernel
theorem d_Mo_isResolved_9 : decode b_Mo_isResolved 9 = .ok (.iconst 1, 1) := by decide +kernel
theorem d_Mo_isResolved_10 : decode b_Mo_isResolved 10 = .ok (.goto 4, 3) := by decide +kernel
theorem d_Mo_isResolved_13 : decode b_Mo_isResolved 13 = .ok (.iconst 0, 1) := by decide +kernel
theorem d_Mo_isResolved_14 : decode b_Mo_isResolved 14 = .ok (.ireturn, 1) := by decide +kernel
def om_Mo_isResolved (f_t_resolutions : Nat → Int32) (p1 : Int32) : Prop :=
  vp_in p1 12 ∧ (if (f_t_resolutions p1.toNatClampNeg) ≤ 0 then True else True)
def m_Mo_isResolved (f_t_resolutions : Nat → Int32) (p1 : Int32) : Int32 :=
  if (f_t_resolutions p1.toNatClampNeg) ≤ 0 then 0 else 1
set_option maxHeartbeats 4000000 in
set_option maxRecDepth 100000 in
theorem c_Mo_isResolved (l : Launch) (D : va_G) (cB cI cJ : ClassId) (h_t h_t_bits h_t_profile h_t_columnBits h_t_numbers h_t_map h_t_line h_t_resolutions h_t_file : Nat) (t_thrown : Int32) (t_high : Int32) (t_wide : Int32) (t_components : Int32) (t_unknown : Int32) (t_rights : Int32) (t_colours : Int32) (t_profiled : Int32) (t_entries : Int32) (t_columns : Int32) (t_maps : Int32) (t_lines : Int32) (t_size : Int32) (t_scanned : Int32) (t_refusedAt : Int32) (t_cursor : Int32) (t_streamAt : Int32) (t_streamMany : Int32) (t_name : Int32) (t_from : Int32) (t_end : Int32) (t_sizeAt : Int32) (t_bitsAt : Int32) (t_colourAt : Int32) (t_colourEnd : Int32) (t_paletteAt : Int32) (t_mapAt : Int32) (t_mapEnd : Int32) (t_channelsAt : Int32) (t_captureAt : Int32) (t_displayAt : Int32) (t_resolved : Int32) (f_t_resolutions : Nat → Int32) (p1 : Int32) (hO : om_Mo_isResolved f_t_resolutions p1) (sz : Nat) : Ct l D cB cI cJ y_Mo_isResolved b_Mo_isResolved 2 (some .boolean) 0 0 0 0 [.ref h_t, .int p1] [(h_t, .inr (7, (.int t_thrown :: .int t_high :: .int t_wide :: .int t_components :: .ref h_t_bits :: .int t_unknown :: .int t_rights :: .int t_colours :: .int t_profiled :: .ref h_t_profile :: .int t_entries :: .int t_columns :: .ref h_t_columnBits :: .ref h_t_numbers :: .int t_maps :: .ref h_t_map :: .int t_lines :: .ref h_t_line :: .ref h_t_resolutions :: .ref h_t_file :: .int t_size :: .int t_scanned :: .int t_refusedAt :: .int t_cursor :: .int t_streamAt :: .int t_streamMany :: .int t_name :: .int t_from :: .int t_end :: .int t_sizeAt :: .int t_bitsAt :: .int t_colourAt :: .int t_colourEnd :: .int t_paletteAt :: .int t_mapAt :: .int t_mapEnd :: .int t_channelsAt :: .int t_captureAt :: .int t_displayAt :: .int t_resolved :: []))), (h_t_resolutions, .inl (cI, 12, .inl f_t_resolutions))] (fun v w1 => ∃ (x : Int32), x = m_Mo_isResolved f_t_resolutions p1 ∧ v = some (.int x) ∧ w1 = [(h_t, .inr (7, (.int t_thrown :: .int t_high :: .int t_wide :: .int t_components :: .ref h_t_bits :: .int t_unknown :: .int t_rights :: .int t_colours :: .int t_profiled :: .ref h_t_profile :: .int t_entries :: .int t_columns :: .ref h_t_columnBits :: .ref h_t_numbers :: .int t_maps :: .ref h_t_map :: .int t_lines :: .ref h_t_line :: .ref h_t_resolutions :: .ref h_t_file :: .int t_size :: .int t_scanned :: .int t_refusedAt :: .int t_cursor :: .int t_streamAt :: .int t_streamMany :: .int t_name :: .int t_from :: .int t_end :: .int t_sizeAt :: .int t_bitsAt :: .int t_colourAt :: .int t_colourEnd :: .int t_paletteAt :: .int t_mapAt :: .int t_mapEnd :: .int t_channelsAt :: .int t_captureAt :: .int t_displayAt :: .int t_resolved :: []))), (h_t_resolutions, .inl (cI, 12, .inl f_t_resolutions))]) sz := by
  refine Ct.of (by decide) (Nat.le_of_ble_eq_true rfl) ?_
  intro p e R s m args below meth c A ls Q hx hb hr hlk hml hta hown hin hK hN hA hRf hRl hRc hRs hP hD hS hl hQ
  have hl : lv_has ls 2 [(0, .ref h_t), (1, .int p1)] := hl
  obtain ⟨RES, E0⟩ : ∃ R, m_Mo_isResolved f_t_resolutions p1 = R := ⟨_, rfl⟩
  have E := E0
  have O := hO
  refine lv_aload_n hx hb d_Mo_isResolved_0 rfl (lv_at hl 0 rfl) ?_
  refine va_get (D := D) (v := .ref h_t_resolutions) hx hb hta i_Mo hown hK hP 0 rfl rfl 18 (by decide) (hta _ lk_Mo_33) (fun _ h9 => h9) rfl d_Mo_isResolved_1 ?_
  refine lv_iload_n hx hb d_Mo_isResolved_4 rfl (lv_at hl 1 rfl) ?_
  refine va_iald hx hb hK hP 1 1 rfl rfl O.1 d_Mo_isResolved_5 ?_
  have O := O.2
  refine lv_if_le (tgt := 13) hx hb d_Mo_isResolved_6 (by decide) (fun c_6 => ?_) (fun c_6 => ?_)
  · have E := (if_pos c_6).symm.trans E
    have O := Eq.mp (if_pos c_6) O
    refine lv_iconst (v := 0) hx hb d_Mo_isResolved_13 (by decide) ?_
    exact kr_z hx hb hr hlk hQ hK hP hD hS ⟨(0 : Int32), E.trans E0.symm, rfl, rfl⟩ (by omega) (by omega) rfl d_Mo_isResolved_14
  · have E := (if_neg c_6).symm.trans E
    have O := Eq.mp (if_neg c_6) O
    refine lv_iconst (v := 1) hx hb d_Mo_isResolved_9 (by decide) ?_
    refine lv_goto (tgt := 14) hx hb d_Mo_isResolved_10 (by decide) ?_
    exact kr_z hx hb hr hlk hQ hK hP hD hS ⟨(1 : Int32), E.trans E0.symm, rfl, rfl⟩ (by omega) (by omega) rfl d_Mo_isResolved_14
theorem d_Mo_addResolution_0 : decode b_Mo_addResolution 0 = .ok (.aload_n 0, 1) := by decide +kernel
theorem d_Mo_addResolution_1 : decode b_Mo_addResolution 1 = .ok (.iload_n 2, 1) := by decide +kernel
theorem d_Mo_addResolution_2 : decode b_Mo_addResolution 2 = .ok (.invokevirtual 160, 3) := by decide +kernel
theorem d_Mo_addResolution_5 : decode b_Mo_addResolution 5 = .ok (.ifCond .ne 4, 3) := by decide +kernel
theorem d_Mo_addResolution_8 : decode b_Mo_addResolution 8 = .ok (.return_, 1) := by decide +kernel
theorem d_Mo_addResolution_9 : decode b_Mo_addResolution 9 = .ok (.aload_n 0, 1) := by decide +kernel
theorem d_Mo_addResolution_10 : decode b_Mo_addResolution 10 = .ok (.iload_n 1, 1) := by decide +kernel
theorem d_Mo_addResolution_11 : decode b_Mo_addResolution 11 = .ok (.bipush 10, 2) := by decide +kernel
theorem d_Mo_addResolution_13 : decode b_Mo_addResolution 13 = .ok (.invokevirtual 163, 3) := by decide +kernel
theorem d_Mo_addResolution_16 : decode b_Mo_addResolution 16 = .ok (.iconst 0, 1) := by decide +kernel
theorem d_Mo_addResolution_17 : decode b_Mo_addResolution 17 = .ok (.istore_n 3, 1) := by decide +kernel
theorem d_Mo_addResolution_18 : decode b_Mo_addResolution 18 = .ok (.iload_n 3, 1) := by decide +kernel
theorem d_Mo_addResolution_19 : decode b_Mo_addResolution 19 = .ok (.iconst 4, 1) := by decide +kernel
theorem d_Mo_addResolution_20 : decode b_Mo_addResolution 20 = .ok (.if_icmp .ge 23, 3) := by decide +kernel
theorem d_Mo_addResolution_23 : decode b_Mo_addResolution 23 = .ok (.aload_n 0, 1) := by decide +kernel
theorem d_Mo_addResolution_24 : decode b_Mo_addResolution 24 = .ok (.aload_n 0, 1) := by decide +kernel
theorem d_Mo_addResolution_25 : decode b_Mo_addResolution 25 = .ok (.getfield 33, 3) := by decide +kernel
theorem d_Mo_addResolution_28 : decode b_Mo_addResolution 28 = .ok (.iload_n 2, 1) := by decide +kernel
theorem d_Mo_addResolution_29 : decode b_Mo_addResolution 29 = .ok (.iload_n 3, 1) := by decide +kernel
theorem d_Mo_addResolution_30 : decode b_Mo_addResolution 30 = .ok (.iadd, 1) := by decide +kernel
theorem d_Mo_addResolution_31 : decode b_Mo_addResolution 31 = .ok (.iaload, 1) := by decide +kernel
theorem d_Mo_addResolution_32 : decode b_Mo_addResolution 32 = .ok (.i2l, 1) := by decide +kernel
theorem d_Mo_addResolution_33 : decode b_Mo_addResolution 33 = .ok (.iconst 2, 1) := by decide +kernel
theorem d_Mo_addResolution_34 : decode b_Mo_addResolution 34 = .ok (.invokevirtual 153, 3) := by decide +kernel
theorem d_Mo_addResolution_37 : decode b_Mo_addResolution 37 = .ok (.iinc 3 1, 3) := by decide +kernel
theorem d_Mo_addResolution_40 : decode b_Mo_addResolution 40 = .ok (.goto (-22), 3) := by decide +kernel
theorem d_Mo_addResolution_43 : decode b_Mo_addResolution 43 = .ok (.aload_n 0, 1) := by decide +kernel
theorem d_Mo_addResolution_44 : decode b_Mo_addResolution 44 = .ok (.aload_n 0, 1) := by decide +kernel
theorem d_Mo_addResolution_45 : decode b_Mo_addResolution 45 = .ok (.getfield 33, 3) := by decide +kernel
theorem d_Mo_addResolution_48 : decode b_Mo_addResolution 48 = .ok (.iload_n 2, 1) := by decide +kernel
theorem d_Mo_addResolution_49 : decode b_Mo_addResolution 49 = .ok (.iconst 4, 1) := by decide +kernel
theorem d_Mo_addResolution_50 : decode b_Mo_addResolution 50 = .ok (.iadd, 1) := by decide +kernel
theorem d_Mo_addResolution_51 : decode b_Mo_addResolution 51 = .ok (.iaload, 1) := by decide +kernel
theorem d_Mo_addResolution_52 : decode b_Mo_addResolution 52 = .ok (.i2l, 1) := by decide +kernel
theorem d_Mo_addResolution_53 : decode b_Mo_addResolution 53 = .ok (.iconst 1, 1) := by decide +kernel
theorem d_Mo_addResolution_54 : decode b_Mo_addResolution 54 = .ok (.invokevirtual 153, 3) := by decide +kernel
theorem d_Mo_addResolution_57 : decode b_Mo_addResolution 57 = .ok (.aload_n 0, 1) := by decide +kernel
theorem d_Mo_addResolution_58 : decode b_Mo_addResolution 58 = .ok (.aload_n 0, 1) := by decide +kernel
theorem d_Mo_addResolution_59 : decode b_Mo_addResolution 59 = .ok (.getfield 33, 3) := by decide +kernel
theorem d_Mo_addResolution_62 : decode b_Mo_addResolution 62 = .ok (.iload_n 2, 1) := by decide +kernel
theorem d_Mo_addResolution_63 : decode b_Mo_addResolution 63 = .ok (.iconst 5, 1) := by decide +kernel
theorem d_Mo_addResolution_64 : decode b_Mo_addResolution 64 = .ok (.iadd, 1) := by decide +kernel
theorem d_Mo_addResolution_65 : decode b_Mo_addResolution 65 = .ok (.iaload, 1) := by decide +kernel
theorem d_Mo_addResolution_66 : decode b_Mo_addResolution 66 = .ok (.i2l, 1) := by decide +kernel
theorem d_Mo_addResolution_67 : decode b_Mo_addResolution 67 = .ok (.iconst 1, 1) := by decide +kernel
theorem d_Mo_addResolution_68 : decode b_Mo_addResolution 68 = .ok (.invokevirtual 153, 3) := by decide +kernel
theorem d_Mo_addResolution_71 : decode b_Mo_addResolution 71 = .ok (.return_, 1) := by decide +kernel
def k_Mo_addResolution_68 (x68 : Int32 × (Nat → Int32)) : Int32 × (Nat → Int32) :=
  (x68.1, x68.2)
def ok_Mo_addResolution_68 (x68 : Int32 × (Nat → Int32)) : Prop :=
  True
def k_Mo_addResolution_54 (f_t_resolutions : Nat → Int32) (p2 : Int32) (x54 : Int32 × (Nat → Int32)) : Int32 × (Nat → Int32) :=
  k_Mo_addResolution_68 (m_Mo_add x54.1 x54.2 ((f_t_resolutions (p2 + 5).toNatClampNeg : Int32).toInt64) 1)
def ok_Mo_addResolution_54 (f_t_resolutions : Nat → Int32) (p2 : Int32) (x54 : Int32 × (Nat → Int32)) : Prop :=
  vp_in (p2 + 5) 12 ∧ om_Mo_add x54.1 x54.2 ((f_t_resolutions (p2 + 5).toNatClampNeg : Int32).toInt64) 1 ∧ (ok_Mo_addResolution_68 (m_Mo_add x54.1 x54.2 ((f_t_resolutions (p2 + 5).toNatClampNeg : Int32).toInt64) 1))
def k_Mo_addResolution_34 (kk_18 : Int32 → Int32 → (Nat → Int32) → Int32 × (Nat → Int32)) (v18_3 : Int32) (x34 : Int32 × (Nat → Int32)) : Int32 × (Nat → Int32) :=
  kk_18 (v18_3 + 1) x34.1 x34.2
def ok_Mo_addResolution_34 (okk_18 : Int32 → Int32 → (Nat → Int32) → Prop) (v18_3 : Int32) (x34 : Int32 × (Nat → Int32)) : Prop :=
  okk_18 (v18_3 + 1) x34.1 x34.2
def lb_Mo_addResolution_18 (f_t_resolutions : Nat → Int32) (p2 : Int32) (kk_18 : Int32 → Int32 → (Nat → Int32) → Int32 × (Nat → Int32)) (v18_3 : Int32) (v18_t_cursor : Int32) (v18_t_file : Nat → Int32) : Int32 × (Nat → Int32) :=
  if 4 ≤ v18_3 then (k_Mo_addResolution_54 f_t_resolutions p2 (m_Mo_add v18_t_cursor v18_t_file ((f_t_resolutions (p2 + 4).toNatClampNeg : Int32).toInt64) 1)) else (k_Mo_addResolution_34 kk_18 v18_3 (m_Mo_add v18_t_cursor v18_t_file ((f_t_resolutions (p2 + v18_3).toNatClampNeg : Int32).toInt64) 2))
def lp_Mo_addResolution_18 (f_t_resolutions : Nat → Int32) (p2 : Int32) : Nat → Int32 → Int32 → (Nat → Int32) → Int32 × (Nat → Int32)
  | 0, v18_3, v18_t_cursor, v18_t_file => (v18_t_cursor, v18_t_file)
  | n + 1, v18_3, v18_t_cursor, v18_t_file => lb_Mo_addResolution_18 f_t_resolutions p2 (lp_Mo_addResolution_18 f_t_resolutions p2 n) v18_3 v18_t_cursor v18_t_file
def olb_Mo_addResolution_18 (f_t_resolutions : Nat → Int32) (p2 : Int32) (okk_18 : Int32 → Int32 → (Nat → Int32) → Prop) (v18_3 : Int32) (v18_t_cursor : Int32) (v18_t_file : Nat → Int32) : Prop :=
  if 4 ≤ v18_3 then (vp_in (p2 + 4) 12 ∧ om_Mo_add v18_t_cursor v18_t_file ((f_t_resolutions (p2 + 4).toNatClampNeg : Int32).toInt64) 1 ∧ (ok_Mo_addResolution_54 f_t_resolutions p2 (m_Mo_add v18_t_cursor v18_t_file ((f_t_resolutions (p2 + 4).toNatClampNeg : Int32).toInt64) 1))) else (vp_in (p2 + v18_3) 12 ∧ om_Mo_add v18_t_cursor v18_t_file ((f_t_resolutions (p2 + v18_3).toNatClampNeg : Int32).toInt64) 2 ∧ (ok_Mo_addResolution_34 okk_18 v18_3 (m_Mo_add v18_t_cursor v18_t_file ((f_t_resolutions (p2 + v18_3).toNatClampNeg : Int32).toInt64) 2)))
def olp_Mo_addResolution_18 (f_t_resolutions : Nat → Int32) (p2 : Int32) : Nat → Int32 → Int32 → (Nat → Int32) → Prop
  | 0, _, _, _ => True
  | n + 1, v18_3, v18_t_cursor, v18_t_file => olb_Mo_addResolution_18 f_t_resolutions p2 (olp_Mo_addResolution_18 f_t_resolutions p2 n) v18_3 v18_t_cursor v18_t_file
def k_Mo_addResolution_13 (f_t_resolutions : Nat → Int32) (p2 : Int32) (x13 : Int32 × (Nat → Int32)) : Int32 × (Nat → Int32) :=
  lp_Mo_addResolution_18 f_t_resolutions p2 (((4 : Int32).toInt - (0 : Int32).toInt).toNat + 1) 0 x13.1 x13.2
def ok_Mo_addResolution_13 (f_t_resolutions : Nat → Int32) (p2 : Int32) (x13 : Int32 × (Nat → Int32)) : Prop :=
  olp_Mo_addResolution_18 f_t_resolutions p2 (((4 : Int32).toInt - (0 : Int32).toInt).toNat + 1) 0 x13.1 x13.2
def k_Mo_addResolution_2 (t_cursor : Int32) (f_t_resolutions : Nat → Int32) (f_t_file : Nat → Int32) (p1 : Int32) (p2 : Int32) (x2 : Int32) : Int32 × (Nat → Int32) :=
  if x2 = 0 then (t_cursor, f_t_file) else (k_Mo_addResolution_13 f_t_resolutions p2 (m_Mo_box t_cursor f_t_file p1 10))
def ok_Mo_addResolution_2 (t_cursor : Int32) (f_t_resolutions : Nat → Int32) (f_t_file : Nat → Int32) (p1 : Int32) (p2 : Int32) (x2 : Int32) : Prop :=
  if x2 = 0 then True else (om_Mo_box t_cursor f_t_file p1 10 ∧ (ok_Mo_addResolution_13 f_t_resolutions p2 (m_Mo_box t_cursor f_t_file p1 10)))
def om_Mo_addResolution (t_cursor : Int32) (f_t_resolutions : Nat → Int32) (f_t_file : Nat → Int32) (p1 : Int32) (p2 : Int32) : Prop :=
  om_Mo_isResolved f_t_resolutions p2 ∧ (ok_Mo_addResolution_2 t_cursor f_t_resolutions f_t_file p1 p2 (m_Mo_isResolved f_t_resolutions p2))
def m_Mo_addResolution (t_cursor : Int32) (f_t_resolutions : Nat → Int32) (f_t_file : Nat → Int32) (p1 : Int32) (p2 : Int32) : Int32 × (Nat → Int32) :=
  k_Mo_addResolution_2 t_cursor f_t_resolutions f_t_file p1 p2 (m_Mo_isResolved f_t_resolutions p2)
set_option maxHeartbeats 4000000 in
set_option maxRecDepth 100000 in
theorem c_Mo_addResolution (l : Launch) (D : va_G) (cB cI cJ : ClassId) (h_t h_t_bits h_t_profile h_t_columnBits h_t_numbers h_t_map h_t_line h_t_resolutions h_t_file : Nat) (t_thrown : Int32) (t_high : Int32) (t_wide : Int32) (t_components : Int32) (t_unknown : Int32) (t_rights : Int32) (t_colours : Int32) (t_profiled : Int32) (t_entries : Int32) (t_columns : Int32) (t_maps : Int32) (t_lines : Int32) (t_size : Int32) (t_scanned : Int32) (t_refusedAt : Int32) (t_cursor : Int32) (t_streamAt : Int32) (t_streamMany : Int32) (t_name : Int32) (t_from : Int32) (t_end : Int32) (t_sizeAt : Int32) (t_bitsAt : Int32) (t_colourAt : Int32) (t_colourEnd : Int32) (t_paletteAt : Int32) (t_mapAt : Int32) (t_mapEnd : Int32) (t_channelsAt : Int32) (t_captureAt : Int32) (t_displayAt : Int32) (t_resolved : Int32) (f_t_resolutions : Nat → Int32) (f_t_file : Nat → Int32) (p1 : Int32) (p2 : Int32) (hO : om_Mo_addResolution t_cursor f_t_resolutions f_t_file p1 p2) (sz : Nat) : Ct l D cB cI cJ y_Mo_addResolution b_Mo_addResolution 4 none 2 46 0 0 [.ref h_t, .int p1, .int p2] [(h_t, .inr (7, (.int t_thrown :: .int t_high :: .int t_wide :: .int t_components :: .ref h_t_bits :: .int t_unknown :: .int t_rights :: .int t_colours :: .int t_profiled :: .ref h_t_profile :: .int t_entries :: .int t_columns :: .ref h_t_columnBits :: .ref h_t_numbers :: .int t_maps :: .ref h_t_map :: .int t_lines :: .ref h_t_line :: .ref h_t_resolutions :: .ref h_t_file :: .int t_size :: .int t_scanned :: .int t_refusedAt :: .int t_cursor :: .int t_streamAt :: .int t_streamMany :: .int t_name :: .int t_from :: .int t_end :: .int t_sizeAt :: .int t_bitsAt :: .int t_colourAt :: .int t_colourEnd :: .int t_paletteAt :: .int t_mapAt :: .int t_mapEnd :: .int t_channelsAt :: .int t_captureAt :: .int t_displayAt :: .int t_resolved :: []))), (h_t_resolutions, .inl (cI, 12, .inl f_t_resolutions)), (h_t_file, .inl (cI, 65536, .inl f_t_file))] (fun v w1 => ∃ (x : Int32 × (Nat → Int32)), x = m_Mo_addResolution t_cursor f_t_resolutions f_t_file p1 p2 ∧ v = none ∧ w1 = [(h_t, .inr (7, (.int t_thrown :: .int t_high :: .int t_wide :: .int t_components :: .ref h_t_bits :: .int t_unknown :: .int t_rights :: .int t_colours :: .int t_profiled :: .ref h_t_profile :: .int t_entries :: .int t_columns :: .ref h_t_columnBits :: .ref h_t_numbers :: .int t_maps :: .ref h_t_map :: .int t_lines :: .ref h_t_line :: .ref h_t_resolutions :: .ref h_t_file :: .int t_size :: .int t_scanned :: .int t_refusedAt :: .int x.1 :: .int t_streamAt :: .int t_streamMany :: .int t_name :: .int t_from :: .int t_end :: .int t_sizeAt :: .int t_bitsAt :: .int t_colourAt :: .int t_colourEnd :: .int t_paletteAt :: .int t_mapAt :: .int t_mapEnd :: .int t_channelsAt :: .int t_captureAt :: .int t_displayAt :: .int t_resolved :: []))), (h_t_resolutions, .inl (cI, 12, .inl f_t_resolutions)), (h_t_file, .inl (cI, 65536, .inl x.2))]) sz := by
  refine Ct.of (by decide) (Nat.le_of_ble_eq_true rfl) ?_
  intro p e R s m args below meth c A ls Q hx hb hr hlk hml hta hown hin hK hN hA hRf hRl hRc hRs hP hD hS hl hQ
  have hl : lv_has ls 4 [(0, .ref h_t), (1, .int p1), (2, .int p2)] := hl
  obtain ⟨RES, E0⟩ : ∃ R, m_Mo_addResolution t_cursor f_t_resolutions f_t_file p1 p2 = R := ⟨_, rfl⟩
  have E := E0
  have O := hO
  refine lv_aload_n hx hb d_Mo_addResolution_0 rfl (lv_at hl 0 rfl) ?_
  refine lv_iload_n hx hb d_Mo_addResolution_1 rfl (lv_at hl 2 rfl) ?_
  refine kc_V (As := [.int p2]) (rest := []) (wr := [(h_t_file, .inl (cI, 65536, .inl f_t_file))]) [0, 1] [2] ⟨hx, hb, hml, hown, hta⟩ hK hN hP hD hS hA (c_Mo_isResolved l D cB cI cJ h_t h_t_bits h_t_profile h_t_columnBits h_t_numbers h_t_map h_t_line h_t_resolutions h_t_file t_thrown t_high t_wide t_components t_unknown t_rights t_colours t_profiled t_entries t_columns t_maps t_lines t_size t_scanned t_refusedAt t_cursor t_streamAt t_streamMany t_name t_from t_end t_sizeAt t_bitsAt t_colourAt t_colourEnd t_paletteAt t_mapAt t_mapEnd t_channelsAt t_captureAt t_displayAt t_resolved f_t_resolutions p2 O.1 _) (hta _ lk_Mo_160) (hta _ ini_Mo) (hta _ code_Mo_isResolved) code_Mo_isResolved (hta _ inst_Mo_isResolved) (hta _ sel_Mo_isResolved) hd_Mo_isResolved rfl ⟨by omega, by omega⟩ (ci := 7) 0 rfl rfl rfl rfl (by decide) (by decide) (by decide) rfl hl.1 (lv_room (Nat.le_of_ble_eq_true rfl)) d_Mo_addResolution_2 ⟨by omega, by omega⟩ (fun v w1 H locs hw hP hD hS => ?_)
  obtain ⟨x2, hx2, rfl, rfl⟩ := hw
  have hP : va_P D classes [(h_t, .inr (7, (.int t_thrown :: .int t_high :: .int t_wide :: .int t_components :: .ref h_t_bits :: .int t_unknown :: .int t_rights :: .int t_colours :: .int t_profiled :: .ref h_t_profile :: .int t_entries :: .int t_columns :: .ref h_t_columnBits :: .ref h_t_numbers :: .int t_maps :: .ref h_t_map :: .int t_lines :: .ref h_t_line :: .ref h_t_resolutions :: .ref h_t_file :: .int t_size :: .int t_scanned :: .int t_refusedAt :: .int t_cursor :: .int t_streamAt :: .int t_streamMany :: .int t_name :: .int t_from :: .int t_end :: .int t_sizeAt :: .int t_bitsAt :: .int t_colourAt :: .int t_colourEnd :: .int t_paletteAt :: .int t_mapAt :: .int t_mapEnd :: .int t_channelsAt :: .int t_captureAt :: .int t_displayAt :: .int t_resolved :: []))), (h_t_resolutions, .inl (cI, 12, .inl f_t_resolutions)), (h_t_file, .inl (cI, 65536, .inl f_t_file))] H := hP.sub [1, 2, 0] rfl
  have hD : va_D A [(h_t, .inr (7, (.int t_thrown :: .int t_high :: .int t_wide :: .int t_components :: .ref h_t_bits :: .int t_unknown :: .int t_rights :: .int t_colours :: .int t_profiled :: .ref h_t_profile :: .int t_entries :: .int t_columns :: .ref h_t_columnBits :: .ref h_t_numbers :: .int t_maps :: .ref h_t_map :: .int t_lines :: .ref h_t_line :: .ref h_t_resolutions :: .ref h_t_file :: .int t_size :: .int t_scanned :: .int t_refusedAt :: .int t_cursor :: .int t_streamAt :: .int t_streamMany :: .int t_name :: .int t_from :: .int t_end :: .int t_sizeAt :: .int t_bitsAt :: .int t_colourAt :: .int t_colourEnd :: .int t_paletteAt :: .int t_mapAt :: .int t_mapEnd :: .int t_channelsAt :: .int t_captureAt :: .int t_displayAt :: .int t_resolved :: []))), (h_t_resolutions, .inl (cI, 12, .inl f_t_resolutions)), (h_t_file, .inl (cI, 65536, .inl f_t_file))] := hD.sub [1, 2, 0] (by decide) rfl
  refine W.eq (g2 := F0 m 5 ls [.int x2]) rfl ?_
  have O := O.2
  have E : k_Mo_addResolution_2 t_cursor f_t_resolutions f_t_file p1 p2 x2 = RES := (congrArg (k_Mo_addResolution_2 t_cursor f_t_resolutions f_t_file p1 p2) hx2).trans E
  have O : ok_Mo_addResolution_2 t_cursor f_t_resolutions f_t_file p1 p2 x2 := by rw [hx2]; exact O
  refine lv_if_ne (tgt := 9) hx hb d_Mo_addResolution_5 (by decide) (fun c_5 => ?_) (fun c_5 => ?_)
  · have E := (if_neg c_5).symm.trans E
    have O := Eq.mp (if_neg c_5) O
    refine lv_aload_n hx hb d_Mo_addResolution_9 rfl (lv_at hl 0 rfl) ?_
    refine lv_iload_n hx hb d_Mo_addResolution_10 rfl (lv_at hl 1 rfl) ?_
    refine lv_bipush (v := 10) hx hb d_Mo_addResolution_11 (by decide) ?_
    refine kc_V (As := [.int p1, .int 10]) (rest := []) (wr := [(h_t_resolutions, .inl (cI, 12, .inl f_t_resolutions))]) [0, 2] [1] ⟨hx, hb, hml, hown, hta⟩ hK hN hP hD hS hA (c_Mo_box l D cB cI cJ h_t h_t_bits h_t_profile h_t_columnBits h_t_numbers h_t_map h_t_line h_t_resolutions h_t_file t_thrown t_high t_wide t_components t_unknown t_rights t_colours t_profiled t_entries t_columns t_maps t_lines t_size t_scanned t_refusedAt t_cursor t_streamAt t_streamMany t_name t_from t_end t_sizeAt t_bitsAt t_colourAt t_colourEnd t_paletteAt t_mapAt t_mapEnd t_channelsAt t_captureAt t_displayAt t_resolved f_t_file p1 10 O.1 _) (hta _ lk_Mo_163) (hta _ ini_Mo) (hta _ code_Mo_box) code_Mo_box (hta _ inst_Mo_box) (hta _ sel_Mo_box) hd_Mo_box rfl ⟨by omega, by omega⟩ (ci := 7) 0 rfl rfl rfl rfl (by decide) (by decide) (by decide) rfl hl.1 (lv_room (Nat.le_of_ble_eq_true rfl)) d_Mo_addResolution_13 ⟨by omega, by omega⟩ (fun v w1 H locs hw hP hD hS => ?_)
    obtain ⟨x13, hx13, rfl, rfl⟩ := hw
    have hP : va_P D classes [(h_t, .inr (7, (.int t_thrown :: .int t_high :: .int t_wide :: .int t_components :: .ref h_t_bits :: .int t_unknown :: .int t_rights :: .int t_colours :: .int t_profiled :: .ref h_t_profile :: .int t_entries :: .int t_columns :: .ref h_t_columnBits :: .ref h_t_numbers :: .int t_maps :: .ref h_t_map :: .int t_lines :: .ref h_t_line :: .ref h_t_resolutions :: .ref h_t_file :: .int t_size :: .int t_scanned :: .int t_refusedAt :: .int x13.1 :: .int t_streamAt :: .int t_streamMany :: .int t_name :: .int t_from :: .int t_end :: .int t_sizeAt :: .int t_bitsAt :: .int t_colourAt :: .int t_colourEnd :: .int t_paletteAt :: .int t_mapAt :: .int t_mapEnd :: .int t_channelsAt :: .int t_captureAt :: .int t_displayAt :: .int t_resolved :: []))), (h_t_resolutions, .inl (cI, 12, .inl f_t_resolutions)), (h_t_file, .inl (cI, 65536, .inl x13.2))] H := hP.sub [1, 0, 2] rfl
    have hD : va_D A [(h_t, .inr (7, (.int t_thrown :: .int t_high :: .int t_wide :: .int t_components :: .ref h_t_bits :: .int t_unknown :: .int t_rights :: .int t_colours :: .int t_profiled :: .ref h_t_profile :: .int t_entries :: .int t_columns :: .ref h_t_columnBits :: .ref h_t_numbers :: .int t_maps :: .ref h_t_map :: .int t_lines :: .ref h_t_line :: .ref h_t_resolutions :: .ref h_t_file :: .int t_size :: .int t_scanned :: .int t_refusedAt :: .int x13.1 :: .int t_streamAt :: .int t_streamMany :: .int t_name :: .int t_from :: .int t_end :: .int t_sizeAt :: .int t_bitsAt :: .int t_colourAt :: .int t_colourEnd :: .int t_paletteAt :: .int t_mapAt :: .int t_mapEnd :: .int t_channelsAt :: .int t_captureAt :: .int t_displayAt :: .int t_resolved :: []))), (h_t_resolutions, .inl (cI, 12, .inl f_t_resolutions)), (h_t_file, .inl (cI, 65536, .inl x13.2))] := hD.sub [1, 0, 2] (by decide) rfl
    refine W.eq (g2 := F0 m 16 ls []) rfl ?_
    have O := O.2
    have E : k_Mo_addResolution_13 f_t_resolutions p2 x13 = RES := (congrArg (k_Mo_addResolution_13 f_t_resolutions p2) hx13).trans E
    have O : ok_Mo_addResolution_13 f_t_resolutions p2 x13 := by rw [hx13]; exact O
    refine lv_iconst (v := 0) hx hb d_Mo_addResolution_16 (by decide) ?_
    refine lv_istore_n (lv' := [(3, .int 0), (0, .ref h_t), (1, .int p1), (2, .int p2)]) hx hb d_Mo_addResolution_17 rfl hl (by decide) rfl (fun ls hl => ?_)
    have L_18 : ∀ (n : Nat) (v18_3 : Int32) (v18_t_cursor : Int32) (v18_t_file : Nat → Int32), ((4 : Int32).toInt - v18_3.toInt).toNat < n → lp_Mo_addResolution_18 f_t_resolutions p2 n v18_3 v18_t_cursor v18_t_file = RES → olp_Mo_addResolution_18 f_t_resolutions p2 n v18_3 v18_t_cursor v18_t_file → ∀ (H : Heap) (locs : List Loc), va_P D classes [(h_t, .inr (7, (.int t_thrown :: .int t_high :: .int t_wide :: .int t_components :: .ref h_t_bits :: .int t_unknown :: .int t_rights :: .int t_colours :: .int t_profiled :: .ref h_t_profile :: .int t_entries :: .int t_columns :: .ref h_t_columnBits :: .ref h_t_numbers :: .int t_maps :: .ref h_t_map :: .int t_lines :: .ref h_t_line :: .ref h_t_resolutions :: .ref h_t_file :: .int t_size :: .int t_scanned :: .int t_refusedAt :: .int v18_t_cursor :: .int t_streamAt :: .int t_streamMany :: .int t_name :: .int t_from :: .int t_end :: .int t_sizeAt :: .int t_bitsAt :: .int t_colourAt :: .int t_colourEnd :: .int t_paletteAt :: .int t_mapAt :: .int t_mapEnd :: .int t_channelsAt :: .int t_captureAt :: .int t_displayAt :: .int t_resolved :: []))), (h_t_resolutions, .inl (cI, 12, .inl f_t_resolutions)), (h_t_file, .inl (cI, 65536, .inl v18_t_file))] H → va_D A [(h_t, .inr (7, (.int t_thrown :: .int t_high :: .int t_wide :: .int t_components :: .ref h_t_bits :: .int t_unknown :: .int t_rights :: .int t_colours :: .int t_profiled :: .ref h_t_profile :: .int t_entries :: .int t_columns :: .ref h_t_columnBits :: .ref h_t_numbers :: .int t_maps :: .ref h_t_map :: .int t_lines :: .ref h_t_line :: .ref h_t_resolutions :: .ref h_t_file :: .int t_size :: .int t_scanned :: .int t_refusedAt :: .int v18_t_cursor :: .int t_streamAt :: .int t_streamMany :: .int t_name :: .int t_from :: .int t_end :: .int t_sizeAt :: .int t_bitsAt :: .int t_colourAt :: .int t_colourEnd :: .int t_paletteAt :: .int t_mapAt :: .int t_mapEnd :: .int t_channelsAt :: .int t_captureAt :: .int t_displayAt :: .int t_resolved :: []))), (h_t_resolutions, .inl (cI, 12, .inl f_t_resolutions)), (h_t_file, .inl (cI, 65536, .inl v18_t_file))] → va_S A s.heap H locs → ∀ ls : Array Slot, lv_has ls 4 [(3, .int v18_3), (0, .ref h_t), (2, .int p2)] → W p l e R s m args below meth c H locs 0 0 Q (F0 m 18 ls []) := by
      intro n
      induction n with
      | zero => intro v18_3 v18_t_cursor v18_t_file hlt; exact absurd hlt (Nat.not_lt_zero _)
      | succ n ih =>
        intro v18_3 v18_t_cursor v18_t_file hlt_18 E O H locs hP hD hS ls hl
        have E : lb_Mo_addResolution_18 f_t_resolutions p2 (lp_Mo_addResolution_18 f_t_resolutions p2 n) v18_3 v18_t_cursor v18_t_file = RES := E
        have O : olb_Mo_addResolution_18 f_t_resolutions p2 (olp_Mo_addResolution_18 f_t_resolutions p2 n) v18_3 v18_t_cursor v18_t_file := O
        generalize lp_Mo_addResolution_18 f_t_resolutions p2 n = kk_18 at ih E
        generalize olp_Mo_addResolution_18 f_t_resolutions p2 n = okk_18 at ih O
        have ih_18 := ih
        clear ih
        refine lv_iload_n hx hb d_Mo_addResolution_18 rfl (lv_at hl 0 rfl) ?_
        refine lv_iconst (v := 4) hx hb d_Mo_addResolution_19 (by decide) ?_
        refine lv_icmp_ge (tgt := 43) hx hb d_Mo_addResolution_20 (by decide) (fun c_20 => ?_) (fun c_20 => ?_)
        · have E := (if_pos c_20).symm.trans E
          have O := Eq.mp (if_pos c_20) O
          refine lv_aload_n hx hb d_Mo_addResolution_43 rfl (lv_at hl 1 rfl) ?_
          refine lv_aload_n hx hb d_Mo_addResolution_44 rfl (lv_at hl 1 rfl) ?_
          refine va_get (D := D) (v := .ref h_t_resolutions) hx hb hta i_Mo hown hK hP 0 rfl rfl 18 (by decide) (hta _ lk_Mo_33) (fun _ h9 => h9) rfl d_Mo_addResolution_45 ?_
          refine lv_iload_n hx hb d_Mo_addResolution_48 rfl (lv_at hl 2 rfl) ?_
          refine lv_iconst (v := 4) hx hb d_Mo_addResolution_49 (by decide) ?_
          refine lv_iadd hx hb d_Mo_addResolution_50 ?_
          refine va_iald hx hb hK hP 1 1 rfl rfl O.1 d_Mo_addResolution_51 ?_
          have O := O.2
          refine lv_i2l (v := (f_t_resolutions (p2 + 4).toNatClampNeg : Int32).toInt64) hx hb d_Mo_addResolution_52 rfl ?_
          refine lv_iconst (v := 1) hx hb d_Mo_addResolution_53 (by decide) ?_
          refine kc_V (As := [.long ((f_t_resolutions (p2 + 4).toNatClampNeg : Int32).toInt64), .int 1]) (rest := []) (wr := [(h_t_resolutions, .inl (cI, 12, .inl f_t_resolutions))]) [0, 2] [1] ⟨hx, hb, hml, hown, hta⟩ hK hN hP hD hS hA (c_Mo_add l D cB cI cJ h_t h_t_bits h_t_profile h_t_columnBits h_t_numbers h_t_map h_t_line h_t_resolutions h_t_file t_thrown t_high t_wide t_components t_unknown t_rights t_colours t_profiled t_entries t_columns t_maps t_lines t_size t_scanned t_refusedAt v18_t_cursor t_streamAt t_streamMany t_name t_from t_end t_sizeAt t_bitsAt t_colourAt t_colourEnd t_paletteAt t_mapAt t_mapEnd t_channelsAt t_captureAt t_displayAt t_resolved v18_t_file ((f_t_resolutions (p2 + 4).toNatClampNeg : Int32).toInt64) 1 O.1 _) (hta _ lk_Mo_153) (hta _ ini_Mo) (hta _ code_Mo_add) code_Mo_add (hta _ inst_Mo_add) (hta _ sel_Mo_add) hd_Mo_add rfl ⟨by omega, by omega⟩ (ci := 7) 0 rfl rfl rfl rfl (by decide) (by decide) (by decide) rfl hl.1 (lv_room (Nat.le_of_ble_eq_true rfl)) d_Mo_addResolution_54 ⟨by omega, by omega⟩ (fun v w1 H locs hw hP hD hS => ?_)
          obtain ⟨x54, hx54, rfl, rfl⟩ := hw
          have hP : va_P D classes [(h_t, .inr (7, (.int t_thrown :: .int t_high :: .int t_wide :: .int t_components :: .ref h_t_bits :: .int t_unknown :: .int t_rights :: .int t_colours :: .int t_profiled :: .ref h_t_profile :: .int t_entries :: .int t_columns :: .ref h_t_columnBits :: .ref h_t_numbers :: .int t_maps :: .ref h_t_map :: .int t_lines :: .ref h_t_line :: .ref h_t_resolutions :: .ref h_t_file :: .int t_size :: .int t_scanned :: .int t_refusedAt :: .int x54.1 :: .int t_streamAt :: .int t_streamMany :: .int t_name :: .int t_from :: .int t_end :: .int t_sizeAt :: .int t_bitsAt :: .int t_colourAt :: .int t_colourEnd :: .int t_paletteAt :: .int t_mapAt :: .int t_mapEnd :: .int t_channelsAt :: .int t_captureAt :: .int t_displayAt :: .int t_resolved :: []))), (h_t_resolutions, .inl (cI, 12, .inl f_t_resolutions)), (h_t_file, .inl (cI, 65536, .inl x54.2))] H := hP.sub [1, 0, 2] rfl
          have hD : va_D A [(h_t, .inr (7, (.int t_thrown :: .int t_high :: .int t_wide :: .int t_components :: .ref h_t_bits :: .int t_unknown :: .int t_rights :: .int t_colours :: .int t_profiled :: .ref h_t_profile :: .int t_entries :: .int t_columns :: .ref h_t_columnBits :: .ref h_t_numbers :: .int t_maps :: .ref h_t_map :: .int t_lines :: .ref h_t_line :: .ref h_t_resolutions :: .ref h_t_file :: .int t_size :: .int t_scanned :: .int t_refusedAt :: .int x54.1 :: .int t_streamAt :: .int t_streamMany :: .int t_name :: .int t_from :: .int t_end :: .int t_sizeAt :: .int t_bitsAt :: .int t_colourAt :: .int t_colourEnd :: .int t_paletteAt :: .int t_mapAt :: .int t_mapEnd :: .int t_channelsAt :: .int t_captureAt :: .int t_displayAt :: .int t_resolved :: []))), (h_t_resolutions, .inl (cI, 12, .inl f_t_resolutions)), (h_t_file, .inl (cI, 65536, .inl x54.2))] := hD.sub [1, 0, 2] (by decide) rfl
          refine W.eq (g2 := F0 m 57 ls []) rfl ?_
          have O := O.2
          have E : k_Mo_addResolution_54 f_t_resolutions p2 x54 = RES := (congrArg (k_Mo_addResolution_54 f_t_resolutions p2) hx54).trans E
          have O : ok_Mo_addResolution_54 f_t_resolutions p2 x54 := by rw [hx54]; exact O
          refine lv_aload_n hx hb d_Mo_addResolution_57 rfl (lv_at hl 1 rfl) ?_
          refine lv_aload_n hx hb d_Mo_addResolution_58 rfl (lv_at hl 1 rfl) ?_
          refine va_get (D := D) (v := .ref h_t_resolutions) hx hb hta i_Mo hown hK hP 0 rfl rfl 18 (by decide) (hta _ lk_Mo_33) (fun _ h9 => h9) rfl d_Mo_addResolution_59 ?_
          refine lv_iload_n hx hb d_Mo_addResolution_62 rfl (lv_at hl 2 rfl) ?_
          refine lv_iconst (v := 5) hx hb d_Mo_addResolution_63 (by decide) ?_
          refine lv_iadd hx hb d_Mo_addResolution_64 ?_
          refine va_iald hx hb hK hP 1 1 rfl rfl O.1 d_Mo_addResolution_65 ?_
          have O := O.2
          refine lv_i2l (v := (f_t_resolutions (p2 + 5).toNatClampNeg : Int32).toInt64) hx hb d_Mo_addResolution_66 rfl ?_
          refine lv_iconst (v := 1) hx hb d_Mo_addResolution_67 (by decide) ?_
          refine kc_V (As := [.long ((f_t_resolutions (p2 + 5).toNatClampNeg : Int32).toInt64), .int 1]) (rest := []) (wr := [(h_t_resolutions, .inl (cI, 12, .inl f_t_resolutions))]) [0, 2] [1] ⟨hx, hb, hml, hown, hta⟩ hK hN hP hD hS hA (c_Mo_add l D cB cI cJ h_t h_t_bits h_t_profile h_t_columnBits h_t_numbers h_t_map h_t_line h_t_resolutions h_t_file t_thrown t_high t_wide t_components t_unknown t_rights t_colours t_profiled t_entries t_columns t_maps t_lines t_size t_scanned t_refusedAt x54.1 t_streamAt t_streamMany t_name t_from t_end t_sizeAt t_bitsAt t_colourAt t_colourEnd t_paletteAt t_mapAt t_mapEnd t_channelsAt t_captureAt t_displayAt t_resolved x54.2 ((f_t_resolutions (p2 + 5).toNatClampNeg : Int32).toInt64) 1 O.1 _) (hta _ lk_Mo_153) (hta _ ini_Mo) (hta _ code_Mo_add) code_Mo_add (hta _ inst_Mo_add) (hta _ sel_Mo_add) hd_Mo_add rfl ⟨by omega, by omega⟩ (ci := 7) 0 rfl rfl rfl rfl (by decide) (by decide) (by decide) rfl hl.1 (lv_room (Nat.le_of_ble_eq_true rfl)) d_Mo_addResolution_68 ⟨by omega, by omega⟩ (fun v w1 H locs hw hP hD hS => ?_)
          obtain ⟨x68, hx68, rfl, rfl⟩ := hw
          have hP : va_P D classes [(h_t, .inr (7, (.int t_thrown :: .int t_high :: .int t_wide :: .int t_components :: .ref h_t_bits :: .int t_unknown :: .int t_rights :: .int t_colours :: .int t_profiled :: .ref h_t_profile :: .int t_entries :: .int t_columns :: .ref h_t_columnBits :: .ref h_t_numbers :: .int t_maps :: .ref h_t_map :: .int t_lines :: .ref h_t_line :: .ref h_t_resolutions :: .ref h_t_file :: .int t_size :: .int t_scanned :: .int t_refusedAt :: .int x68.1 :: .int t_streamAt :: .int t_streamMany :: .int t_name :: .int t_from :: .int t_end :: .int t_sizeAt :: .int t_bitsAt :: .int t_colourAt :: .int t_colourEnd :: .int t_paletteAt :: .int t_mapAt :: .int t_mapEnd :: .int t_channelsAt :: .int t_captureAt :: .int t_displayAt :: .int t_resolved :: []))), (h_t_resolutions, .inl (cI, 12, .inl f_t_resolutions)), (h_t_file, .inl (cI, 65536, .inl x68.2))] H := hP.sub [1, 0, 2] rfl
          have hD : va_D A [(h_t, .inr (7, (.int t_thrown :: .int t_high :: .int t_wide :: .int t_components :: .ref h_t_bits :: .int t_unknown :: .int t_rights :: .int t_colours :: .int t_profiled :: .ref h_t_profile :: .int t_entries :: .int t_columns :: .ref h_t_columnBits :: .ref h_t_numbers :: .int t_maps :: .ref h_t_map :: .int t_lines :: .ref h_t_line :: .ref h_t_resolutions :: .ref h_t_file :: .int t_size :: .int t_scanned :: .int t_refusedAt :: .int x68.1 :: .int t_streamAt :: .int t_streamMany :: .int t_name :: .int t_from :: .int t_end :: .int t_sizeAt :: .int t_bitsAt :: .int t_colourAt :: .int t_colourEnd :: .int t_paletteAt :: .int t_mapAt :: .int t_mapEnd :: .int t_channelsAt :: .int t_captureAt :: .int t_displayAt :: .int t_resolved :: []))), (h_t_resolutions, .inl (cI, 12, .inl f_t_resolutions)), (h_t_file, .inl (cI, 65536, .inl x68.2))] := hD.sub [1, 0, 2] (by decide) rfl
          refine W.eq (g2 := F0 m 71 ls []) rfl ?_
          have O := O.2
          have E : k_Mo_addResolution_68 x68 = RES := (congrArg (k_Mo_addResolution_68) hx68).trans E
          have O : ok_Mo_addResolution_68 x68 := by rw [hx68]; exact O
          exact kr_v hx hb hr hlk hQ hK hP hD hS ⟨((x68.1, x68.2) : Int32 × (Nat → Int32)), E.trans E0.symm, rfl, rfl⟩ (by omega) (by omega) d_Mo_addResolution_71
        · have E := (if_neg c_20).symm.trans E
          have O := Eq.mp (if_neg c_20) O
          refine lv_aload_n hx hb d_Mo_addResolution_23 rfl (lv_at hl 1 rfl) ?_
          refine lv_aload_n hx hb d_Mo_addResolution_24 rfl (lv_at hl 1 rfl) ?_
          refine va_get (D := D) (v := .ref h_t_resolutions) hx hb hta i_Mo hown hK hP 0 rfl rfl 18 (by decide) (hta _ lk_Mo_33) (fun _ h9 => h9) rfl d_Mo_addResolution_25 ?_
          refine lv_iload_n hx hb d_Mo_addResolution_28 rfl (lv_at hl 2 rfl) ?_
          refine lv_iload_n hx hb d_Mo_addResolution_29 rfl (lv_at hl 0 rfl) ?_
          refine lv_iadd hx hb d_Mo_addResolution_30 ?_
          refine va_iald hx hb hK hP 1 1 rfl rfl O.1 d_Mo_addResolution_31 ?_
          have O := O.2
          refine lv_i2l (v := (f_t_resolutions (p2 + v18_3).toNatClampNeg : Int32).toInt64) hx hb d_Mo_addResolution_32 rfl ?_
          refine lv_iconst (v := 2) hx hb d_Mo_addResolution_33 (by decide) ?_
          refine kc_V (As := [.long ((f_t_resolutions (p2 + v18_3).toNatClampNeg : Int32).toInt64), .int 2]) (rest := []) (wr := [(h_t_resolutions, .inl (cI, 12, .inl f_t_resolutions))]) [0, 2] [1] ⟨hx, hb, hml, hown, hta⟩ hK hN hP hD hS hA (c_Mo_add l D cB cI cJ h_t h_t_bits h_t_profile h_t_columnBits h_t_numbers h_t_map h_t_line h_t_resolutions h_t_file t_thrown t_high t_wide t_components t_unknown t_rights t_colours t_profiled t_entries t_columns t_maps t_lines t_size t_scanned t_refusedAt v18_t_cursor t_streamAt t_streamMany t_name t_from t_end t_sizeAt t_bitsAt t_colourAt t_colourEnd t_paletteAt t_mapAt t_mapEnd t_channelsAt t_captureAt t_displayAt t_resolved v18_t_file ((f_t_resolutions (p2 + v18_3).toNatClampNeg : Int32).toInt64) 2 O.1 _) (hta _ lk_Mo_153) (hta _ ini_Mo) (hta _ code_Mo_add) code_Mo_add (hta _ inst_Mo_add) (hta _ sel_Mo_add) hd_Mo_add rfl ⟨by omega, by omega⟩ (ci := 7) 0 rfl rfl rfl rfl (by decide) (by decide) (by decide) rfl hl.1 (lv_room (Nat.le_of_ble_eq_true rfl)) d_Mo_addResolution_34 ⟨by omega, by omega⟩ (fun v w1 H locs hw hP hD hS => ?_)
          obtain ⟨x34, hx34, rfl, rfl⟩ := hw
          have hP : va_P D classes [(h_t, .inr (7, (.int t_thrown :: .int t_high :: .int t_wide :: .int t_components :: .ref h_t_bits :: .int t_unknown :: .int t_rights :: .int t_colours :: .int t_profiled :: .ref h_t_profile :: .int t_entries :: .int t_columns :: .ref h_t_columnBits :: .ref h_t_numbers :: .int t_maps :: .ref h_t_map :: .int t_lines :: .ref h_t_line :: .ref h_t_resolutions :: .ref h_t_file :: .int t_size :: .int t_scanned :: .int t_refusedAt :: .int x34.1 :: .int t_streamAt :: .int t_streamMany :: .int t_name :: .int t_from :: .int t_end :: .int t_sizeAt :: .int t_bitsAt :: .int t_colourAt :: .int t_colourEnd :: .int t_paletteAt :: .int t_mapAt :: .int t_mapEnd :: .int t_channelsAt :: .int t_captureAt :: .int t_displayAt :: .int t_resolved :: []))), (h_t_resolutions, .inl (cI, 12, .inl f_t_resolutions)), (h_t_file, .inl (cI, 65536, .inl x34.2))] H := hP.sub [1, 0, 2] rfl
          have hD : va_D A [(h_t, .inr (7, (.int t_thrown :: .int t_high :: .int t_wide :: .int t_components :: .ref h_t_bits :: .int t_unknown :: .int t_rights :: .int t_colours :: .int t_profiled :: .ref h_t_profile :: .int t_entries :: .int t_columns :: .ref h_t_columnBits :: .ref h_t_numbers :: .int t_maps :: .ref h_t_map :: .int t_lines :: .ref h_t_line :: .ref h_t_resolutions :: .ref h_t_file :: .int t_size :: .int t_scanned :: .int t_refusedAt :: .int x34.1 :: .int t_streamAt :: .int t_streamMany :: .int t_name :: .int t_from :: .int t_end :: .int t_sizeAt :: .int t_bitsAt :: .int t_colourAt :: .int t_colourEnd :: .int t_paletteAt :: .int t_mapAt :: .int t_mapEnd :: .int t_channelsAt :: .int t_captureAt :: .int t_displayAt :: .int t_resolved :: []))), (h_t_resolutions, .inl (cI, 12, .inl f_t_resolutions)), (h_t_file, .inl (cI, 65536, .inl x34.2))] := hD.sub [1, 0, 2] (by decide) rfl
          refine W.eq (g2 := F0 m 37 ls []) rfl ?_
          have O := O.2
          have E : k_Mo_addResolution_34 kk_18 v18_3 x34 = RES := (congrArg (k_Mo_addResolution_34 kk_18 v18_3) hx34).trans E
          have O : ok_Mo_addResolution_34 okk_18 v18_3 x34 := by rw [hx34]; exact O
          refine lv_iinc (v := v18_3 + 1) (lv' := [(3, .int (v18_3 + 1)), (0, .ref h_t), (2, .int p2)]) hx hb d_Mo_addResolution_37 hl (k := 0) rfl rfl (by decide) rfl (fun ls hl => ?_)
          refine lv_goto (tgt := 18) hx hb d_Mo_addResolution_40 (by decide) ?_
          exact ih_18 (v18_3 + 1) x34.1 x34.2 (Nat.lt_of_lt_of_le (tm_up c_20) (Nat.le_of_lt_succ hlt_18)) E O _ _ hP hD hS ls (lv_sub hl [0, 1, 2] rfl)
    exact L_18 _ 0 x13.1 x13.2 (Nat.lt_succ_self _) E O _ _ hP hD hS ls (lv_sub hl [0, 1, 3] rfl)
  · have E := (if_pos c_5).symm.trans E
    have O := Eq.mp (if_pos c_5) O
    exact kr_v hx hb hr hlk hQ hK hP hD hS ⟨((t_cursor, f_t_file) : Int32 × (Nat → Int32)), E.trans E0.symm, rfl, rfl⟩ (by omega) (by omega) d_Mo_addResolution_8
theorem d_Mo_addPalette_0 : decode b_Mo_addPalette 0 = .ok (.aload_n 0, 1) := by decide +kernel
theorem d_Mo_addPalette_1 : decode b_Mo_addPalette 1 = .ok (.ldc 167, 2) := by decide +kernel
theorem d_Mo_addPalette_3 : decode b_Mo_addPalette 3 = .ok (.aload_n 0, 1) := by decide +kernel
theorem d_Mo_addPalette_4 : decode b_Mo_addPalette 4 = .ok (.invokevirtual 168, 3) := by decide +kernel
theorem d_Mo_addPalette_7 : decode b_Mo_addPalette 7 = .ok (.invokevirtual 163, 3) := by decide +kernel
theorem d_Mo_addPalette_10 : decode b_Mo_addPalette 10 = .ok (.aload_n 0, 1) := by decide +kernel
theorem d_Mo_addPalette_11 : decode b_Mo_addPalette 11 = .ok (.aload_n 0, 1) := by decide +kernel
theorem d_Mo_addPalette_12 : decode b_Mo_addPalette 12 = .ok (.getfield 67, 3) := by decide +kernel
theorem d_Mo_addPalette_15 : decode b_Mo_addPalette 15 = .ok (.i2l, 1) := by decide +kernel
theorem d_Mo_addPalette_16 : decode b_Mo_addPalette 16 = .ok (.iconst 2, 1) := by decide +kernel
theorem d_Mo_addPalette_17 : decode b_Mo_addPalette 17 = .ok (.invokevirtual 153, 3) := by decide +kernel
theorem d_Mo_addPalette_20 : decode b_Mo_addPalette 20 = .ok (.aload_n 0, 1) := by decide +kernel
theorem d_Mo_addPalette_21 : decode b_Mo_addPalette 21 = .ok (.aload_n 0, 1) := by decide +kernel
theorem d_Mo_addPalette_22 : decode b_Mo_addPalette 22 = .ok (.getfield 70, 3) := by decide +kernel
theorem d_Mo_addPalette_25 : decode b_Mo_addPalette 25 = .ok (.i2l, 1) := by decide +kernel
theorem d_Mo_addPalette_26 : decode b_Mo_addPalette 26 = .ok (.iconst 1, 1) := by decide +kernel
theorem d_Mo_addPalette_27 : decode b_Mo_addPalette 27 = .ok (.invokevirtual 153, 3) := by decide +kernel
theorem d_Mo_addPalette_30 : decode b_Mo_addPalette 30 = .ok (.iconst 0, 1) := by decide +kernel
theorem d_Mo_addPalette_31 : decode b_Mo_addPalette 31 = .ok (.istore_n 1, 1) := by decide +kernel
theorem d_Mo_addPalette_32 : decode b_Mo_addPalette 32 = .ok (.iload_n 1, 1) := by decide +kernel
theorem d_Mo_addPalette_33 : decode b_Mo_addPalette 33 = .ok (.aload_n 0, 1) := by decide +kernel
theorem d_Mo_addPalette_34 : decode b_Mo_addPalette 34 = .ok (.getfield 70, 3) := by decide +kernel
theorem d_Mo_addPalette_37 : decode b_Mo_addPalette 37 = .ok (.if_icmp .ge 21, 3) := by decide +kernel
theorem d_Mo_addPalette_40 : decode b_Mo_addPalette 40 = .ok (.aload_n 0, 1) := by decide +kernel
theorem d_Mo_addPalette_41 : decode b_Mo_addPalette 41 = .ok (.aload_n 0, 1) := by decide +kernel
theorem d_Mo_addPalette_42 : decode b_Mo_addPalette 42 = .ok (.getfield 20, 3) := by decide +kernel
theorem d_Mo_addPalette_45 : decode b_Mo_addPalette 45 = .ok (.iload_n 1, 1) := by decide +kernel
theorem d_Mo_addPalette_46 : decode b_Mo_addPalette 46 = .ok (.iaload, 1) := by decide +kernel
theorem d_Mo_addPalette_47 : decode b_Mo_addPalette 47 = .ok (.i2l, 1) := by decide +kernel
theorem d_Mo_addPalette_48 : decode b_Mo_addPalette 48 = .ok (.iconst 1, 1) := by decide +kernel
theorem d_Mo_addPalette_49 : decode b_Mo_addPalette 49 = .ok (.invokevirtual 153, 3) := by decide +kernel
theorem d_Mo_addPalette_52 : decode b_Mo_addPalette 52 = .ok (.iinc 1 1, 3) := by decide +kernel
theorem d_Mo_addPalette_55 : decode b_Mo_addPalette 55 = .ok (.goto (-23), 3) := by decide +kernel
theorem d_Mo_addPalette_58 : decode b_Mo_addPalette 58 = .ok (.iconst 0, 1) := by decide +kernel
theorem d_Mo_addPalette_59 : decode b_Mo_addPalette 59 = .ok (.istore_n 1, 1) := by decide +kernel
theorem d_Mo_addPalette_60 : decode b_Mo_addPalette 60 = .ok (.iload_n 1, 1) := by decide +kernel
theorem d_Mo_addPalette_61 : decode b_Mo_addPalette 61 = .ok (.aload_n 0, 1) := by decide +kernel
theorem d_Mo_addPalette_62 : decode b_Mo_addPalette 62 = .ok (.getfield 67, 3) := by decide +kernel
theorem d_Mo_addPalette_65 : decode b_Mo_addPalette 65 = .ok (.if_icmp .ge 69, 3) := by decide +kernel
theorem d_Mo_addPalette_68 : decode b_Mo_addPalette 68 = .ok (.iconst 0, 1) := by decide +kernel
theorem d_Mo_addPalette_69 : decode b_Mo_addPalette 69 = .ok (.istore_n 2, 1) := by decide +kernel
theorem d_Mo_addPalette_70 : decode b_Mo_addPalette 70 = .ok (.iload_n 2, 1) := by decide +kernel
theorem d_Mo_addPalette_71 : decode b_Mo_addPalette 71 = .ok (.aload_n 0, 1) := by decide +kernel
theorem d_Mo_addPalette_72 : decode b_Mo_addPalette 72 = .ok (.getfield 70, 3) := by decide +kernel
theorem d_Mo_addPalette_75 : decode b_Mo_addPalette 75 = .ok (.if_icmp .ge 53, 3) := by decide +kernel
theorem d_Mo_addPalette_78 : decode b_Mo_addPalette 78 = .ok (.ldc2_w 106, 3) := by decide +kernel
theorem d_Mo_addPalette_81 : decode b_Mo_addPalette 81 = .ok (.aload_n 0, 1) := by decide +kernel
theorem d_Mo_addPalette_82 : decode b_Mo_addPalette 82 = .ok (.getfield 20, 3) := by decide +kernel
theorem d_Mo_addPalette_85 : decode b_Mo_addPalette 85 = .ok (.iload_n 2, 1) := by decide +kernel
theorem d_Mo_addPalette_86 : decode b_Mo_addPalette 86 = .ok (.iaload, 1) := by decide +kernel
theorem d_Mo_addPalette_87 : decode b_Mo_addPalette 87 = .ok (.bipush 127, 2) := by decide +kernel
theorem d_Mo_addPalette_89 : decode b_Mo_addPalette 89 = .ok (.iand, 1) := by decide +kernel
theorem d_Mo_addPalette_90 : decode b_Mo_addPalette 90 = .ok (.lshl, 1) := by decide +kernel
theorem d_Mo_addPalette_91 : decode b_Mo_addPalette 91 = .ok (.lconst 1, 1) := by decide +kernel
theorem d_Mo_addPalette_92 : decode b_Mo_addPalette 92 = .ok (.lsub, 1) := by decide +kernel
theorem d_Mo_addPalette_93 : decode b_Mo_addPalette 93 = .ok (.lstore_n 3, 1) := by decide +kernel
theorem d_Mo_addPalette_94 : decode b_Mo_addPalette 94 = .ok (.aload_n 0, 1) := by decide +kernel
theorem d_Mo_addPalette_95 : decode b_Mo_addPalette 95 = .ok (.aload_n 0, 1) := by decide +kernel
theorem d_Mo_addPalette_96 : decode b_Mo_addPalette 96 = .ok (.getfield 23, 3) := by decide +kernel
theorem d_Mo_addPalette_99 : decode b_Mo_addPalette 99 = .ok (.aload_n 0, 1) := by decide +kernel
theorem d_Mo_addPalette_100 : decode b_Mo_addPalette 100 = .ok (.getfield 70, 3) := by decide +kernel
theorem d_Mo_addPalette_103 : decode b_Mo_addPalette 103 = .ok (.iload_n 1, 1) := by decide +kernel
theorem d_Mo_addPalette_104 : decode b_Mo_addPalette 104 = .ok (.imul, 1) := by decide +kernel
theorem d_Mo_addPalette_105 : decode b_Mo_addPalette 105 = .ok (.iload_n 2, 1) := by decide +kernel
theorem d_Mo_addPalette_106 : decode b_Mo_addPalette 106 = .ok (.iadd, 1) := by decide +kernel
theorem d_Mo_addPalette_107 : decode b_Mo_addPalette 107 = .ok (.laload, 1) := by decide +kernel
theorem d_Mo_addPalette_108 : decode b_Mo_addPalette 108 = .ok (.lload_n 3, 1) := by decide +kernel
theorem d_Mo_addPalette_109 : decode b_Mo_addPalette 109 = .ok (.land, 1) := by decide +kernel
theorem d_Mo_addPalette_110 : decode b_Mo_addPalette 110 = .ok (.aload_n 0, 1) := by decide +kernel
theorem d_Mo_addPalette_111 : decode b_Mo_addPalette 111 = .ok (.getfield 20, 3) := by decide +kernel
theorem d_Mo_addPalette_114 : decode b_Mo_addPalette 114 = .ok (.iload_n 2, 1) := by decide +kernel
theorem d_Mo_addPalette_115 : decode b_Mo_addPalette 115 = .ok (.iaload, 1) := by decide +kernel
theorem d_Mo_addPalette_116 : decode b_Mo_addPalette 116 = .ok (.invokestatic 157, 3) := by decide +kernel
theorem d_Mo_addPalette_119 : decode b_Mo_addPalette 119 = .ok (.invokevirtual 153, 3) := by decide +kernel
theorem d_Mo_addPalette_122 : decode b_Mo_addPalette 122 = .ok (.iinc 2 1, 3) := by decide +kernel
theorem d_Mo_addPalette_125 : decode b_Mo_addPalette 125 = .ok (.goto (-55), 3) := by decide +kernel
theorem d_Mo_addPalette_128 : decode b_Mo_addPalette 128 = .ok (.iinc 1 1, 3) := by decide +kernel
theorem d_Mo_addPalette_131 : decode b_Mo_addPalette 131 = .ok (.goto (-71), 3) := by decide +kernel
theorem d_Mo_addPalette_134 : decode b_Mo_addPalette 134 = .ok (.aload_n 0, 1) := by decide +kernel
theorem d_Mo_addPalette_135 : decode b_Mo_addPalette 135 = .ok (.ldc 172, 2) := by decide +kernel
theorem d_Mo_addPalette_137 : decode b_Mo_addPalette 137 = .ok (.iconst 4, 1) := by decide +kernel
theorem d_Mo_addPalette_138 : decode b_Mo_addPalette 138 = .ok (.aload_n 0, 1) := by decide +kernel
theorem d_Mo_addPalette_139 : decode b_Mo_addPalette 139 = .ok (.getfield 73, 3) := by decide +kernel
theorem d_Mo_addPalette_142 : decode b_Mo_addPalette 142 = .ok (.imul, 1) := by decide +kernel
theorem d_Mo_addPalette_143 : decode b_Mo_addPalette 143 = .ok (.invokevirtual 163, 3) := by decide +kernel
theorem d_Mo_addPalette_146 : decode b_Mo_addPalette 146 = .ok (.iconst 0, 1) := by decide +kernel
theorem d_Mo_addPalette_147 : decode b_Mo_addPalette 147 = .ok (.istore_n 1, 1) := by decide +kernel
theorem d_Mo_addPalette_148 : decode b_Mo_addPalette 148 = .ok (.iload_n 1, 1) := by decide +kernel
theorem d_Mo_addPalette_149 : decode b_Mo_addPalette 149 = .ok (.aload_n 0, 1) := by decide +kernel
theorem d_Mo_addPalette_150 : decode b_Mo_addPalette 150 = .ok (.getfield 73, 3) := by decide +kernel
theorem d_Mo_addPalette_153 : decode b_Mo_addPalette 153 = .ok (.if_icmp .ge 55, 3) := by decide +kernel
theorem d_Mo_addPalette_156 : decode b_Mo_addPalette 156 = .ok (.aload_n 0, 1) := by decide +kernel
theorem d_Mo_addPalette_157 : decode b_Mo_addPalette 157 = .ok (.aload_n 0, 1) := by decide +kernel
theorem d_Mo_addPalette_158 : decode b_Mo_addPalette 158 = .ok (.getfield 27, 3) := by decide +kernel
theorem d_Mo_addPalette_161 : decode b_Mo_addPalette 161 = .ok (.iconst 3, 1) := by decide +kernel
theorem d_Mo_addPalette_162 : decode b_Mo_addPalette 162 = .ok (.iload_n 1, 1) := by decide +kernel
theorem d_Mo_addPalette_163 : decode b_Mo_addPalette 163 = .ok (.imul, 1) := by decide +kernel
theorem d_Mo_addPalette_164 : decode b_Mo_addPalette 164 = .ok (.iaload, 1) := by decide +kernel
theorem d_Mo_addPalette_165 : decode b_Mo_addPalette 165 = .ok (.i2l, 1) := by decide +kernel
theorem d_Mo_addPalette_166 : decode b_Mo_addPalette 166 = .ok (.iconst 2, 1) := by decide +kernel
theorem d_Mo_addPalette_167 : decode b_Mo_addPalette 167 = .ok (.invokevirtual 153, 3) := by decide +kernel
theorem d_Mo_addPalette_170 : decode b_Mo_addPalette 170 = .ok (.aload_n 0, 1) := by decide +kernel
theorem d_Mo_addPalette_171 : decode b_Mo_addPalette 171 = .ok (.aload_n 0, 1) := by decide +kernel
theorem d_Mo_addPalette_172 : decode b_Mo_addPalette 172 = .ok (.getfield 27, 3) := by decide +kernel
theorem d_Mo_addPalette_175 : decode b_Mo_addPalette 175 = .ok (.iconst 3, 1) := by decide +kernel
theorem d_Mo_addPalette_176 : decode b_Mo_addPalette 176 = .ok (.iload_n 1, 1) := by decide +kernel
theorem d_Mo_addPalette_177 : decode b_Mo_addPalette 177 = .ok (.imul, 1) := by decide +kernel
theorem d_Mo_addPalette_178 : decode b_Mo_addPalette 178 = .ok (.iconst 1, 1) := by decide +kernel
theorem d_Mo_addPalette_179 : decode b_Mo_addPalette 179 = .ok (.iadd, 1) := by decide +kernel
theorem d_Mo_addPalette_180 : decode b_Mo_addPalette 180 = .ok (.iaload, 1) := by decide +kernel
theorem d_Mo_addPalette_181 : decode b_Mo_addPalette 181 = .ok (.i2l, 1) := by decide +kernel
theorem d_Mo_addPalette_182 : decode b_Mo_addPalette 182 = .ok (.iconst 1, 1) := by decide +kernel
theorem d_Mo_addPalette_183 : decode b_Mo_addPalette 183 = .ok (.invokevirtual 153, 3) := by decide +kernel
theorem d_Mo_addPalette_186 : decode b_Mo_addPalette 186 = .ok (.aload_n 0, 1) := by decide +kernel
theorem d_Mo_addPalette_187 : decode b_Mo_addPalette 187 = .ok (.aload_n 0, 1) := by decide +kernel
theorem d_Mo_addPalette_188 : decode b_Mo_addPalette 188 = .ok (.getfield 27, 3) := by decide +kernel
theorem d_Mo_addPalette_191 : decode b_Mo_addPalette 191 = .ok (.iconst 3, 1) := by decide +kernel
theorem d_Mo_addPalette_192 : decode b_Mo_addPalette 192 = .ok (.iload_n 1, 1) := by decide +kernel
theorem d_Mo_addPalette_193 : decode b_Mo_addPalette 193 = .ok (.imul, 1) := by decide +kernel
theorem d_Mo_addPalette_194 : decode b_Mo_addPalette 194 = .ok (.iconst 2, 1) := by decide +kernel
theorem d_Mo_addPalette_195 : decode b_Mo_addPalette 195 = .ok (.iadd, 1) := by decide +kernel
theorem d_Mo_addPalette_196 : decode b_Mo_addPalette 196 = .ok (.iaload, 1) := by decide +kernel
theorem d_Mo_addPalette_197 : decode b_Mo_addPalette 197 = .ok (.i2l, 1) := by decide +kernel
theorem d_Mo_addPalette_198 : decode b_Mo_addPalette 198 = .ok (.iconst 1, 1) := by decide +kernel
theorem d_Mo_addPalette_199 : decode b_Mo_addPalette 199 = .ok (.invokevirtual 153, 3) := by decide +kernel
theorem d_Mo_addPalette_202 : decode b_Mo_addPalette 202 = .ok (.iinc 1 1, 3) := by decide +kernel
theorem d_Mo_addPalette_205 : decode b_Mo_addPalette 205 = .ok (.goto (-57), 3) := by decide +kernel
theorem d_Mo_addPalette_208 : decode b_Mo_addPalette 208 = .ok (.return_, 1) := by decide +kernel
def k_Mo_addPalette_199 (kk_148 : Int32 → Int32 → (Nat → Int32) → Int32 × (Nat → Int32)) (v148_1 : Int32) (x199 : Int32 × (Nat → Int32)) : Int32 × (Nat → Int32) :=
  kk_148 (v148_1 + 1) x199.1 x199.2
def ok_Mo_addPalette_199 (okk_148 : Int32 → Int32 → (Nat → Int32) → Prop) (v148_1 : Int32) (x199 : Int32 × (Nat → Int32)) : Prop :=
  okk_148 (v148_1 + 1) x199.1 x199.2
def k_Mo_addPalette_183 (f_t_map : Nat → Int32) (kk_148 : Int32 → Int32 → (Nat → Int32) → Int32 × (Nat → Int32)) (v148_1 : Int32) (x183 : Int32 × (Nat → Int32)) : Int32 × (Nat → Int32) :=
  k_Mo_addPalette_199 kk_148 v148_1 (m_Mo_add x183.1 x183.2 ((f_t_map ((3 * v148_1) + 2).toNatClampNeg : Int32).toInt64) 1)
def ok_Mo_addPalette_183 (f_t_map : Nat → Int32) (okk_148 : Int32 → Int32 → (Nat → Int32) → Prop) (v148_1 : Int32) (x183 : Int32 × (Nat → Int32)) : Prop :=
  vp_in ((3 * v148_1) + 2) 48 ∧ om_Mo_add x183.1 x183.2 ((f_t_map ((3 * v148_1) + 2).toNatClampNeg : Int32).toInt64) 1 ∧ (ok_Mo_addPalette_199 okk_148 v148_1 (m_Mo_add x183.1 x183.2 ((f_t_map ((3 * v148_1) + 2).toNatClampNeg : Int32).toInt64) 1))
def k_Mo_addPalette_167 (f_t_map : Nat → Int32) (kk_148 : Int32 → Int32 → (Nat → Int32) → Int32 × (Nat → Int32)) (v148_1 : Int32) (x167 : Int32 × (Nat → Int32)) : Int32 × (Nat → Int32) :=
  k_Mo_addPalette_183 f_t_map kk_148 v148_1 (m_Mo_add x167.1 x167.2 ((f_t_map ((3 * v148_1) + 1).toNatClampNeg : Int32).toInt64) 1)
def ok_Mo_addPalette_167 (f_t_map : Nat → Int32) (okk_148 : Int32 → Int32 → (Nat → Int32) → Prop) (v148_1 : Int32) (x167 : Int32 × (Nat → Int32)) : Prop :=
  vp_in ((3 * v148_1) + 1) 48 ∧ om_Mo_add x167.1 x167.2 ((f_t_map ((3 * v148_1) + 1).toNatClampNeg : Int32).toInt64) 1 ∧ (ok_Mo_addPalette_183 f_t_map okk_148 v148_1 (m_Mo_add x167.1 x167.2 ((f_t_map ((3 * v148_1) + 1).toNatClampNeg : Int32).toInt64) 1))
def lb_Mo_addPalette_148 (t_maps : Int32) (f_t_map : Nat → Int32) (kk_148 : Int32 → Int32 → (Nat → Int32) → Int32 × (Nat → Int32)) (v148_1 : Int32) (v148_t_cursor : Int32) (v148_t_file : Nat → Int32) : Int32 × (Nat → Int32) :=
  if t_maps ≤ v148_1 then (v148_t_cursor, v148_t_file) else (k_Mo_addPalette_167 f_t_map kk_148 v148_1 (m_Mo_add v148_t_cursor v148_t_file ((f_t_map (3 * v148_1).toNatClampNeg : Int32).toInt64) 2))
def lp_Mo_addPalette_148 (t_maps : Int32) (f_t_map : Nat → Int32) : Nat → Int32 → Int32 → (Nat → Int32) → Int32 × (Nat → Int32)
  | 0, v148_1, v148_t_cursor, v148_t_file => (v148_t_cursor, v148_t_file)
  | n + 1, v148_1, v148_t_cursor, v148_t_file => lb_Mo_addPalette_148 t_maps f_t_map (lp_Mo_addPalette_148 t_maps f_t_map n) v148_1 v148_t_cursor v148_t_file
def olb_Mo_addPalette_148 (t_maps : Int32) (f_t_map : Nat → Int32) (okk_148 : Int32 → Int32 → (Nat → Int32) → Prop) (v148_1 : Int32) (v148_t_cursor : Int32) (v148_t_file : Nat → Int32) : Prop :=
  if t_maps ≤ v148_1 then True else (vp_in (3 * v148_1) 48 ∧ om_Mo_add v148_t_cursor v148_t_file ((f_t_map (3 * v148_1).toNatClampNeg : Int32).toInt64) 2 ∧ (ok_Mo_addPalette_167 f_t_map okk_148 v148_1 (m_Mo_add v148_t_cursor v148_t_file ((f_t_map (3 * v148_1).toNatClampNeg : Int32).toInt64) 2)))
def olp_Mo_addPalette_148 (t_maps : Int32) (f_t_map : Nat → Int32) : Nat → Int32 → Int32 → (Nat → Int32) → Prop
  | 0, _, _, _ => True
  | n + 1, v148_1, v148_t_cursor, v148_t_file => olb_Mo_addPalette_148 t_maps f_t_map (olp_Mo_addPalette_148 t_maps f_t_map n) v148_1 v148_t_cursor v148_t_file
def k_Mo_addPalette_143 (t_maps : Int32) (f_t_map : Nat → Int32) (x143 : Int32 × (Nat → Int32)) : Int32 × (Nat → Int32) :=
  lp_Mo_addPalette_148 t_maps f_t_map ((t_maps.toInt - (0 : Int32).toInt).toNat + 1) 0 x143.1 x143.2
def ok_Mo_addPalette_143 (t_maps : Int32) (f_t_map : Nat → Int32) (x143 : Int32 × (Nat → Int32)) : Prop :=
  olp_Mo_addPalette_148 t_maps f_t_map ((t_maps.toInt - (0 : Int32).toInt).toNat + 1) 0 x143.1 x143.2
def k_Mo_addPalette_119 (kk_70 : Int32 → Int32 → (Nat → Int32) → Int32 × (Nat → Int32)) (v70_2 : Int32) (x119 : Int32 × (Nat → Int32)) : Int32 × (Nat → Int32) :=
  kk_70 (v70_2 + 1) x119.1 x119.2
def ok_Mo_addPalette_119 (okk_70 : Int32 → Int32 → (Nat → Int32) → Prop) (v70_2 : Int32) (x119 : Int32 × (Nat → Int32)) : Prop :=
  okk_70 (v70_2 + 1) x119.1 x119.2
def k_Mo_addPalette_116 (t_columns : Int32) (f_t_columnBits : Nat → Int32) (f_t_numbers : Nat → Int64) (v60_1 : Int32) (kk_70 : Int32 → Int32 → (Nat → Int32) → Int32 × (Nat → Int32)) (v70_2 : Int32) (v70_t_cursor : Int32) (v70_t_file : Nat → Int32) (x116 : Int32) : Int32 × (Nat → Int32) :=
  k_Mo_addPalette_119 kk_70 v70_2 (m_Mo_add v70_t_cursor v70_t_file ((f_t_numbers ((t_columns * v60_1) + v70_2).toNatClampNeg) &&& ((2 <<< (((f_t_columnBits v70_2.toNatClampNeg) &&& 127 : Int32).toInt64 &&& 63)) - 1)) x116)
def ok_Mo_addPalette_116 (t_columns : Int32) (f_t_columnBits : Nat → Int32) (f_t_numbers : Nat → Int64) (v60_1 : Int32) (okk_70 : Int32 → Int32 → (Nat → Int32) → Prop) (v70_2 : Int32) (v70_t_cursor : Int32) (v70_t_file : Nat → Int32) (x116 : Int32) : Prop :=
  om_Mo_add v70_t_cursor v70_t_file ((f_t_numbers ((t_columns * v60_1) + v70_2).toNatClampNeg) &&& ((2 <<< (((f_t_columnBits v70_2.toNatClampNeg) &&& 127 : Int32).toInt64 &&& 63)) - 1)) x116 ∧ (ok_Mo_addPalette_119 okk_70 v70_2 (m_Mo_add v70_t_cursor v70_t_file ((f_t_numbers ((t_columns * v60_1) + v70_2).toNatClampNeg) &&& ((2 <<< (((f_t_columnBits v70_2.toNatClampNeg) &&& 127 : Int32).toInt64 &&& 63)) - 1)) x116))
def lb_Mo_addPalette_70 (t_columns : Int32) (f_t_columnBits : Nat → Int32) (f_t_numbers : Nat → Int64) (kk_60 : Int32 → Int32 → (Nat → Int32) → Int32 × (Nat → Int32)) (v60_1 : Int32) (kk_70 : Int32 → Int32 → (Nat → Int32) → Int32 × (Nat → Int32)) (v70_2 : Int32) (v70_t_cursor : Int32) (v70_t_file : Nat → Int32) : Int32 × (Nat → Int32) :=
  if t_columns ≤ v70_2 then (kk_60 (v60_1 + 1) v70_t_cursor v70_t_file) else (k_Mo_addPalette_116 t_columns f_t_columnBits f_t_numbers v60_1 kk_70 v70_2 v70_t_cursor v70_t_file (m_Mo_bytesOf (f_t_columnBits v70_2.toNatClampNeg)))
def lp_Mo_addPalette_70 (t_columns : Int32) (f_t_columnBits : Nat → Int32) (f_t_numbers : Nat → Int64) (kk_60 : Int32 → Int32 → (Nat → Int32) → Int32 × (Nat → Int32)) (v60_1 : Int32) : Nat → Int32 → Int32 → (Nat → Int32) → Int32 × (Nat → Int32)
  | 0, v70_2, v70_t_cursor, v70_t_file => (v70_t_cursor, v70_t_file)
  | n + 1, v70_2, v70_t_cursor, v70_t_file => lb_Mo_addPalette_70 t_columns f_t_columnBits f_t_numbers kk_60 v60_1 (lp_Mo_addPalette_70 t_columns f_t_columnBits f_t_numbers kk_60 v60_1 n) v70_2 v70_t_cursor v70_t_file
def olb_Mo_addPalette_70 (t_columns : Int32) (f_t_columnBits : Nat → Int32) (f_t_numbers : Nat → Int64) (okk_60 : Int32 → Int32 → (Nat → Int32) → Prop) (v60_1 : Int32) (okk_70 : Int32 → Int32 → (Nat → Int32) → Prop) (v70_2 : Int32) (v70_t_cursor : Int32) (v70_t_file : Nat → Int32) : Prop :=
  if t_columns ≤ v70_2 then (okk_60 (v60_1 + 1) v70_t_cursor v70_t_file) else (vp_in v70_2 8 ∧ vp_in ((t_columns * v60_1) + v70_2) 4096 ∧ vp_in v70_2 8 ∧ om_Mo_bytesOf ∧ (ok_Mo_addPalette_116 t_columns f_t_columnBits f_t_numbers v60_1 okk_70 v70_2 v70_t_cursor v70_t_file (m_Mo_bytesOf (f_t_columnBits v70_2.toNatClampNeg))))
def olp_Mo_addPalette_70 (t_columns : Int32) (f_t_columnBits : Nat → Int32) (f_t_numbers : Nat → Int64) (okk_60 : Int32 → Int32 → (Nat → Int32) → Prop) (v60_1 : Int32) : Nat → Int32 → Int32 → (Nat → Int32) → Prop
  | 0, _, _, _ => True
  | n + 1, v70_2, v70_t_cursor, v70_t_file => olb_Mo_addPalette_70 t_columns f_t_columnBits f_t_numbers okk_60 v60_1 (olp_Mo_addPalette_70 t_columns f_t_columnBits f_t_numbers okk_60 v60_1 n) v70_2 v70_t_cursor v70_t_file
def lb_Mo_addPalette_60 (t_entries : Int32) (t_columns : Int32) (t_maps : Int32) (f_t_columnBits : Nat → Int32) (f_t_numbers : Nat → Int64) (f_t_map : Nat → Int32) (kk_60 : Int32 → Int32 → (Nat → Int32) → Int32 × (Nat → Int32)) (v60_1 : Int32) (v60_t_cursor : Int32) (v60_t_file : Nat → Int32) : Int32 × (Nat → Int32) :=
  if t_entries ≤ v60_1 then (k_Mo_addPalette_143 t_maps f_t_map (m_Mo_box v60_t_cursor v60_t_file 1668112752 (4 * t_maps))) else (lp_Mo_addPalette_70 t_columns f_t_columnBits f_t_numbers kk_60 v60_1 ((t_columns.toInt - (0 : Int32).toInt).toNat + 1) 0 v60_t_cursor v60_t_file)
def lp_Mo_addPalette_60 (t_entries : Int32) (t_columns : Int32) (t_maps : Int32) (f_t_columnBits : Nat → Int32) (f_t_numbers : Nat → Int64) (f_t_map : Nat → Int32) : Nat → Int32 → Int32 → (Nat → Int32) → Int32 × (Nat → Int32)
  | 0, v60_1, v60_t_cursor, v60_t_file => (v60_t_cursor, v60_t_file)
  | n + 1, v60_1, v60_t_cursor, v60_t_file => lb_Mo_addPalette_60 t_entries t_columns t_maps f_t_columnBits f_t_numbers f_t_map (lp_Mo_addPalette_60 t_entries t_columns t_maps f_t_columnBits f_t_numbers f_t_map n) v60_1 v60_t_cursor v60_t_file
def olb_Mo_addPalette_60 (t_entries : Int32) (t_columns : Int32) (t_maps : Int32) (f_t_columnBits : Nat → Int32) (f_t_numbers : Nat → Int64) (f_t_map : Nat → Int32) (okk_60 : Int32 → Int32 → (Nat → Int32) → Prop) (v60_1 : Int32) (v60_t_cursor : Int32) (v60_t_file : Nat → Int32) : Prop :=
  if t_entries ≤ v60_1 then (om_Mo_box v60_t_cursor v60_t_file 1668112752 (4 * t_maps) ∧ (ok_Mo_addPalette_143 t_maps f_t_map (m_Mo_box v60_t_cursor v60_t_file 1668112752 (4 * t_maps)))) else (olp_Mo_addPalette_70 t_columns f_t_columnBits f_t_numbers okk_60 v60_1 ((t_columns.toInt - (0 : Int32).toInt).toNat + 1) 0 v60_t_cursor v60_t_file)
def olp_Mo_addPalette_60 (t_entries : Int32) (t_columns : Int32) (t_maps : Int32) (f_t_columnBits : Nat → Int32) (f_t_numbers : Nat → Int64) (f_t_map : Nat → Int32) : Nat → Int32 → Int32 → (Nat → Int32) → Prop
  | 0, _, _, _ => True
  | n + 1, v60_1, v60_t_cursor, v60_t_file => olb_Mo_addPalette_60 t_entries t_columns t_maps f_t_columnBits f_t_numbers f_t_map (olp_Mo_addPalette_60 t_entries t_columns t_maps f_t_columnBits f_t_numbers f_t_map n) v60_1 v60_t_cursor v60_t_file
def k_Mo_addPalette_49 (kk_32 : Int32 → Int32 → (Nat → Int32) → Int32 × (Nat → Int32)) (v32_1 : Int32) (x49 : Int32 × (Nat → Int32)) : Int32 × (Nat → Int32) :=
  kk_32 (v32_1 + 1) x49.1 x49.2
def ok_Mo_addPalette_49 (okk_32 : Int32 → Int32 → (Nat → Int32) → Prop) (v32_1 : Int32) (x49 : Int32 × (Nat → Int32)) : Prop :=
  okk_32 (v32_1 + 1) x49.1 x49.2
def lb_Mo_addPalette_32 (t_entries : Int32) (t_columns : Int32) (t_maps : Int32) (f_t_columnBits : Nat → Int32) (f_t_numbers : Nat → Int64) (f_t_map : Nat → Int32) (kk_32 : Int32 → Int32 → (Nat → Int32) → Int32 × (Nat → Int32)) (v32_1 : Int32) (v32_t_cursor : Int32) (v32_t_file : Nat → Int32) : Int32 × (Nat → Int32) :=
  if t_columns ≤ v32_1 then (lp_Mo_addPalette_60 t_entries t_columns t_maps f_t_columnBits f_t_numbers f_t_map ((t_entries.toInt - (0 : Int32).toInt).toNat + 1) 0 v32_t_cursor v32_t_file) else (k_Mo_addPalette_49 kk_32 v32_1 (m_Mo_add v32_t_cursor v32_t_file ((f_t_columnBits v32_1.toNatClampNeg : Int32).toInt64) 1))
def lp_Mo_addPalette_32 (t_entries : Int32) (t_columns : Int32) (t_maps : Int32) (f_t_columnBits : Nat → Int32) (f_t_numbers : Nat → Int64) (f_t_map : Nat → Int32) : Nat → Int32 → Int32 → (Nat → Int32) → Int32 × (Nat → Int32)
  | 0, v32_1, v32_t_cursor, v32_t_file => (v32_t_cursor, v32_t_file)
  | n + 1, v32_1, v32_t_cursor, v32_t_file => lb_Mo_addPalette_32 t_entries t_columns t_maps f_t_columnBits f_t_numbers f_t_map (lp_Mo_addPalette_32 t_entries t_columns t_maps f_t_columnBits f_t_numbers f_t_map n) v32_1 v32_t_cursor v32_t_file
def olb_Mo_addPalette_32 (t_entries : Int32) (t_columns : Int32) (t_maps : Int32) (f_t_columnBits : Nat → Int32) (f_t_numbers : Nat → Int64) (f_t_map : Nat → Int32) (okk_32 : Int32 → Int32 → (Nat → Int32) → Prop) (v32_1 : Int32) (v32_t_cursor : Int32) (v32_t_file : Nat → Int32) : Prop :=
  if t_columns ≤ v32_1 then (olp_Mo_addPalette_60 t_entries t_columns t_maps f_t_columnBits f_t_numbers f_t_map ((t_entries.toInt - (0 : Int32).toInt).toNat + 1) 0 v32_t_cursor v32_t_file) else (vp_in v32_1 8 ∧ om_Mo_add v32_t_cursor v32_t_file ((f_t_columnBits v32_1.toNatClampNeg : Int32).toInt64) 1 ∧ (ok_Mo_addPalette_49 okk_32 v32_1 (m_Mo_add v32_t_cursor v32_t_file ((f_t_columnBits v32_1.toNatClampNeg : Int32).toInt64) 1)))
def olp_Mo_addPalette_32 (t_entries : Int32) (t_columns : Int32) (t_maps : Int32) (f_t_columnBits : Nat → Int32) (f_t_numbers : Nat → Int64) (f_t_map : Nat → Int32) : Nat → Int32 → Int32 → (Nat → Int32) → Prop
  | 0, _, _, _ => True
  | n + 1, v32_1, v32_t_cursor, v32_t_file => olb_Mo_addPalette_32 t_entries t_columns t_maps f_t_columnBits f_t_numbers f_t_map (olp_Mo_addPalette_32 t_entries t_columns t_maps f_t_columnBits f_t_numbers f_t_map n) v32_1 v32_t_cursor v32_t_file
def k_Mo_addPalette_27 (t_entries : Int32) (t_columns : Int32) (t_maps : Int32) (f_t_columnBits : Nat → Int32) (f_t_numbers : Nat → Int64) (f_t_map : Nat → Int32) (x27 : Int32 × (Nat → Int32)) : Int32 × (Nat → Int32) :=
  lp_Mo_addPalette_32 t_entries t_columns t_maps f_t_columnBits f_t_numbers f_t_map ((t_columns.toInt - (0 : Int32).toInt).toNat + 1) 0 x27.1 x27.2
def ok_Mo_addPalette_27 (t_entries : Int32) (t_columns : Int32) (t_maps : Int32) (f_t_columnBits : Nat → Int32) (f_t_numbers : Nat → Int64) (f_t_map : Nat → Int32) (x27 : Int32 × (Nat → Int32)) : Prop :=
  olp_Mo_addPalette_32 t_entries t_columns t_maps f_t_columnBits f_t_numbers f_t_map ((t_columns.toInt - (0 : Int32).toInt).toNat + 1) 0 x27.1 x27.2
def k_Mo_addPalette_17 (t_entries : Int32) (t_columns : Int32) (t_maps : Int32) (f_t_columnBits : Nat → Int32) (f_t_numbers : Nat → Int64) (f_t_map : Nat → Int32) (x17 : Int32 × (Nat → Int32)) : Int32 × (Nat → Int32) :=
  k_Mo_addPalette_27 t_entries t_columns t_maps f_t_columnBits f_t_numbers f_t_map (m_Mo_add x17.1 x17.2 ((t_columns : Int32).toInt64) 1)
def ok_Mo_addPalette_17 (t_entries : Int32) (t_columns : Int32) (t_maps : Int32) (f_t_columnBits : Nat → Int32) (f_t_numbers : Nat → Int64) (f_t_map : Nat → Int32) (x17 : Int32 × (Nat → Int32)) : Prop :=
  om_Mo_add x17.1 x17.2 ((t_columns : Int32).toInt64) 1 ∧ (ok_Mo_addPalette_27 t_entries t_columns t_maps f_t_columnBits f_t_numbers f_t_map (m_Mo_add x17.1 x17.2 ((t_columns : Int32).toInt64) 1))
def k_Mo_addPalette_7 (t_entries : Int32) (t_columns : Int32) (t_maps : Int32) (f_t_columnBits : Nat → Int32) (f_t_numbers : Nat → Int64) (f_t_map : Nat → Int32) (x7 : Int32 × (Nat → Int32)) : Int32 × (Nat → Int32) :=
  k_Mo_addPalette_17 t_entries t_columns t_maps f_t_columnBits f_t_numbers f_t_map (m_Mo_add x7.1 x7.2 ((t_entries : Int32).toInt64) 2)
def ok_Mo_addPalette_7 (t_entries : Int32) (t_columns : Int32) (t_maps : Int32) (f_t_columnBits : Nat → Int32) (f_t_numbers : Nat → Int64) (f_t_map : Nat → Int32) (x7 : Int32 × (Nat → Int32)) : Prop :=
  om_Mo_add x7.1 x7.2 ((t_entries : Int32).toInt64) 2 ∧ (ok_Mo_addPalette_17 t_entries t_columns t_maps f_t_columnBits f_t_numbers f_t_map (m_Mo_add x7.1 x7.2 ((t_entries : Int32).toInt64) 2))
def k_Mo_addPalette_4 (t_entries : Int32) (t_columns : Int32) (t_maps : Int32) (t_cursor : Int32) (f_t_columnBits : Nat → Int32) (f_t_file : Nat → Int32) (f_t_numbers : Nat → Int64) (f_t_map : Nat → Int32) (x4 : Int32) : Int32 × (Nat → Int32) :=
  k_Mo_addPalette_7 t_entries t_columns t_maps f_t_columnBits f_t_numbers f_t_map (m_Mo_box t_cursor f_t_file 1885564018 x4)
def ok_Mo_addPalette_4 (t_entries : Int32) (t_columns : Int32) (t_maps : Int32) (t_cursor : Int32) (f_t_columnBits : Nat → Int32) (f_t_file : Nat → Int32) (f_t_numbers : Nat → Int64) (f_t_map : Nat → Int32) (x4 : Int32) : Prop :=
  om_Mo_box t_cursor f_t_file 1885564018 x4 ∧ (ok_Mo_addPalette_7 t_entries t_columns t_maps f_t_columnBits f_t_numbers f_t_map (m_Mo_box t_cursor f_t_file 1885564018 x4))
def om_Mo_addPalette (t_entries : Int32) (t_columns : Int32) (t_maps : Int32) (t_cursor : Int32) (f_t_columnBits : Nat → Int32) (f_t_file : Nat → Int32) (f_t_numbers : Nat → Int64) (f_t_map : Nat → Int32) : Prop :=
  om_Mo_paletteSize t_columns f_t_columnBits ∧ (ok_Mo_addPalette_4 t_entries t_columns t_maps t_cursor f_t_columnBits f_t_file f_t_numbers f_t_map (m_Mo_paletteSize t_entries t_columns f_t_columnBits))
def m_Mo_addPalette (t_entries : Int32) (t_columns : Int32) (t_maps : Int32) (t_cursor : Int32) (f_t_columnBits : Nat → Int32) (f_t_file : Nat → Int32) (f_t_numbers : Nat → Int64) (f_t_map : Nat → Int32) : Int32 × (Nat → Int32) :=
  k_Mo_addPalette_4 t_entries t_columns t_maps t_cursor f_t_columnBits f_t_file f_t_numbers f_t_map (m_Mo_paletteSize t_entries t_columns f_t_columnBits)
set_option maxHeartbeats 4000000 in
set_option maxRecDepth 100000 in
theorem c_Mo_addPalette (l : Launch) (D : va_G) (cB cI cJ : ClassId) (h_t h_t_bits h_t_profile h_t_columnBits h_t_numbers h_t_map h_t_line h_t_resolutions h_t_file : Nat) (t_thrown : Int32) (t_high : Int32) (t_wide : Int32) (t_components : Int32) (t_unknown : Int32) (t_rights : Int32) (t_colours : Int32) (t_profiled : Int32) (t_entries : Int32) (t_columns : Int32) (t_maps : Int32) (t_lines : Int32) (t_size : Int32) (t_scanned : Int32) (t_refusedAt : Int32) (t_cursor : Int32) (t_streamAt : Int32) (t_streamMany : Int32) (t_name : Int32) (t_from : Int32) (t_end : Int32) (t_sizeAt : Int32) (t_bitsAt : Int32) (t_colourAt : Int32) (t_colourEnd : Int32) (t_paletteAt : Int32) (t_mapAt : Int32) (t_mapEnd : Int32) (t_channelsAt : Int32) (t_captureAt : Int32) (t_displayAt : Int32) (t_resolved : Int32) (f_t_columnBits : Nat → Int32) (f_t_file : Nat → Int32) (f_t_numbers : Nat → Int64) (f_t_map : Nat → Int32) (hO : om_Mo_addPalette t_entries t_columns t_maps t_cursor f_t_columnBits f_t_file f_t_numbers f_t_map) (sz : Nat) : Ct l D cB cI cJ y_Mo_addPalette b_Mo_addPalette 5 none 2 46 0 0 [.ref h_t] [(h_t, .inr (7, (.int t_thrown :: .int t_high :: .int t_wide :: .int t_components :: .ref h_t_bits :: .int t_unknown :: .int t_rights :: .int t_colours :: .int t_profiled :: .ref h_t_profile :: .int t_entries :: .int t_columns :: .ref h_t_columnBits :: .ref h_t_numbers :: .int t_maps :: .ref h_t_map :: .int t_lines :: .ref h_t_line :: .ref h_t_resolutions :: .ref h_t_file :: .int t_size :: .int t_scanned :: .int t_refusedAt :: .int t_cursor :: .int t_streamAt :: .int t_streamMany :: .int t_name :: .int t_from :: .int t_end :: .int t_sizeAt :: .int t_bitsAt :: .int t_colourAt :: .int t_colourEnd :: .int t_paletteAt :: .int t_mapAt :: .int t_mapEnd :: .int t_channelsAt :: .int t_captureAt :: .int t_displayAt :: .int t_resolved :: []))), (h_t_columnBits, .inl (cI, 8, .inl f_t_columnBits)), (h_t_file, .inl (cI, 65536, .inl f_t_file)), (h_t_numbers, .inl (cJ, 4096, .inr (.inl f_t_numbers))), (h_t_map, .inl (cI, 48, .inl f_t_map))] (fun v w1 => ∃ (x : Int32 × (Nat → Int32)), x = m_Mo_addPalette t_entries t_columns t_maps t_cursor f_t_columnBits f_t_file f_t_numbers f_t_map ∧ v = none ∧ w1 = [(h_t, .inr (7, (.int t_thrown :: .int t_high :: .int t_wide :: .int t_components :: .ref h_t_bits :: .int t_unknown :: .int t_rights :: .int t_colours :: .int t_profiled :: .ref h_t_profile :: .int t_entries :: .int t_columns :: .ref h_t_columnBits :: .ref h_t_numbers :: .int t_maps :: .ref h_t_map :: .int t_lines :: .ref h_t_line :: .ref h_t_resolutions :: .ref h_t_file :: .int t_size :: .int t_scanned :: .int t_refusedAt :: .int x.1 :: .int t_streamAt :: .int t_streamMany :: .int t_name :: .int t_from :: .int t_end :: .int t_sizeAt :: .int t_bitsAt :: .int t_colourAt :: .int t_colourEnd :: .int t_paletteAt :: .int t_mapAt :: .int t_mapEnd :: .int t_channelsAt :: .int t_captureAt :: .int t_displayAt :: .int t_resolved :: []))), (h_t_columnBits, .inl (cI, 8, .inl f_t_columnBits)), (h_t_file, .inl (cI, 65536, .inl x.2)), (h_t_numbers, .inl (cJ, 4096, .inr (.inl f_t_numbers))), (h_t_map, .inl (cI, 48, .inl f_t_map))]) sz := by
  refine Ct.of (by decide) (Nat.le_of_ble_eq_true rfl) ?_
  intro p e R s m args below meth c A ls Q hx hb hr hlk hml hta hown hin hK hN hA hRf hRl hRc hRs hP hD hS hl hQ
  have hl : lv_has ls 5 [(0, .ref h_t)] := hl
  obtain ⟨RES, E0⟩ : ∃ R, m_Mo_addPalette t_entries t_columns t_maps t_cursor f_t_columnBits f_t_file f_t_numbers f_t_map = R := ⟨_, rfl⟩
  have E := E0
  have O := hO
  refine lv_aload_n hx hb d_Mo_addPalette_0 rfl (lv_at hl 0 rfl) ?_
  refine lv_ldc (v := 1885564018) hx hb hown (hta _ lk_Mo_167) d_Mo_addPalette_1 ?_
  refine lv_aload_n hx hb d_Mo_addPalette_3 rfl (lv_at hl 0 rfl) ?_
  refine kc_V (As := []) (rest := [.int 1885564018, .ref h_t]) (wr := [(h_t_file, .inl (cI, 65536, .inl f_t_file)), (h_t_numbers, .inl (cJ, 4096, .inr (.inl f_t_numbers))), (h_t_map, .inl (cI, 48, .inl f_t_map))]) [0, 1] [2, 3, 4] ⟨hx, hb, hml, hown, hta⟩ hK hN hP hD hS hA (c_Mo_paletteSize l D cB cI cJ h_t h_t_bits h_t_profile h_t_columnBits h_t_numbers h_t_map h_t_line h_t_resolutions h_t_file t_thrown t_high t_wide t_components t_unknown t_rights t_colours t_profiled t_entries t_columns t_maps t_lines t_size t_scanned t_refusedAt t_cursor t_streamAt t_streamMany t_name t_from t_end t_sizeAt t_bitsAt t_colourAt t_colourEnd t_paletteAt t_mapAt t_mapEnd t_channelsAt t_captureAt t_displayAt t_resolved f_t_columnBits O.1 _) (hta _ lk_Mo_168) (hta _ ini_Mo) (hta _ code_Mo_paletteSize) code_Mo_paletteSize (hta _ inst_Mo_paletteSize) (hta _ sel_Mo_paletteSize) hd_Mo_paletteSize rfl ⟨by omega, by omega⟩ (ci := 7) 0 rfl rfl rfl rfl (by decide) (by decide) (by decide) rfl hl.1 (lv_room (Nat.le_of_ble_eq_true rfl)) d_Mo_addPalette_4 ⟨by omega, by omega⟩ (fun v w1 H locs hw hP hD hS => ?_)
  obtain ⟨x4, hx4, rfl, rfl⟩ := hw
  have hP : va_P D classes [(h_t, .inr (7, (.int t_thrown :: .int t_high :: .int t_wide :: .int t_components :: .ref h_t_bits :: .int t_unknown :: .int t_rights :: .int t_colours :: .int t_profiled :: .ref h_t_profile :: .int t_entries :: .int t_columns :: .ref h_t_columnBits :: .ref h_t_numbers :: .int t_maps :: .ref h_t_map :: .int t_lines :: .ref h_t_line :: .ref h_t_resolutions :: .ref h_t_file :: .int t_size :: .int t_scanned :: .int t_refusedAt :: .int t_cursor :: .int t_streamAt :: .int t_streamMany :: .int t_name :: .int t_from :: .int t_end :: .int t_sizeAt :: .int t_bitsAt :: .int t_colourAt :: .int t_colourEnd :: .int t_paletteAt :: .int t_mapAt :: .int t_mapEnd :: .int t_channelsAt :: .int t_captureAt :: .int t_displayAt :: .int t_resolved :: []))), (h_t_columnBits, .inl (cI, 8, .inl f_t_columnBits)), (h_t_file, .inl (cI, 65536, .inl f_t_file)), (h_t_numbers, .inl (cJ, 4096, .inr (.inl f_t_numbers))), (h_t_map, .inl (cI, 48, .inl f_t_map))] H := hP.sub [3, 4, 0, 1, 2] rfl
  have hD : va_D A [(h_t, .inr (7, (.int t_thrown :: .int t_high :: .int t_wide :: .int t_components :: .ref h_t_bits :: .int t_unknown :: .int t_rights :: .int t_colours :: .int t_profiled :: .ref h_t_profile :: .int t_entries :: .int t_columns :: .ref h_t_columnBits :: .ref h_t_numbers :: .int t_maps :: .ref h_t_map :: .int t_lines :: .ref h_t_line :: .ref h_t_resolutions :: .ref h_t_file :: .int t_size :: .int t_scanned :: .int t_refusedAt :: .int t_cursor :: .int t_streamAt :: .int t_streamMany :: .int t_name :: .int t_from :: .int t_end :: .int t_sizeAt :: .int t_bitsAt :: .int t_colourAt :: .int t_colourEnd :: .int t_paletteAt :: .int t_mapAt :: .int t_mapEnd :: .int t_channelsAt :: .int t_captureAt :: .int t_displayAt :: .int t_resolved :: []))), (h_t_columnBits, .inl (cI, 8, .inl f_t_columnBits)), (h_t_file, .inl (cI, 65536, .inl f_t_file)), (h_t_numbers, .inl (cJ, 4096, .inr (.inl f_t_numbers))), (h_t_map, .inl (cI, 48, .inl f_t_map))] := hD.sub [3, 4, 0, 1, 2] (by decide) rfl
  refine W.eq (g2 := F0 m 7 ls [.int x4, .int 1885564018, .ref h_t]) rfl ?_
  have O := O.2
  have E : k_Mo_addPalette_4 t_entries t_columns t_maps t_cursor f_t_columnBits f_t_file f_t_numbers f_t_map x4 = RES := (congrArg (k_Mo_addPalette_4 t_entries t_columns t_maps t_cursor f_t_columnBits f_t_file f_t_numbers f_t_map) hx4).trans E
  have O : ok_Mo_addPalette_4 t_entries t_columns t_maps t_cursor f_t_columnBits f_t_file f_t_numbers f_t_map x4 := by rw [hx4]; exact O
  refine kc_V (As := [.int 1885564018, .int x4]) (rest := []) (wr := [(h_t_columnBits, .inl (cI, 8, .inl f_t_columnBits)), (h_t_numbers, .inl (cJ, 4096, .inr (.inl f_t_numbers))), (h_t_map, .inl (cI, 48, .inl f_t_map))]) [0, 2] [1, 3, 4] ⟨hx, hb, hml, hown, hta⟩ hK hN hP hD hS hA (c_Mo_box l D cB cI cJ h_t h_t_bits h_t_profile h_t_columnBits h_t_numbers h_t_map h_t_line h_t_resolutions h_t_file t_thrown t_high t_wide t_components t_unknown t_rights t_colours t_profiled t_entries t_columns t_maps t_lines t_size t_scanned t_refusedAt t_cursor t_streamAt t_streamMany t_name t_from t_end t_sizeAt t_bitsAt t_colourAt t_colourEnd t_paletteAt t_mapAt t_mapEnd t_channelsAt t_captureAt t_displayAt t_resolved f_t_file 1885564018 x4 O.1 _) (hta _ lk_Mo_163) (hta _ ini_Mo) (hta _ code_Mo_box) code_Mo_box (hta _ inst_Mo_box) (hta _ sel_Mo_box) hd_Mo_box rfl ⟨by omega, by omega⟩ (ci := 7) 0 rfl rfl rfl rfl (by decide) (by decide) (by decide) rfl hl.1 (lv_room (Nat.le_of_ble_eq_true rfl)) d_Mo_addPalette_7 ⟨by omega, by omega⟩ (fun v w1 H locs hw hP hD hS => ?_)
  obtain ⟨x7, hx7, rfl, rfl⟩ := hw
  have hP : va_P D classes [(h_t, .inr (7, (.int t_thrown :: .int t_high :: .int t_wide :: .int t_components :: .ref h_t_bits :: .int t_unknown :: .int t_rights :: .int t_colours :: .int t_profiled :: .ref h_t_profile :: .int t_entries :: .int t_columns :: .ref h_t_columnBits :: .ref h_t_numbers :: .int t_maps :: .ref h_t_map :: .int t_lines :: .ref h_t_line :: .ref h_t_resolutions :: .ref h_t_file :: .int t_size :: .int t_scanned :: .int t_refusedAt :: .int x7.1 :: .int t_streamAt :: .int t_streamMany :: .int t_name :: .int t_from :: .int t_end :: .int t_sizeAt :: .int t_bitsAt :: .int t_colourAt :: .int t_colourEnd :: .int t_paletteAt :: .int t_mapAt :: .int t_mapEnd :: .int t_channelsAt :: .int t_captureAt :: .int t_displayAt :: .int t_resolved :: []))), (h_t_columnBits, .inl (cI, 8, .inl f_t_columnBits)), (h_t_file, .inl (cI, 65536, .inl x7.2)), (h_t_numbers, .inl (cJ, 4096, .inr (.inl f_t_numbers))), (h_t_map, .inl (cI, 48, .inl f_t_map))] H := hP.sub [3, 0, 4, 1, 2] rfl
  have hD : va_D A [(h_t, .inr (7, (.int t_thrown :: .int t_high :: .int t_wide :: .int t_components :: .ref h_t_bits :: .int t_unknown :: .int t_rights :: .int t_colours :: .int t_profiled :: .ref h_t_profile :: .int t_entries :: .int t_columns :: .ref h_t_columnBits :: .ref h_t_numbers :: .int t_maps :: .ref h_t_map :: .int t_lines :: .ref h_t_line :: .ref h_t_resolutions :: .ref h_t_file :: .int t_size :: .int t_scanned :: .int t_refusedAt :: .int x7.1 :: .int t_streamAt :: .int t_streamMany :: .int t_name :: .int t_from :: .int t_end :: .int t_sizeAt :: .int t_bitsAt :: .int t_colourAt :: .int t_colourEnd :: .int t_paletteAt :: .int t_mapAt :: .int t_mapEnd :: .int t_channelsAt :: .int t_captureAt :: .int t_displayAt :: .int t_resolved :: []))), (h_t_columnBits, .inl (cI, 8, .inl f_t_columnBits)), (h_t_file, .inl (cI, 65536, .inl x7.2)), (h_t_numbers, .inl (cJ, 4096, .inr (.inl f_t_numbers))), (h_t_map, .inl (cI, 48, .inl f_t_map))] := hD.sub [3, 0, 4, 1, 2] (by decide) rfl
  refine W.eq (g2 := F0 m 10 ls []) rfl ?_
  have O := O.2
  have E : k_Mo_addPalette_7 t_entries t_columns t_maps f_t_columnBits f_t_numbers f_t_map x7 = RES := (congrArg (k_Mo_addPalette_7 t_entries t_columns t_maps f_t_columnBits f_t_numbers f_t_map) hx7).trans E
  have O : ok_Mo_addPalette_7 t_entries t_columns t_maps f_t_columnBits f_t_numbers f_t_map x7 := by rw [hx7]; exact O
  refine lv_aload_n hx hb d_Mo_addPalette_10 rfl (lv_at hl 0 rfl) ?_
  refine lv_aload_n hx hb d_Mo_addPalette_11 rfl (lv_at hl 0 rfl) ?_
  refine va_get (D := D) (v := .int t_entries) hx hb hta i_Mo hown hK hP 0 rfl rfl 10 (by decide) (hta _ lk_Mo_67) (fun _ h9 => h9) rfl d_Mo_addPalette_12 ?_
  refine lv_i2l (v := (t_entries : Int32).toInt64) hx hb d_Mo_addPalette_15 rfl ?_
  refine lv_iconst (v := 2) hx hb d_Mo_addPalette_16 (by decide) ?_
  refine kc_V (As := [.long ((t_entries : Int32).toInt64), .int 2]) (rest := []) (wr := [(h_t_columnBits, .inl (cI, 8, .inl f_t_columnBits)), (h_t_numbers, .inl (cJ, 4096, .inr (.inl f_t_numbers))), (h_t_map, .inl (cI, 48, .inl f_t_map))]) [0, 2] [1, 3, 4] ⟨hx, hb, hml, hown, hta⟩ hK hN hP hD hS hA (c_Mo_add l D cB cI cJ h_t h_t_bits h_t_profile h_t_columnBits h_t_numbers h_t_map h_t_line h_t_resolutions h_t_file t_thrown t_high t_wide t_components t_unknown t_rights t_colours t_profiled t_entries t_columns t_maps t_lines t_size t_scanned t_refusedAt x7.1 t_streamAt t_streamMany t_name t_from t_end t_sizeAt t_bitsAt t_colourAt t_colourEnd t_paletteAt t_mapAt t_mapEnd t_channelsAt t_captureAt t_displayAt t_resolved x7.2 ((t_entries : Int32).toInt64) 2 O.1 _) (hta _ lk_Mo_153) (hta _ ini_Mo) (hta _ code_Mo_add) code_Mo_add (hta _ inst_Mo_add) (hta _ sel_Mo_add) hd_Mo_add rfl ⟨by omega, by omega⟩ (ci := 7) 0 rfl rfl rfl rfl (by decide) (by decide) (by decide) rfl hl.1 (lv_room (Nat.le_of_ble_eq_true rfl)) d_Mo_addPalette_17 ⟨by omega, by omega⟩ (fun v w1 H locs hw hP hD hS => ?_)
  obtain ⟨x17, hx17, rfl, rfl⟩ := hw
  have hP : va_P D classes [(h_t, .inr (7, (.int t_thrown :: .int t_high :: .int t_wide :: .int t_components :: .ref h_t_bits :: .int t_unknown :: .int t_rights :: .int t_colours :: .int t_profiled :: .ref h_t_profile :: .int t_entries :: .int t_columns :: .ref h_t_columnBits :: .ref h_t_numbers :: .int t_maps :: .ref h_t_map :: .int t_lines :: .ref h_t_line :: .ref h_t_resolutions :: .ref h_t_file :: .int t_size :: .int t_scanned :: .int t_refusedAt :: .int x17.1 :: .int t_streamAt :: .int t_streamMany :: .int t_name :: .int t_from :: .int t_end :: .int t_sizeAt :: .int t_bitsAt :: .int t_colourAt :: .int t_colourEnd :: .int t_paletteAt :: .int t_mapAt :: .int t_mapEnd :: .int t_channelsAt :: .int t_captureAt :: .int t_displayAt :: .int t_resolved :: []))), (h_t_columnBits, .inl (cI, 8, .inl f_t_columnBits)), (h_t_file, .inl (cI, 65536, .inl x17.2)), (h_t_numbers, .inl (cJ, 4096, .inr (.inl f_t_numbers))), (h_t_map, .inl (cI, 48, .inl f_t_map))] H := hP.sub [3, 0, 4, 1, 2] rfl
  have hD : va_D A [(h_t, .inr (7, (.int t_thrown :: .int t_high :: .int t_wide :: .int t_components :: .ref h_t_bits :: .int t_unknown :: .int t_rights :: .int t_colours :: .int t_profiled :: .ref h_t_profile :: .int t_entries :: .int t_columns :: .ref h_t_columnBits :: .ref h_t_numbers :: .int t_maps :: .ref h_t_map :: .int t_lines :: .ref h_t_line :: .ref h_t_resolutions :: .ref h_t_file :: .int t_size :: .int t_scanned :: .int t_refusedAt :: .int x17.1 :: .int t_streamAt :: .int t_streamMany :: .int t_name :: .int t_from :: .int t_end :: .int t_sizeAt :: .int t_bitsAt :: .int t_colourAt :: .int t_colourEnd :: .int t_paletteAt :: .int t_mapAt :: .int t_mapEnd :: .int t_channelsAt :: .int t_captureAt :: .int t_displayAt :: .int t_resolved :: []))), (h_t_columnBits, .inl (cI, 8, .inl f_t_columnBits)), (h_t_file, .inl (cI, 65536, .inl x17.2)), (h_t_numbers, .inl (cJ, 4096, .inr (.inl f_t_numbers))), (h_t_map, .inl (cI, 48, .inl f_t_map))] := hD.sub [3, 0, 4, 1, 2] (by decide) rfl
  refine W.eq (g2 := F0 m 20 ls []) rfl ?_
  have O := O.2
  have E : k_Mo_addPalette_17 t_entries t_columns t_maps f_t_columnBits f_t_numbers f_t_map x17 = RES := (congrArg (k_Mo_addPalette_17 t_entries t_columns t_maps f_t_columnBits f_t_numbers f_t_map) hx17).trans E
  have O : ok_Mo_addPalette_17 t_entries t_columns t_maps f_t_columnBits f_t_numbers f_t_map x17 := by rw [hx17]; exact O
  refine lv_aload_n hx hb d_Mo_addPalette_20 rfl (lv_at hl 0 rfl) ?_
  refine lv_aload_n hx hb d_Mo_addPalette_21 rfl (lv_at hl 0 rfl) ?_
  refine va_get (D := D) (v := .int t_columns) hx hb hta i_Mo hown hK hP 0 rfl rfl 11 (by decide) (hta _ lk_Mo_70) (fun _ h9 => h9) rfl d_Mo_addPalette_22 ?_
  refine lv_i2l (v := (t_columns : Int32).toInt64) hx hb d_Mo_addPalette_25 rfl ?_
  refine lv_iconst (v := 1) hx hb d_Mo_addPalette_26 (by decide) ?_
  refine kc_V (As := [.long ((t_columns : Int32).toInt64), .int 1]) (rest := []) (wr := [(h_t_columnBits, .inl (cI, 8, .inl f_t_columnBits)), (h_t_numbers, .inl (cJ, 4096, .inr (.inl f_t_numbers))), (h_t_map, .inl (cI, 48, .inl f_t_map))]) [0, 2] [1, 3, 4] ⟨hx, hb, hml, hown, hta⟩ hK hN hP hD hS hA (c_Mo_add l D cB cI cJ h_t h_t_bits h_t_profile h_t_columnBits h_t_numbers h_t_map h_t_line h_t_resolutions h_t_file t_thrown t_high t_wide t_components t_unknown t_rights t_colours t_profiled t_entries t_columns t_maps t_lines t_size t_scanned t_refusedAt x17.1 t_streamAt t_streamMany t_name t_from t_end t_sizeAt t_bitsAt t_colourAt t_colourEnd t_paletteAt t_mapAt t_mapEnd t_channelsAt t_captureAt t_displayAt t_resolved x17.2 ((t_columns : Int32).toInt64) 1 O.1 _) (hta _ lk_Mo_153) (hta _ ini_Mo) (hta _ code_Mo_add) code_Mo_add (hta _ inst_Mo_add) (hta _ sel_Mo_add) hd_Mo_add rfl ⟨by omega, by omega⟩ (ci := 7) 0 rfl rfl rfl rfl (by decide) (by decide) (by decide) rfl hl.1 (lv_room (Nat.le_of_ble_eq_true rfl)) d_Mo_addPalette_27 ⟨by omega, by omega⟩ (fun v w1 H locs hw hP hD hS => ?_)
  obtain ⟨x27, hx27, rfl, rfl⟩ := hw
  have hP : va_P D classes [(h_t, .inr (7, (.int t_thrown :: .int t_high :: .int t_wide :: .int t_components :: .ref h_t_bits :: .int t_unknown :: .int t_rights :: .int t_colours :: .int t_profiled :: .ref h_t_profile :: .int t_entries :: .int t_columns :: .ref h_t_columnBits :: .ref h_t_numbers :: .int t_maps :: .ref h_t_map :: .int t_lines :: .ref h_t_line :: .ref h_t_resolutions :: .ref h_t_file :: .int t_size :: .int t_scanned :: .int t_refusedAt :: .int x27.1 :: .int t_streamAt :: .int t_streamMany :: .int t_name :: .int t_from :: .int t_end :: .int t_sizeAt :: .int t_bitsAt :: .int t_colourAt :: .int t_colourEnd :: .int t_paletteAt :: .int t_mapAt :: .int t_mapEnd :: .int t_channelsAt :: .int t_captureAt :: .int t_displayAt :: .int t_resolved :: []))), (h_t_columnBits, .inl (cI, 8, .inl f_t_columnBits)), (h_t_file, .inl (cI, 65536, .inl x27.2)), (h_t_numbers, .inl (cJ, 4096, .inr (.inl f_t_numbers))), (h_t_map, .inl (cI, 48, .inl f_t_map))] H := hP.sub [3, 0, 4, 1, 2] rfl
  have hD : va_D A [(h_t, .inr (7, (.int t_thrown :: .int t_high :: .int t_wide :: .int t_components :: .ref h_t_bits :: .int t_unknown :: .int t_rights :: .int t_colours :: .int t_profiled :: .ref h_t_profile :: .int t_entries :: .int t_columns :: .ref h_t_columnBits :: .ref h_t_numbers :: .int t_maps :: .ref h_t_map :: .int t_lines :: .ref h_t_line :: .ref h_t_resolutions :: .ref h_t_file :: .int t_size :: .int t_scanned :: .int t_refusedAt :: .int x27.1 :: .int t_streamAt :: .int t_streamMany :: .int t_name :: .int t_from :: .int t_end :: .int t_sizeAt :: .int t_bitsAt :: .int t_colourAt :: .int t_colourEnd :: .int t_paletteAt :: .int t_mapAt :: .int t_mapEnd :: .int t_channelsAt :: .int t_captureAt :: .int t_displayAt :: .int t_resolved :: []))), (h_t_columnBits, .inl (cI, 8, .inl f_t_columnBits)), (h_t_file, .inl (cI, 65536, .inl x27.2)), (h_t_numbers, .inl (cJ, 4096, .inr (.inl f_t_numbers))), (h_t_map, .inl (cI, 48, .inl f_t_map))] := hD.sub [3, 0, 4, 1, 2] (by decide) rfl
  refine W.eq (g2 := F0 m 30 ls []) rfl ?_
  have O := O.2
  have E : k_Mo_addPalette_27 t_entries t_columns t_maps f_t_columnBits f_t_numbers f_t_map x27 = RES := (congrArg (k_Mo_addPalette_27 t_entries t_columns t_maps f_t_columnBits f_t_numbers f_t_map) hx27).trans E
  have O : ok_Mo_addPalette_27 t_entries t_columns t_maps f_t_columnBits f_t_numbers f_t_map x27 := by rw [hx27]; exact O
  refine lv_iconst (v := 0) hx hb d_Mo_addPalette_30 (by decide) ?_
  refine lv_istore_n (lv' := [(1, .int 0), (0, .ref h_t)]) hx hb d_Mo_addPalette_31 rfl hl (by decide) rfl (fun ls hl => ?_)
  have L_32 : ∀ (n : Nat) (v32_1 : Int32) (v32_t_cursor : Int32) (v32_t_file : Nat → Int32), (t_columns.toInt - v32_1.toInt).toNat < n → lp_Mo_addPalette_32 t_entries t_columns t_maps f_t_columnBits f_t_numbers f_t_map n v32_1 v32_t_cursor v32_t_file = RES → olp_Mo_addPalette_32 t_entries t_columns t_maps f_t_columnBits f_t_numbers f_t_map n v32_1 v32_t_cursor v32_t_file → ∀ (H : Heap) (locs : List Loc), va_P D classes [(h_t, .inr (7, (.int t_thrown :: .int t_high :: .int t_wide :: .int t_components :: .ref h_t_bits :: .int t_unknown :: .int t_rights :: .int t_colours :: .int t_profiled :: .ref h_t_profile :: .int t_entries :: .int t_columns :: .ref h_t_columnBits :: .ref h_t_numbers :: .int t_maps :: .ref h_t_map :: .int t_lines :: .ref h_t_line :: .ref h_t_resolutions :: .ref h_t_file :: .int t_size :: .int t_scanned :: .int t_refusedAt :: .int v32_t_cursor :: .int t_streamAt :: .int t_streamMany :: .int t_name :: .int t_from :: .int t_end :: .int t_sizeAt :: .int t_bitsAt :: .int t_colourAt :: .int t_colourEnd :: .int t_paletteAt :: .int t_mapAt :: .int t_mapEnd :: .int t_channelsAt :: .int t_captureAt :: .int t_displayAt :: .int t_resolved :: []))), (h_t_columnBits, .inl (cI, 8, .inl f_t_columnBits)), (h_t_file, .inl (cI, 65536, .inl v32_t_file)), (h_t_numbers, .inl (cJ, 4096, .inr (.inl f_t_numbers))), (h_t_map, .inl (cI, 48, .inl f_t_map))] H → va_D A [(h_t, .inr (7, (.int t_thrown :: .int t_high :: .int t_wide :: .int t_components :: .ref h_t_bits :: .int t_unknown :: .int t_rights :: .int t_colours :: .int t_profiled :: .ref h_t_profile :: .int t_entries :: .int t_columns :: .ref h_t_columnBits :: .ref h_t_numbers :: .int t_maps :: .ref h_t_map :: .int t_lines :: .ref h_t_line :: .ref h_t_resolutions :: .ref h_t_file :: .int t_size :: .int t_scanned :: .int t_refusedAt :: .int v32_t_cursor :: .int t_streamAt :: .int t_streamMany :: .int t_name :: .int t_from :: .int t_end :: .int t_sizeAt :: .int t_bitsAt :: .int t_colourAt :: .int t_colourEnd :: .int t_paletteAt :: .int t_mapAt :: .int t_mapEnd :: .int t_channelsAt :: .int t_captureAt :: .int t_displayAt :: .int t_resolved :: []))), (h_t_columnBits, .inl (cI, 8, .inl f_t_columnBits)), (h_t_file, .inl (cI, 65536, .inl v32_t_file)), (h_t_numbers, .inl (cJ, 4096, .inr (.inl f_t_numbers))), (h_t_map, .inl (cI, 48, .inl f_t_map))] → va_S A s.heap H locs → ∀ ls : Array Slot, lv_has ls 5 [(1, .int v32_1), (0, .ref h_t)] → W p l e R s m args below meth c H locs 0 0 Q (F0 m 32 ls []) := by
    intro n
    induction n with
    | zero => intro v32_1 v32_t_cursor v32_t_file hlt; exact absurd hlt (Nat.not_lt_zero _)
    | succ n ih =>
      intro v32_1 v32_t_cursor v32_t_file hlt_32 E O H locs hP hD hS ls hl
      have E : lb_Mo_addPalette_32 t_entries t_columns t_maps f_t_columnBits f_t_numbers f_t_map (lp_Mo_addPalette_32 t_entries t_columns t_maps f_t_columnBits f_t_numbers f_t_map n) v32_1 v32_t_cursor v32_t_file = RES := E
      have O : olb_Mo_addPalette_32 t_entries t_columns t_maps f_t_columnBits f_t_numbers f_t_map (olp_Mo_addPalette_32 t_entries t_columns t_maps f_t_columnBits f_t_numbers f_t_map n) v32_1 v32_t_cursor v32_t_file := O
      generalize lp_Mo_addPalette_32 t_entries t_columns t_maps f_t_columnBits f_t_numbers f_t_map n = kk_32 at ih E
      generalize olp_Mo_addPalette_32 t_entries t_columns t_maps f_t_columnBits f_t_numbers f_t_map n = okk_32 at ih O
      have ih_32 := ih
      clear ih
      refine lv_iload_n hx hb d_Mo_addPalette_32 rfl (lv_at hl 0 rfl) ?_
      refine lv_aload_n hx hb d_Mo_addPalette_33 rfl (lv_at hl 1 rfl) ?_
      refine va_get (D := D) (v := .int t_columns) hx hb hta i_Mo hown hK hP 0 rfl rfl 11 (by decide) (hta _ lk_Mo_70) (fun _ h9 => h9) rfl d_Mo_addPalette_34 ?_
      refine lv_icmp_ge (tgt := 58) hx hb d_Mo_addPalette_37 (by decide) (fun c_37 => ?_) (fun c_37 => ?_)
      · have E := (if_pos c_37).symm.trans E
        have O := Eq.mp (if_pos c_37) O
        refine lv_iconst (v := 0) hx hb d_Mo_addPalette_58 (by decide) ?_
        refine lv_istore_n (lv' := [(1, .int 0), (0, .ref h_t)]) hx hb d_Mo_addPalette_59 rfl hl (by decide) rfl (fun ls hl => ?_)
        have L_60 : ∀ (n : Nat) (v60_1 : Int32) (v60_t_cursor : Int32) (v60_t_file : Nat → Int32), (t_entries.toInt - v60_1.toInt).toNat < n → lp_Mo_addPalette_60 t_entries t_columns t_maps f_t_columnBits f_t_numbers f_t_map n v60_1 v60_t_cursor v60_t_file = RES → olp_Mo_addPalette_60 t_entries t_columns t_maps f_t_columnBits f_t_numbers f_t_map n v60_1 v60_t_cursor v60_t_file → ∀ (H : Heap) (locs : List Loc), va_P D classes [(h_t, .inr (7, (.int t_thrown :: .int t_high :: .int t_wide :: .int t_components :: .ref h_t_bits :: .int t_unknown :: .int t_rights :: .int t_colours :: .int t_profiled :: .ref h_t_profile :: .int t_entries :: .int t_columns :: .ref h_t_columnBits :: .ref h_t_numbers :: .int t_maps :: .ref h_t_map :: .int t_lines :: .ref h_t_line :: .ref h_t_resolutions :: .ref h_t_file :: .int t_size :: .int t_scanned :: .int t_refusedAt :: .int v60_t_cursor :: .int t_streamAt :: .int t_streamMany :: .int t_name :: .int t_from :: .int t_end :: .int t_sizeAt :: .int t_bitsAt :: .int t_colourAt :: .int t_colourEnd :: .int t_paletteAt :: .int t_mapAt :: .int t_mapEnd :: .int t_channelsAt :: .int t_captureAt :: .int t_displayAt :: .int t_resolved :: []))), (h_t_columnBits, .inl (cI, 8, .inl f_t_columnBits)), (h_t_file, .inl (cI, 65536, .inl v60_t_file)), (h_t_numbers, .inl (cJ, 4096, .inr (.inl f_t_numbers))), (h_t_map, .inl (cI, 48, .inl f_t_map))] H → va_D A [(h_t, .inr (7, (.int t_thrown :: .int t_high :: .int t_wide :: .int t_components :: .ref h_t_bits :: .int t_unknown :: .int t_rights :: .int t_colours :: .int t_profiled :: .ref h_t_profile :: .int t_entries :: .int t_columns :: .ref h_t_columnBits :: .ref h_t_numbers :: .int t_maps :: .ref h_t_map :: .int t_lines :: .ref h_t_line :: .ref h_t_resolutions :: .ref h_t_file :: .int t_size :: .int t_scanned :: .int t_refusedAt :: .int v60_t_cursor :: .int t_streamAt :: .int t_streamMany :: .int t_name :: .int t_from :: .int t_end :: .int t_sizeAt :: .int t_bitsAt :: .int t_colourAt :: .int t_colourEnd :: .int t_paletteAt :: .int t_mapAt :: .int t_mapEnd :: .int t_channelsAt :: .int t_captureAt :: .int t_displayAt :: .int t_resolved :: []))), (h_t_columnBits, .inl (cI, 8, .inl f_t_columnBits)), (h_t_file, .inl (cI, 65536, .inl v60_t_file)), (h_t_numbers, .inl (cJ, 4096, .inr (.inl f_t_numbers))), (h_t_map, .inl (cI, 48, .inl f_t_map))] → va_S A s.heap H locs → ∀ ls : Array Slot, lv_has ls 5 [(1, .int v60_1), (0, .ref h_t)] → W p l e R s m args below meth c H locs 0 0 Q (F0 m 60 ls []) := by
          intro n
          induction n with
          | zero => intro v60_1 v60_t_cursor v60_t_file hlt; exact absurd hlt (Nat.not_lt_zero _)
          | succ n ih =>
            intro v60_1 v60_t_cursor v60_t_file hlt_60 E O H locs hP hD hS ls hl
            have E : lb_Mo_addPalette_60 t_entries t_columns t_maps f_t_columnBits f_t_numbers f_t_map (lp_Mo_addPalette_60 t_entries t_columns t_maps f_t_columnBits f_t_numbers f_t_map n) v60_1 v60_t_cursor v60_t_file = RES := E
            have O : olb_Mo_addPalette_60 t_entries t_columns t_maps f_t_columnBits f_t_numbers f_t_map (olp_Mo_addPalette_60 t_entries t_columns t_maps f_t_columnBits f_t_numbers f_t_map n) v60_1 v60_t_cursor v60_t_file := O
            generalize lp_Mo_addPalette_60 t_entries t_columns t_maps f_t_columnBits f_t_numbers f_t_map n = kk_60 at ih E
            generalize olp_Mo_addPalette_60 t_entries t_columns t_maps f_t_columnBits f_t_numbers f_t_map n = okk_60 at ih O
            have ih_60 := ih
            clear ih
            refine lv_iload_n hx hb d_Mo_addPalette_60 rfl (lv_at hl 0 rfl) ?_
            refine lv_aload_n hx hb d_Mo_addPalette_61 rfl (lv_at hl 1 rfl) ?_
            refine va_get (D := D) (v := .int t_entries) hx hb hta i_Mo hown hK hP 0 rfl rfl 10 (by decide) (hta _ lk_Mo_67) (fun _ h9 => h9) rfl d_Mo_addPalette_62 ?_
            refine lv_icmp_ge (tgt := 134) hx hb d_Mo_addPalette_65 (by decide) (fun c_65 => ?_) (fun c_65 => ?_)
            · have E := (if_pos c_65).symm.trans E
              have O := Eq.mp (if_pos c_65) O
              refine lv_aload_n hx hb d_Mo_addPalette_134 rfl (lv_at hl 1 rfl) ?_
              refine lv_ldc (v := 1668112752) hx hb hown (hta _ lk_Mo_172) d_Mo_addPalette_135 ?_
              refine lv_iconst (v := 4) hx hb d_Mo_addPalette_137 (by decide) ?_
              refine lv_aload_n hx hb d_Mo_addPalette_138 rfl (lv_at hl 1 rfl) ?_
              refine va_get (D := D) (v := .int t_maps) hx hb hta i_Mo hown hK hP 0 rfl rfl 14 (by decide) (hta _ lk_Mo_73) (fun _ h9 => h9) rfl d_Mo_addPalette_139 ?_
              refine lv_imul hx hb d_Mo_addPalette_142 ?_
              refine kc_V (As := [.int 1668112752, .int (4 * t_maps)]) (rest := []) (wr := [(h_t_columnBits, .inl (cI, 8, .inl f_t_columnBits)), (h_t_numbers, .inl (cJ, 4096, .inr (.inl f_t_numbers))), (h_t_map, .inl (cI, 48, .inl f_t_map))]) [0, 2] [1, 3, 4] ⟨hx, hb, hml, hown, hta⟩ hK hN hP hD hS hA (c_Mo_box l D cB cI cJ h_t h_t_bits h_t_profile h_t_columnBits h_t_numbers h_t_map h_t_line h_t_resolutions h_t_file t_thrown t_high t_wide t_components t_unknown t_rights t_colours t_profiled t_entries t_columns t_maps t_lines t_size t_scanned t_refusedAt v60_t_cursor t_streamAt t_streamMany t_name t_from t_end t_sizeAt t_bitsAt t_colourAt t_colourEnd t_paletteAt t_mapAt t_mapEnd t_channelsAt t_captureAt t_displayAt t_resolved v60_t_file 1668112752 (4 * t_maps) O.1 _) (hta _ lk_Mo_163) (hta _ ini_Mo) (hta _ code_Mo_box) code_Mo_box (hta _ inst_Mo_box) (hta _ sel_Mo_box) hd_Mo_box rfl ⟨by omega, by omega⟩ (ci := 7) 0 rfl rfl rfl rfl (by decide) (by decide) (by decide) rfl hl.1 (lv_room (Nat.le_of_ble_eq_true rfl)) d_Mo_addPalette_143 ⟨by omega, by omega⟩ (fun v w1 H locs hw hP hD hS => ?_)
              obtain ⟨x143, hx143, rfl, rfl⟩ := hw
              have hP : va_P D classes [(h_t, .inr (7, (.int t_thrown :: .int t_high :: .int t_wide :: .int t_components :: .ref h_t_bits :: .int t_unknown :: .int t_rights :: .int t_colours :: .int t_profiled :: .ref h_t_profile :: .int t_entries :: .int t_columns :: .ref h_t_columnBits :: .ref h_t_numbers :: .int t_maps :: .ref h_t_map :: .int t_lines :: .ref h_t_line :: .ref h_t_resolutions :: .ref h_t_file :: .int t_size :: .int t_scanned :: .int t_refusedAt :: .int x143.1 :: .int t_streamAt :: .int t_streamMany :: .int t_name :: .int t_from :: .int t_end :: .int t_sizeAt :: .int t_bitsAt :: .int t_colourAt :: .int t_colourEnd :: .int t_paletteAt :: .int t_mapAt :: .int t_mapEnd :: .int t_channelsAt :: .int t_captureAt :: .int t_displayAt :: .int t_resolved :: []))), (h_t_columnBits, .inl (cI, 8, .inl f_t_columnBits)), (h_t_file, .inl (cI, 65536, .inl x143.2)), (h_t_numbers, .inl (cJ, 4096, .inr (.inl f_t_numbers))), (h_t_map, .inl (cI, 48, .inl f_t_map))] H := hP.sub [3, 0, 4, 1, 2] rfl
              have hD : va_D A [(h_t, .inr (7, (.int t_thrown :: .int t_high :: .int t_wide :: .int t_components :: .ref h_t_bits :: .int t_unknown :: .int t_rights :: .int t_colours :: .int t_profiled :: .ref h_t_profile :: .int t_entries :: .int t_columns :: .ref h_t_columnBits :: .ref h_t_numbers :: .int t_maps :: .ref h_t_map :: .int t_lines :: .ref h_t_line :: .ref h_t_resolutions :: .ref h_t_file :: .int t_size :: .int t_scanned :: .int t_refusedAt :: .int x143.1 :: .int t_streamAt :: .int t_streamMany :: .int t_name :: .int t_from :: .int t_end :: .int t_sizeAt :: .int t_bitsAt :: .int t_colourAt :: .int t_colourEnd :: .int t_paletteAt :: .int t_mapAt :: .int t_mapEnd :: .int t_channelsAt :: .int t_captureAt :: .int t_displayAt :: .int t_resolved :: []))), (h_t_columnBits, .inl (cI, 8, .inl f_t_columnBits)), (h_t_file, .inl (cI, 65536, .inl x143.2)), (h_t_numbers, .inl (cJ, 4096, .inr (.inl f_t_numbers))), (h_t_map, .inl (cI, 48, .inl f_t_map))] := hD.sub [3, 0, 4, 1, 2] (by decide) rfl
              refine W.eq (g2 := F0 m 146 ls []) rfl ?_
              have O := O.2
              have E : k_Mo_addPalette_143 t_maps f_t_map x143 = RES := (congrArg (k_Mo_addPalette_143 t_maps f_t_map) hx143).trans E
              have O : ok_Mo_addPalette_143 t_maps f_t_map x143 := by rw [hx143]; exact O
              refine lv_iconst (v := 0) hx hb d_Mo_addPalette_146 (by decide) ?_
              refine lv_istore_n (lv' := [(1, .int 0), (0, .ref h_t)]) hx hb d_Mo_addPalette_147 rfl hl (by decide) rfl (fun ls hl => ?_)
              have L_148 : ∀ (n : Nat) (v148_1 : Int32) (v148_t_cursor : Int32) (v148_t_file : Nat → Int32), (t_maps.toInt - v148_1.toInt).toNat < n → lp_Mo_addPalette_148 t_maps f_t_map n v148_1 v148_t_cursor v148_t_file = RES → olp_Mo_addPalette_148 t_maps f_t_map n v148_1 v148_t_cursor v148_t_file → ∀ (H : Heap) (locs : List Loc), va_P D classes [(h_t, .inr (7, (.int t_thrown :: .int t_high :: .int t_wide :: .int t_components :: .ref h_t_bits :: .int t_unknown :: .int t_rights :: .int t_colours :: .int t_profiled :: .ref h_t_profile :: .int t_entries :: .int t_columns :: .ref h_t_columnBits :: .ref h_t_numbers :: .int t_maps :: .ref h_t_map :: .int t_lines :: .ref h_t_line :: .ref h_t_resolutions :: .ref h_t_file :: .int t_size :: .int t_scanned :: .int t_refusedAt :: .int v148_t_cursor :: .int t_streamAt :: .int t_streamMany :: .int t_name :: .int t_from :: .int t_end :: .int t_sizeAt :: .int t_bitsAt :: .int t_colourAt :: .int t_colourEnd :: .int t_paletteAt :: .int t_mapAt :: .int t_mapEnd :: .int t_channelsAt :: .int t_captureAt :: .int t_displayAt :: .int t_resolved :: []))), (h_t_columnBits, .inl (cI, 8, .inl f_t_columnBits)), (h_t_file, .inl (cI, 65536, .inl v148_t_file)), (h_t_numbers, .inl (cJ, 4096, .inr (.inl f_t_numbers))), (h_t_map, .inl (cI, 48, .inl f_t_map))] H → va_D A [(h_t, .inr (7, (.int t_thrown :: .int t_high :: .int t_wide :: .int t_components :: .ref h_t_bits :: .int t_unknown :: .int t_rights :: .int t_colours :: .int t_profiled :: .ref h_t_profile :: .int t_entries :: .int t_columns :: .ref h_t_columnBits :: .ref h_t_numbers :: .int t_maps :: .ref h_t_map :: .int t_lines :: .ref h_t_line :: .ref h_t_resolutions :: .ref h_t_file :: .int t_size :: .int t_scanned :: .int t_refusedAt :: .int v148_t_cursor :: .int t_streamAt :: .int t_streamMany :: .int t_name :: .int t_from :: .int t_end :: .int t_sizeAt :: .int t_bitsAt :: .int t_colourAt :: .int t_colourEnd :: .int t_paletteAt :: .int t_mapAt :: .int t_mapEnd :: .int t_channelsAt :: .int t_captureAt :: .int t_displayAt :: .int t_resolved :: []))), (h_t_columnBits, .inl (cI, 8, .inl f_t_columnBits)), (h_t_file, .inl (cI, 65536, .inl v148_t_file)), (h_t_numbers, .inl (cJ, 4096, .inr (.inl f_t_numbers))), (h_t_map, .inl (cI, 48, .inl f_t_map))] → va_S A s.heap H locs → ∀ ls : Array Slot, lv_has ls 5 [(1, .int v148_1), (0, .ref h_t)] → W p l e R s m args below meth c H locs 0 0 Q (F0 m 148 ls []) := by
                intro n
                induction n with
                | zero => intro v148_1 v148_t_cursor v148_t_file hlt; exact absurd hlt (Nat.not_lt_zero _)
                | succ n ih =>
                  intro v148_1 v148_t_cursor v148_t_file hlt_148 E O H locs hP hD hS ls hl
                  have E : lb_Mo_addPalette_148 t_maps f_t_map (lp_Mo_addPalette_148 t_maps f_t_map n) v148_1 v148_t_cursor v148_t_file = RES := E
                  have O : olb_Mo_addPalette_148 t_maps f_t_map (olp_Mo_addPalette_148 t_maps f_t_map n) v148_1 v148_t_cursor v148_t_file := O
                  generalize lp_Mo_addPalette_148 t_maps f_t_map n = kk_148 at ih E
                  generalize olp_Mo_addPalette_148 t_maps f_t_map n = okk_148 at ih O
                  have ih_148 := ih
                  clear ih
                  refine lv_iload_n hx hb d_Mo_addPalette_148 rfl (lv_at hl 0 rfl) ?_
                  refine lv_aload_n hx hb d_Mo_addPalette_149 rfl (lv_at hl 1 rfl) ?_
                  refine va_get (D := D) (v := .int t_maps) hx hb hta i_Mo hown hK hP 0 rfl rfl 14 (by decide) (hta _ lk_Mo_73) (fun _ h9 => h9) rfl d_Mo_addPalette_150 ?_
                  refine lv_icmp_ge (tgt := 208) hx hb d_Mo_addPalette_153 (by decide) (fun c_153 => ?_) (fun c_153 => ?_)
                  · have E := (if_pos c_153).symm.trans E
                    have O := Eq.mp (if_pos c_153) O
                    exact kr_v hx hb hr hlk hQ hK hP hD hS ⟨((v148_t_cursor, v148_t_file) : Int32 × (Nat → Int32)), E.trans E0.symm, rfl, rfl⟩ (by omega) (by omega) d_Mo_addPalette_208
                  · have E := (if_neg c_153).symm.trans E
                    have O := Eq.mp (if_neg c_153) O
                    refine lv_aload_n hx hb d_Mo_addPalette_156 rfl (lv_at hl 1 rfl) ?_
                    refine lv_aload_n hx hb d_Mo_addPalette_157 rfl (lv_at hl 1 rfl) ?_
                    refine va_get (D := D) (v := .ref h_t_map) hx hb hta i_Mo hown hK hP 0 rfl rfl 15 (by decide) (hta _ lk_Mo_27) (fun _ h9 => h9) rfl d_Mo_addPalette_158 ?_
                    refine lv_iconst (v := 3) hx hb d_Mo_addPalette_161 (by decide) ?_
                    refine lv_iload_n hx hb d_Mo_addPalette_162 rfl (lv_at hl 0 rfl) ?_
                    refine lv_imul hx hb d_Mo_addPalette_163 ?_
                    refine va_iald hx hb hK hP 4 1 rfl rfl O.1 d_Mo_addPalette_164 ?_
                    have O := O.2
                    refine lv_i2l (v := (f_t_map (3 * v148_1).toNatClampNeg : Int32).toInt64) hx hb d_Mo_addPalette_165 rfl ?_
                    refine lv_iconst (v := 2) hx hb d_Mo_addPalette_166 (by decide) ?_
                    refine kc_V (As := [.long ((f_t_map (3 * v148_1).toNatClampNeg : Int32).toInt64), .int 2]) (rest := []) (wr := [(h_t_columnBits, .inl (cI, 8, .inl f_t_columnBits)), (h_t_numbers, .inl (cJ, 4096, .inr (.inl f_t_numbers))), (h_t_map, .inl (cI, 48, .inl f_t_map))]) [0, 2] [1, 3, 4] ⟨hx, hb, hml, hown, hta⟩ hK hN hP hD hS hA (c_Mo_add l D cB cI cJ h_t h_t_bits h_t_profile h_t_columnBits h_t_numbers h_t_map h_t_line h_t_resolutions h_t_file t_thrown t_high t_wide t_components t_unknown t_rights t_colours t_profiled t_entries t_columns t_maps t_lines t_size t_scanned t_refusedAt v148_t_cursor t_streamAt t_streamMany t_name t_from t_end t_sizeAt t_bitsAt t_colourAt t_colourEnd t_paletteAt t_mapAt t_mapEnd t_channelsAt t_captureAt t_displayAt t_resolved v148_t_file ((f_t_map (3 * v148_1).toNatClampNeg : Int32).toInt64) 2 O.1 _) (hta _ lk_Mo_153) (hta _ ini_Mo) (hta _ code_Mo_add) code_Mo_add (hta _ inst_Mo_add) (hta _ sel_Mo_add) hd_Mo_add rfl ⟨by omega, by omega⟩ (ci := 7) 0 rfl rfl rfl rfl (by decide) (by decide) (by decide) rfl hl.1 (lv_room (Nat.le_of_ble_eq_true rfl)) d_Mo_addPalette_167 ⟨by omega, by omega⟩ (fun v w1 H locs hw hP hD hS => ?_)
                    obtain ⟨x167, hx167, rfl, rfl⟩ := hw
                    have hP : va_P D classes [(h_t, .inr (7, (.int t_thrown :: .int t_high :: .int t_wide :: .int t_components :: .ref h_t_bits :: .int t_unknown :: .int t_rights :: .int t_colours :: .int t_profiled :: .ref h_t_profile :: .int t_entries :: .int t_columns :: .ref h_t_columnBits :: .ref h_t_numbers :: .int t_maps :: .ref h_t_map :: .int t_lines :: .ref h_t_line :: .ref h_t_resolutions :: .ref h_t_file :: .int t_size :: .int t_scanned :: .int t_refusedAt :: .int x167.1 :: .int t_streamAt :: .int t_streamMany :: .int t_name :: .int t_from :: .int t_end :: .int t_sizeAt :: .int t_bitsAt :: .int t_colourAt :: .int t_colourEnd :: .int t_paletteAt :: .int t_mapAt :: .int t_mapEnd :: .int t_channelsAt :: .int t_captureAt :: .int t_displayAt :: .int t_resolved :: []))), (h_t_columnBits, .inl (cI, 8, .inl f_t_columnBits)), (h_t_file, .inl (cI, 65536, .inl x167.2)), (h_t_numbers, .inl (cJ, 4096, .inr (.inl f_t_numbers))), (h_t_map, .inl (cI, 48, .inl f_t_map))] H := hP.sub [3, 0, 4, 1, 2] rfl
                    have hD : va_D A [(h_t, .inr (7, (.int t_thrown :: .int t_high :: .int t_wide :: .int t_components :: .ref h_t_bits :: .int t_unknown :: .int t_rights :: .int t_colours :: .int t_profiled :: .ref h_t_profile :: .int t_entries :: .int t_columns :: .ref h_t_columnBits :: .ref h_t_numbers :: .int t_maps :: .ref h_t_map :: .int t_lines :: .ref h_t_line :: .ref h_t_resolutions :: .ref h_t_file :: .int t_size :: .int t_scanned :: .int t_refusedAt :: .int x167.1 :: .int t_streamAt :: .int t_streamMany :: .int t_name :: .int t_from :: .int t_end :: .int t_sizeAt :: .int t_bitsAt :: .int t_colourAt :: .int t_colourEnd :: .int t_paletteAt :: .int t_mapAt :: .int t_mapEnd :: .int t_channelsAt :: .int t_captureAt :: .int t_displayAt :: .int t_resolved :: []))), (h_t_columnBits, .inl (cI, 8, .inl f_t_columnBits)), (h_t_file, .inl (cI, 65536, .inl x167.2)), (h_t_numbers, .inl (cJ, 4096, .inr (.inl f_t_numbers))), (h_t_map, .inl (cI, 48, .inl f_t_map))] := hD.sub [3, 0, 4, 1, 2] (by decide) rfl
                    refine W.eq (g2 := F0 m 170 ls []) rfl ?_
                    have O := O.2
                    have E : k_Mo_addPalette_167 f_t_map kk_148 v148_1 x167 = RES := (congrArg (k_Mo_addPalette_167 f_t_map kk_148 v148_1) hx167).trans E
                    have O : ok_Mo_addPalette_167 f_t_map okk_148 v148_1 x167 := by rw [hx167]; exact O
                    refine lv_aload_n hx hb d_Mo_addPalette_170 rfl (lv_at hl 1 rfl) ?_
                    refine lv_aload_n hx hb d_Mo_addPalette_171 rfl (lv_at hl 1 rfl) ?_
                    refine va_get (D := D) (v := .ref h_t_map) hx hb hta i_Mo hown hK hP 0 rfl rfl 15 (by decide) (hta _ lk_Mo_27) (fun _ h9 => h9) rfl d_Mo_addPalette_172 ?_
                    refine lv_iconst (v := 3) hx hb d_Mo_addPalette_175 (by decide) ?_
                    refine lv_iload_n hx hb d_Mo_addPalette_176 rfl (lv_at hl 0 rfl) ?_
                    refine lv_imul hx hb d_Mo_addPalette_177 ?_
                    refine lv_iconst (v := 1) hx hb d_Mo_addPalette_178 (by decide) ?_
                    refine lv_iadd hx hb d_Mo_addPalette_179 ?_
                    refine va_iald hx hb hK hP 4 1 rfl rfl O.1 d_Mo_addPalette_180 ?_
                    have O := O.2
                    refine lv_i2l (v := (f_t_map ((3 * v148_1) + 1).toNatClampNeg : Int32).toInt64) hx hb d_Mo_addPalette_181 rfl ?_
                    refine lv_iconst (v := 1) hx hb d_Mo_addPalette_182 (by decide) ?_
                    refine kc_V (As := [.long ((f_t_map ((3 * v148_1) + 1).toNatClampNeg : Int32).toInt64), .int 1]) (rest := []) (wr := [(h_t_columnBits, .inl (cI, 8, .inl f_t_columnBits)), (h_t_numbers, .inl (cJ, 4096, .inr (.inl f_t_numbers))), (h_t_map, .inl (cI, 48, .inl f_t_map))]) [0, 2] [1, 3, 4] ⟨hx, hb, hml, hown, hta⟩ hK hN hP hD hS hA (c_Mo_add l D cB cI cJ h_t h_t_bits h_t_profile h_t_columnBits h_t_numbers h_t_map h_t_line h_t_resolutions h_t_file t_thrown t_high t_wide t_components t_unknown t_rights t_colours t_profiled t_entries t_columns t_maps t_lines t_size t_scanned t_refusedAt x167.1 t_streamAt t_streamMany t_name t_from t_end t_sizeAt t_bitsAt t_colourAt t_colourEnd t_paletteAt t_mapAt t_mapEnd t_channelsAt t_captureAt t_displayAt t_resolved x167.2 ((f_t_map ((3 * v148_1) + 1).toNatClampNeg : Int32).toInt64) 1 O.1 _) (hta _ lk_Mo_153) (hta _ ini_Mo) (hta _ code_Mo_add) code_Mo_add (hta _ inst_Mo_add) (hta _ sel_Mo_add) hd_Mo_add rfl ⟨by omega, by omega⟩ (ci := 7) 0 rfl rfl rfl rfl (by decide) (by decide) (by decide) rfl hl.1 (lv_room (Nat.le_of_ble_eq_true rfl)) d_Mo_addPalette_183 ⟨by omega, by omega⟩ (fun v w1 H locs hw hP hD hS => ?_)
                    obtain ⟨x183, hx183, rfl, rfl⟩ := hw
                    have hP : va_P D classes [(h_t, .inr (7, (.int t_thrown :: .int t_high :: .int t_wide :: .int t_components :: .ref h_t_bits :: .int t_unknown :: .int t_rights :: .int t_colours :: .int t_profiled :: .ref h_t_profile :: .int t_entries :: .int t_columns :: .ref h_t_columnBits :: .ref h_t_numbers :: .int t_maps :: .ref h_t_map :: .int t_lines :: .ref h_t_line :: .ref h_t_resolutions :: .ref h_t_file :: .int t_size :: .int t_scanned :: .int t_refusedAt :: .int x183.1 :: .int t_streamAt :: .int t_streamMany :: .int t_name :: .int t_from :: .int t_end :: .int t_sizeAt :: .int t_bitsAt :: .int t_colourAt :: .int t_colourEnd :: .int t_paletteAt :: .int t_mapAt :: .int t_mapEnd :: .int t_channelsAt :: .int t_captureAt :: .int t_displayAt :: .int t_resolved :: []))), (h_t_columnBits, .inl (cI, 8, .inl f_t_columnBits)), (h_t_file, .inl (cI, 65536, .inl x183.2)), (h_t_numbers, .inl (cJ, 4096, .inr (.inl f_t_numbers))), (h_t_map, .inl (cI, 48, .inl f_t_map))] H := hP.sub [3, 0, 4, 1, 2] rfl
                    have hD : va_D A [(h_t, .inr (7, (.int t_thrown :: .int t_high :: .int t_wide :: .int t_components :: .ref h_t_bits :: .int t_unknown :: .int t_rights :: .int t_colours :: .int t_profiled :: .ref h_t_profile :: .int t_entries :: .int t_columns :: .ref h_t_columnBits :: .ref h_t_numbers :: .int t_maps :: .ref h_t_map :: .int t_lines :: .ref h_t_line :: .ref h_t_resolutions :: .ref h_t_file :: .int t_size :: .int t_scanned :: .int t_refusedAt :: .int x183.1 :: .int t_streamAt :: .int t_streamMany :: .int t_name :: .int t_from :: .int t_end :: .int t_sizeAt :: .int t_bitsAt :: .int t_colourAt :: .int t_colourEnd :: .int t_paletteAt :: .int t_mapAt :: .int t_mapEnd :: .int t_channelsAt :: .int t_captureAt :: .int t_displayAt :: .int t_resolved :: []))), (h_t_columnBits, .inl (cI, 8, .inl f_t_columnBits)), (h_t_file, .inl (cI, 65536, .inl x183.2)), (h_t_numbers, .inl (cJ, 4096, .inr (.inl f_t_numbers))), (h_t_map, .inl (cI, 48, .inl f_t_map))] := hD.sub [3, 0, 4, 1, 2] (by decide) rfl
                    refine W.eq (g2 := F0 m 186 ls []) rfl ?_
                    have O := O.2
                    have E : k_Mo_addPalette_183 f_t_map kk_148 v148_1 x183 = RES := (congrArg (k_Mo_addPalette_183 f_t_map kk_148 v148_1) hx183).trans E
                    have O : ok_Mo_addPalette_183 f_t_map okk_148 v148_1 x183 := by rw [hx183]; exact O
                    refine lv_aload_n hx hb d_Mo_addPalette_186 rfl (lv_at hl 1 rfl) ?_
                    refine lv_aload_n hx hb d_Mo_addPalette_187 rfl (lv_at hl 1 rfl) ?_
                    refine va_get (D := D) (v := .ref h_t_map) hx hb hta i_Mo hown hK hP 0 rfl rfl 15 (by decide) (hta _ lk_Mo_27) (fun _ h9 => h9) rfl d_Mo_addPalette_188 ?_
                    refine lv_iconst (v := 3) hx hb d_Mo_addPalette_191 (by decide) ?_
                    refine lv_iload_n hx hb d_Mo_addPalette_192 rfl (lv_at hl 0 rfl) ?_
                    refine lv_imul hx hb d_Mo_addPalette_193 ?_
                    refine lv_iconst (v := 2) hx hb d_Mo_addPalette_194 (by decide) ?_
                    refine lv_iadd hx hb d_Mo_addPalette_195 ?_
                    refine va_iald hx hb hK hP 4 1 rfl rfl O.1 d_Mo_addPalette_196 ?_
                    have O := O.2
                    refine lv_i2l (v := (f_t_map ((3 * v148_1) + 2).toNatClampNeg : Int32).toInt64) hx hb d_Mo_addPalette_197 rfl ?_
                    refine lv_iconst (v := 1) hx hb d_Mo_addPalette_198 (by decide) ?_
                    refine kc_V (As := [.long ((f_t_map ((3 * v148_1) + 2).toNatClampNeg : Int32).toInt64), .int 1]) (rest := []) (wr := [(h_t_columnBits, .inl (cI, 8, .inl f_t_columnBits)), (h_t_numbers, .inl (cJ, 4096, .inr (.inl f_t_numbers))), (h_t_map, .inl (cI, 48, .inl f_t_map))]) [0, 2] [1, 3, 4] ⟨hx, hb, hml, hown, hta⟩ hK hN hP hD hS hA (c_Mo_add l D cB cI cJ h_t h_t_bits h_t_profile h_t_columnBits h_t_numbers h_t_map h_t_line h_t_resolutions h_t_file t_thrown t_high t_wide t_components t_unknown t_rights t_colours t_profiled t_entries t_columns t_maps t_lines t_size t_scanned t_refusedAt x183.1 t_streamAt t_streamMany t_name t_from t_end t_sizeAt t_bitsAt t_colourAt t_colourEnd t_paletteAt t_mapAt t_mapEnd t_channelsAt t_captureAt t_displayAt t_resolved x183.2 ((f_t_map ((3 * v148_1) + 2).toNatClampNeg : Int32).toInt64) 1 O.1 _) (hta _ lk_Mo_153) (hta _ ini_Mo) (hta _ code_Mo_add) code_Mo_add (hta _ inst_Mo_add) (hta _ sel_Mo_add) hd_Mo_add rfl ⟨by omega, by omega⟩ (ci := 7) 0 rfl rfl rfl rfl (by decide) (by decide) (by decide) rfl hl.1 (lv_room (Nat.le_of_ble_eq_true rfl)) d_Mo_addPalette_199 ⟨by omega, by omega⟩ (fun v w1 H locs hw hP hD hS => ?_)
                    obtain ⟨x199, hx199, rfl, rfl⟩ := hw
                    have hP : va_P D classes [(h_t, .inr (7, (.int t_thrown :: .int t_high :: .int t_wide :: .int t_components :: .ref h_t_bits :: .int t_unknown :: .int t_rights :: .int t_colours :: .int t_profiled :: .ref h_t_profile :: .int t_entries :: .int t_columns :: .ref h_t_columnBits :: .ref h_t_numbers :: .int t_maps :: .ref h_t_map :: .int t_lines :: .ref h_t_line :: .ref h_t_resolutions :: .ref h_t_file :: .int t_size :: .int t_scanned :: .int t_refusedAt :: .int x199.1 :: .int t_streamAt :: .int t_streamMany :: .int t_name :: .int t_from :: .int t_end :: .int t_sizeAt :: .int t_bitsAt :: .int t_colourAt :: .int t_colourEnd :: .int t_paletteAt :: .int t_mapAt :: .int t_mapEnd :: .int t_channelsAt :: .int t_captureAt :: .int t_displayAt :: .int t_resolved :: []))), (h_t_columnBits, .inl (cI, 8, .inl f_t_columnBits)), (h_t_file, .inl (cI, 65536, .inl x199.2)), (h_t_numbers, .inl (cJ, 4096, .inr (.inl f_t_numbers))), (h_t_map, .inl (cI, 48, .inl f_t_map))] H := hP.sub [3, 0, 4, 1, 2] rfl
                    have hD : va_D A [(h_t, .inr (7, (.int t_thrown :: .int t_high :: .int t_wide :: .int t_components :: .ref h_t_bits :: .int t_unknown :: .int t_rights :: .int t_colours :: .int t_profiled :: .ref h_t_profile :: .int t_entries :: .int t_columns :: .ref h_t_columnBits :: .ref h_t_numbers :: .int t_maps :: .ref h_t_map :: .int t_lines :: .ref h_t_line :: .ref h_t_resolutions :: .ref h_t_file :: .int t_size :: .int t_scanned :: .int t_refusedAt :: .int x199.1 :: .int t_streamAt :: .int t_streamMany :: .int t_name :: .int t_from :: .int t_end :: .int t_sizeAt :: .int t_bitsAt :: .int t_colourAt :: .int t_colourEnd :: .int t_paletteAt :: .int t_mapAt :: .int t_mapEnd :: .int t_channelsAt :: .int t_captureAt :: .int t_displayAt :: .int t_resolved :: []))), (h_t_columnBits, .inl (cI, 8, .inl f_t_columnBits)), (h_t_file, .inl (cI, 65536, .inl x199.2)), (h_t_numbers, .inl (cJ, 4096, .inr (.inl f_t_numbers))), (h_t_map, .inl (cI, 48, .inl f_t_map))] := hD.sub [3, 0, 4, 1, 2] (by decide) rfl
                    refine W.eq (g2 := F0 m 202 ls []) rfl ?_
                    have O := O.2
                    have E : k_Mo_addPalette_199 kk_148 v148_1 x199 = RES := (congrArg (k_Mo_addPalette_199 kk_148 v148_1) hx199).trans E
                    have O : ok_Mo_addPalette_199 okk_148 v148_1 x199 := by rw [hx199]; exact O
                    refine lv_iinc (v := v148_1 + 1) (lv' := [(1, .int (v148_1 + 1)), (0, .ref h_t)]) hx hb d_Mo_addPalette_202 hl (k := 0) rfl rfl (by decide) rfl (fun ls hl => ?_)
                    refine lv_goto (tgt := 148) hx hb d_Mo_addPalette_205 (by decide) ?_
                    exact ih_148 (v148_1 + 1) x199.1 x199.2 (Nat.lt_of_lt_of_le (tm_up c_153) (Nat.le_of_lt_succ hlt_148)) E O _ _ hP hD hS ls (lv_sub hl [0, 1] rfl)
              exact L_148 _ 0 x143.1 x143.2 (Nat.lt_succ_self _) E O _ _ hP hD hS ls (lv_sub hl [0, 1] rfl)
            · have E := (if_neg c_65).symm.trans E
              have O := Eq.mp (if_neg c_65) O
              refine lv_iconst (v := 0) hx hb d_Mo_addPalette_68 (by decide) ?_
              refine lv_istore_n (lv' := [(2, .int 0), (1, .int v60_1), (0, .ref h_t)]) hx hb d_Mo_addPalette_69 rfl hl (by decide) rfl (fun ls hl => ?_)
              have L_70 : ∀ (n : Nat) (v70_2 : Int32) (v70_t_cursor : Int32) (v70_t_file : Nat → Int32), (t_columns.toInt - v70_2.toInt).toNat < n → lp_Mo_addPalette_70 t_columns f_t_columnBits f_t_numbers kk_60 v60_1 n v70_2 v70_t_cursor v70_t_file = RES → olp_Mo_addPalette_70 t_columns f_t_columnBits f_t_numbers okk_60 v60_1 n v70_2 v70_t_cursor v70_t_file → ∀ (H : Heap) (locs : List Loc), va_P D classes [(h_t, .inr (7, (.int t_thrown :: .int t_high :: .int t_wide :: .int t_components :: .ref h_t_bits :: .int t_unknown :: .int t_rights :: .int t_colours :: .int t_profiled :: .ref h_t_profile :: .int t_entries :: .int t_columns :: .ref h_t_columnBits :: .ref h_t_numbers :: .int t_maps :: .ref h_t_map :: .int t_lines :: .ref h_t_line :: .ref h_t_resolutions :: .ref h_t_file :: .int t_size :: .int t_scanned :: .int t_refusedAt :: .int v70_t_cursor :: .int t_streamAt :: .int t_streamMany :: .int t_name :: .int t_from :: .int t_end :: .int t_sizeAt :: .int t_bitsAt :: .int t_colourAt :: .int t_colourEnd :: .int t_paletteAt :: .int t_mapAt :: .int t_mapEnd :: .int t_channelsAt :: .int t_captureAt :: .int t_displayAt :: .int t_resolved :: []))), (h_t_columnBits, .inl (cI, 8, .inl f_t_columnBits)), (h_t_file, .inl (cI, 65536, .inl v70_t_file)), (h_t_numbers, .inl (cJ, 4096, .inr (.inl f_t_numbers))), (h_t_map, .inl (cI, 48, .inl f_t_map))] H → va_D A [(h_t, .inr (7, (.int t_thrown :: .int t_high :: .int t_wide :: .int t_components :: .ref h_t_bits :: .int t_unknown :: .int t_rights :: .int t_colours :: .int t_profiled :: .ref h_t_profile :: .int t_entries :: .int t_columns :: .ref h_t_columnBits :: .ref h_t_numbers :: .int t_maps :: .ref h_t_map :: .int t_lines :: .ref h_t_line :: .ref h_t_resolutions :: .ref h_t_file :: .int t_size :: .int t_scanned :: .int t_refusedAt :: .int v70_t_cursor :: .int t_streamAt :: .int t_streamMany :: .int t_name :: .int t_from :: .int t_end :: .int t_sizeAt :: .int t_bitsAt :: .int t_colourAt :: .int t_colourEnd :: .int t_paletteAt :: .int t_mapAt :: .int t_mapEnd :: .int t_channelsAt :: .int t_captureAt :: .int t_displayAt :: .int t_resolved :: []))), (h_t_columnBits, .inl (cI, 8, .inl f_t_columnBits)), (h_t_file, .inl (cI, 65536, .inl v70_t_file)), (h_t_numbers, .inl (cJ, 4096, .inr (.inl f_t_numbers))), (h_t_map, .inl (cI, 48, .inl f_t_map))] → va_S A s.heap H locs → ∀ ls : Array Slot, lv_has ls 5 [(2, .int v70_2), (1, .int v60_1), (0, .ref h_t)] → W p l e R s m args below meth c H locs 0 0 Q (F0 m 70 ls []) := by
                intro n
                induction n with
                | zero => intro v70_2 v70_t_cursor v70_t_file hlt; exact absurd hlt (Nat.not_lt_zero _)
                | succ n ih =>
                  intro v70_2 v70_t_cursor v70_t_file hlt_70 E O H locs hP hD hS ls hl
                  have E : lb_Mo_addPalette_70 t_columns f_t_columnBits f_t_numbers kk_60 v60_1 (lp_Mo_addPalette_70 t_columns f_t_columnBits f_t_numbers kk_60 v60_1 n) v70_2 v70_t_cursor v70_t_file = RES := E
                  have O : olb_Mo_addPalette_70 t_columns f_t_columnBits f_t_numbers okk_60 v60_1 (olp_Mo_addPalette_70 t_columns f_t_columnBits f_t_numbers okk_60 v60_1 n) v70_2 v70_t_cursor v70_t_file := O
                  generalize lp_Mo_addPalette_70 t_columns f_t_columnBits f_t_numbers kk_60 v60_1 n = kk_70 at ih E
                  generalize olp_Mo_addPalette_70 t_columns f_t_columnBits f_t_numbers okk_60 v60_1 n = okk_70 at ih O
                  have ih_70 := ih
                  clear ih
                  refine lv_iload_n hx hb d_Mo_addPalette_70 rfl (lv_at hl 0 rfl) ?_
                  refine lv_aload_n hx hb d_Mo_addPalette_71 rfl (lv_at hl 2 rfl) ?_
                  refine va_get (D := D) (v := .int t_columns) hx hb hta i_Mo hown hK hP 0 rfl rfl 11 (by decide) (hta _ lk_Mo_70) (fun _ h9 => h9) rfl d_Mo_addPalette_72 ?_
                  refine lv_icmp_ge (tgt := 128) hx hb d_Mo_addPalette_75 (by decide) (fun c_75 => ?_) (fun c_75 => ?_)
                  · have E := (if_pos c_75).symm.trans E
                    have O := Eq.mp (if_pos c_75) O
                    refine lv_iinc (v := v60_1 + 1) (lv' := [(1, .int (v60_1 + 1)), (2, .int v70_2), (0, .ref h_t)]) hx hb d_Mo_addPalette_128 hl (k := 1) rfl rfl (by decide) rfl (fun ls hl => ?_)
                    refine lv_goto (tgt := 60) hx hb d_Mo_addPalette_131 (by decide) ?_
                    exact ih_60 (v60_1 + 1) v70_t_cursor v70_t_file (Nat.lt_of_lt_of_le (tm_up c_65) (Nat.le_of_lt_succ hlt_60)) E O _ _ hP hD hS ls (lv_sub hl [0, 2] rfl)
                  · have E := (if_neg c_75).symm.trans E
                    have O := Eq.mp (if_neg c_75) O
                    refine lv_ldc2 (v := 2) hx hb hown (hta _ lk_Mo_106) d_Mo_addPalette_78 ?_
                    refine lv_aload_n hx hb d_Mo_addPalette_81 rfl (lv_at hl 2 rfl) ?_
                    refine va_get (D := D) (v := .ref h_t_columnBits) hx hb hta i_Mo hown hK hP 0 rfl rfl 12 (by decide) (hta _ lk_Mo_20) (fun _ h9 => h9) rfl d_Mo_addPalette_82 ?_
                    refine lv_iload_n hx hb d_Mo_addPalette_85 rfl (lv_at hl 0 rfl) ?_
                    refine va_iald hx hb hK hP 1 1 rfl rfl O.1 d_Mo_addPalette_86 ?_
                    have O := O.2
                    refine lv_bipush (v := 127) hx hb d_Mo_addPalette_87 (by decide) ?_
                    refine lv_iand hx hb d_Mo_addPalette_89 ?_
                    refine lv_lshl (v := 2 <<< (((f_t_columnBits v70_2.toNatClampNeg) &&& 127 : Int32).toInt64 &&& 63)) hx hb d_Mo_addPalette_90 rfl ?_
                    refine lv_lconst (v := 1) hx hb d_Mo_addPalette_91 (by decide) ?_
                    refine lv_lsub hx hb d_Mo_addPalette_92 ?_
                    refine lv_lstore_n (lv' := [(3, .long ((2 <<< (((f_t_columnBits v70_2.toNatClampNeg) &&& 127 : Int32).toInt64 &&& 63)) - 1)), (2, .int v70_2), (1, .int v60_1), (0, .ref h_t)]) hx hb d_Mo_addPalette_93 rfl hl (by decide) rfl (fun ls hl => ?_)
                    refine lv_aload_n hx hb d_Mo_addPalette_94 rfl (lv_at hl 3 rfl) ?_
                    refine lv_aload_n hx hb d_Mo_addPalette_95 rfl (lv_at hl 3 rfl) ?_
                    refine va_get (D := D) (v := .ref h_t_numbers) hx hb hta i_Mo hown hK hP 0 rfl rfl 13 (by decide) (hta _ lk_Mo_23) (fun _ h9 => h9) rfl d_Mo_addPalette_96 ?_
                    refine lv_aload_n hx hb d_Mo_addPalette_99 rfl (lv_at hl 3 rfl) ?_
                    refine va_get (D := D) (v := .int t_columns) hx hb hta i_Mo hown hK hP 0 rfl rfl 11 (by decide) (hta _ lk_Mo_70) (fun _ h9 => h9) rfl d_Mo_addPalette_100 ?_
                    refine lv_iload_n hx hb d_Mo_addPalette_103 rfl (lv_at hl 2 rfl) ?_
                    refine lv_imul hx hb d_Mo_addPalette_104 ?_
                    refine lv_iload_n hx hb d_Mo_addPalette_105 rfl (lv_at hl 1 rfl) ?_
                    refine lv_iadd hx hb d_Mo_addPalette_106 ?_
                    refine va_lald hx hb hK hP 3 2 rfl rfl O.1 d_Mo_addPalette_107 ?_
                    have O := O.2
                    refine lv_lload_n hx hb d_Mo_addPalette_108 rfl (lv_at hl 0 rfl) ?_
                    refine lv_land hx hb d_Mo_addPalette_109 ?_
                    refine lv_aload_n hx hb d_Mo_addPalette_110 rfl (lv_at hl 3 rfl) ?_
                    refine va_get (D := D) (v := .ref h_t_columnBits) hx hb hta i_Mo hown hK hP 0 rfl rfl 12 (by decide) (hta _ lk_Mo_20) (fun _ h9 => h9) rfl d_Mo_addPalette_111 ?_
                    refine lv_iload_n hx hb d_Mo_addPalette_114 rfl (lv_at hl 1 rfl) ?_
                    refine va_iald hx hb hK hP 1 1 rfl rfl O.1 d_Mo_addPalette_115 ?_
                    have O := O.2
                    refine kc_S (As := [.int (f_t_columnBits v70_2.toNatClampNeg)]) (rest := [.long ((f_t_numbers ((t_columns * v60_1) + v70_2).toNatClampNeg) &&& ((2 <<< (((f_t_columnBits v70_2.toNatClampNeg) &&& 127 : Int32).toInt64 &&& 63)) - 1)), .ref h_t]) (wr := [(h_t, .inr (7, (.int t_thrown :: .int t_high :: .int t_wide :: .int t_components :: .ref h_t_bits :: .int t_unknown :: .int t_rights :: .int t_colours :: .int t_profiled :: .ref h_t_profile :: .int t_entries :: .int t_columns :: .ref h_t_columnBits :: .ref h_t_numbers :: .int t_maps :: .ref h_t_map :: .int t_lines :: .ref h_t_line :: .ref h_t_resolutions :: .ref h_t_file :: .int t_size :: .int t_scanned :: .int t_refusedAt :: .int v70_t_cursor :: .int t_streamAt :: .int t_streamMany :: .int t_name :: .int t_from :: .int t_end :: .int t_sizeAt :: .int t_bitsAt :: .int t_colourAt :: .int t_colourEnd :: .int t_paletteAt :: .int t_mapAt :: .int t_mapEnd :: .int t_channelsAt :: .int t_captureAt :: .int t_displayAt :: .int t_resolved :: []))), (h_t_columnBits, .inl (cI, 8, .inl f_t_columnBits)), (h_t_file, .inl (cI, 65536, .inl v70_t_file)), (h_t_numbers, .inl (cJ, 4096, .inr (.inl f_t_numbers))), (h_t_map, .inl (cI, 48, .inl f_t_map))]) [] [0, 1, 2, 3, 4] ⟨hx, hb, hml, hown, hta⟩ hK hN hP hD hS hA (c_Mo_bytesOf l D cB cI cJ (f_t_columnBits v70_2.toNatClampNeg) O.1 _) (hta _ lk_Mo_157) (hta _ ini_Mo) (hta _ code_Mo_bytesOf) code_Mo_bytesOf (hta _ stat_Mo_bytesOf) hd_Mo_bytesOf rfl ⟨by omega, by omega⟩ rfl rfl (by decide) (by decide) (by decide) rfl hl.1 (lv_room (Nat.le_of_ble_eq_true rfl)) d_Mo_addPalette_116 ⟨by omega, by omega⟩ (fun v w1 H locs hw hP hD hS => ?_)
                    obtain ⟨x116, hx116, rfl, rfl⟩ := hw
                    have hP : va_P D classes [(h_t, .inr (7, (.int t_thrown :: .int t_high :: .int t_wide :: .int t_components :: .ref h_t_bits :: .int t_unknown :: .int t_rights :: .int t_colours :: .int t_profiled :: .ref h_t_profile :: .int t_entries :: .int t_columns :: .ref h_t_columnBits :: .ref h_t_numbers :: .int t_maps :: .ref h_t_map :: .int t_lines :: .ref h_t_line :: .ref h_t_resolutions :: .ref h_t_file :: .int t_size :: .int t_scanned :: .int t_refusedAt :: .int v70_t_cursor :: .int t_streamAt :: .int t_streamMany :: .int t_name :: .int t_from :: .int t_end :: .int t_sizeAt :: .int t_bitsAt :: .int t_colourAt :: .int t_colourEnd :: .int t_paletteAt :: .int t_mapAt :: .int t_mapEnd :: .int t_channelsAt :: .int t_captureAt :: .int t_displayAt :: .int t_resolved :: []))), (h_t_columnBits, .inl (cI, 8, .inl f_t_columnBits)), (h_t_file, .inl (cI, 65536, .inl v70_t_file)), (h_t_numbers, .inl (cJ, 4096, .inr (.inl f_t_numbers))), (h_t_map, .inl (cI, 48, .inl f_t_map))] H := hP.sub [0, 1, 2, 3, 4] rfl
                    have hD : va_D A [(h_t, .inr (7, (.int t_thrown :: .int t_high :: .int t_wide :: .int t_components :: .ref h_t_bits :: .int t_unknown :: .int t_rights :: .int t_colours :: .int t_profiled :: .ref h_t_profile :: .int t_entries :: .int t_columns :: .ref h_t_columnBits :: .ref h_t_numbers :: .int t_maps :: .ref h_t_map :: .int t_lines :: .ref h_t_line :: .ref h_t_resolutions :: .ref h_t_file :: .int t_size :: .int t_scanned :: .int t_refusedAt :: .int v70_t_cursor :: .int t_streamAt :: .int t_streamMany :: .int t_name :: .int t_from :: .int t_end :: .int t_sizeAt :: .int t_bitsAt :: .int t_colourAt :: .int t_colourEnd :: .int t_paletteAt :: .int t_mapAt :: .int t_mapEnd :: .int t_channelsAt :: .int t_captureAt :: .int t_displayAt :: .int t_resolved :: []))), (h_t_columnBits, .inl (cI, 8, .inl f_t_columnBits)), (h_t_file, .inl (cI, 65536, .inl v70_t_file)), (h_t_numbers, .inl (cJ, 4096, .inr (.inl f_t_numbers))), (h_t_map, .inl (cI, 48, .inl f_t_map))] := hD.sub [0, 1, 2, 3, 4] (by decide) rfl
                    refine W.eq (g2 := F0 m 119 ls [.int x116, .long ((f_t_numbers ((t_columns * v60_1) + v70_2).toNatClampNeg) &&& ((2 <<< (((f_t_columnBits v70_2.toNatClampNeg) &&& 127 : Int32).toInt64 &&& 63)) - 1)), .ref h_t]) rfl ?_
                    have O := O.2
                    have E : k_Mo_addPalette_116 t_columns f_t_columnBits f_t_numbers v60_1 kk_70 v70_2 v70_t_cursor v70_t_file x116 = RES := (congrArg (k_Mo_addPalette_116 t_columns f_t_columnBits f_t_numbers v60_1 kk_70 v70_2 v70_t_cursor v70_t_file) hx116).trans E
                    have O : ok_Mo_addPalette_116 t_columns f_t_columnBits f_t_numbers v60_1 okk_70 v70_2 v70_t_cursor v70_t_file x116 := by rw [hx116]; exact O
                    refine kc_V (As := [.long ((f_t_numbers ((t_columns * v60_1) + v70_2).toNatClampNeg) &&& ((2 <<< (((f_t_columnBits v70_2.toNatClampNeg) &&& 127 : Int32).toInt64 &&& 63)) - 1)), .int x116]) (rest := []) (wr := [(h_t_columnBits, .inl (cI, 8, .inl f_t_columnBits)), (h_t_numbers, .inl (cJ, 4096, .inr (.inl f_t_numbers))), (h_t_map, .inl (cI, 48, .inl f_t_map))]) [0, 2] [1, 3, 4] ⟨hx, hb, hml, hown, hta⟩ hK hN hP hD hS hA (c_Mo_add l D cB cI cJ h_t h_t_bits h_t_profile h_t_columnBits h_t_numbers h_t_map h_t_line h_t_resolutions h_t_file t_thrown t_high t_wide t_components t_unknown t_rights t_colours t_profiled t_entries t_columns t_maps t_lines t_size t_scanned t_refusedAt v70_t_cursor t_streamAt t_streamMany t_name t_from t_end t_sizeAt t_bitsAt t_colourAt t_colourEnd t_paletteAt t_mapAt t_mapEnd t_channelsAt t_captureAt t_displayAt t_resolved v70_t_file ((f_t_numbers ((t_columns * v60_1) + v70_2).toNatClampNeg) &&& ((2 <<< (((f_t_columnBits v70_2.toNatClampNeg) &&& 127 : Int32).toInt64 &&& 63)) - 1)) x116 O.1 _) (hta _ lk_Mo_153) (hta _ ini_Mo) (hta _ code_Mo_add) code_Mo_add (hta _ inst_Mo_add) (hta _ sel_Mo_add) hd_Mo_add rfl ⟨by omega, by omega⟩ (ci := 7) 0 rfl rfl rfl rfl (by decide) (by decide) (by decide) rfl hl.1 (lv_room (Nat.le_of_ble_eq_true rfl)) d_Mo_addPalette_119 ⟨by omega, by omega⟩ (fun v w1 H locs hw hP hD hS => ?_)
                    obtain ⟨x119, hx119, rfl, rfl⟩ := hw
                    have hP : va_P D classes [(h_t, .inr (7, (.int t_thrown :: .int t_high :: .int t_wide :: .int t_components :: .ref h_t_bits :: .int t_unknown :: .int t_rights :: .int t_colours :: .int t_profiled :: .ref h_t_profile :: .int t_entries :: .int t_columns :: .ref h_t_columnBits :: .ref h_t_numbers :: .int t_maps :: .ref h_t_map :: .int t_lines :: .ref h_t_line :: .ref h_t_resolutions :: .ref h_t_file :: .int t_size :: .int t_scanned :: .int t_refusedAt :: .int x119.1 :: .int t_streamAt :: .int t_streamMany :: .int t_name :: .int t_from :: .int t_end :: .int t_sizeAt :: .int t_bitsAt :: .int t_colourAt :: .int t_colourEnd :: .int t_paletteAt :: .int t_mapAt :: .int t_mapEnd :: .int t_channelsAt :: .int t_captureAt :: .int t_displayAt :: .int t_resolved :: []))), (h_t_columnBits, .inl (cI, 8, .inl f_t_columnBits)), (h_t_file, .inl (cI, 65536, .inl x119.2)), (h_t_numbers, .inl (cJ, 4096, .inr (.inl f_t_numbers))), (h_t_map, .inl (cI, 48, .inl f_t_map))] H := hP.sub [3, 0, 4, 1, 2] rfl
                    have hD : va_D A [(h_t, .inr (7, (.int t_thrown :: .int t_high :: .int t_wide :: .int t_components :: .ref h_t_bits :: .int t_unknown :: .int t_rights :: .int t_colours :: .int t_profiled :: .ref h_t_profile :: .int t_entries :: .int t_columns :: .ref h_t_columnBits :: .ref h_t_numbers :: .int t_maps :: .ref h_t_map :: .int t_lines :: .ref h_t_line :: .ref h_t_resolutions :: .ref h_t_file :: .int t_size :: .int t_scanned :: .int t_refusedAt :: .int x119.1 :: .int t_streamAt :: .int t_streamMany :: .int t_name :: .int t_from :: .int t_end :: .int t_sizeAt :: .int t_bitsAt :: .int t_colourAt :: .int t_colourEnd :: .int t_paletteAt :: .int t_mapAt :: .int t_mapEnd :: .int t_channelsAt :: .int t_captureAt :: .int t_displayAt :: .int t_resolved :: []))), (h_t_columnBits, .inl (cI, 8, .inl f_t_columnBits)), (h_t_file, .inl (cI, 65536, .inl x119.2)), (h_t_numbers, .inl (cJ, 4096, .inr (.inl f_t_numbers))), (h_t_map, .inl (cI, 48, .inl f_t_map))] := hD.sub [3, 0, 4, 1, 2] (by decide) rfl
                    refine W.eq (g2 := F0 m 122 ls []) rfl ?_
                    have O := O.2
                    have E : k_Mo_addPalette_119 kk_70 v70_2 x119 = RES := (congrArg (k_Mo_addPalette_119 kk_70 v70_2) hx119).trans E
                    have O : ok_Mo_addPalette_119 okk_70 v70_2 x119 := by rw [hx119]; exact O
                    refine lv_iinc (v := v70_2 + 1) (lv' := [(2, .int (v70_2 + 1)), (3, .long ((2 <<< (((f_t_columnBits v70_2.toNatClampNeg) &&& 127 : Int32).toInt64 &&& 63)) - 1)), (1, .int v60_1), (0, .ref h_t)]) hx hb d_Mo_addPalette_122 hl (k := 1) rfl rfl (by decide) rfl (fun ls hl => ?_)
                    refine lv_goto (tgt := 70) hx hb d_Mo_addPalette_125 (by decide) ?_
                    exact ih_70 (v70_2 + 1) x119.1 x119.2 (Nat.lt_of_lt_of_le (tm_up c_75) (Nat.le_of_lt_succ hlt_70)) E O _ _ hP hD hS ls (lv_sub hl [0, 2, 3] rfl)
              exact L_70 _ 0 v60_t_cursor v60_t_file (Nat.lt_succ_self _) E O _ _ hP hD hS ls (lv_sub hl [0, 1, 2] rfl)
        exact L_60 _ 0 v32_t_cursor v32_t_file (Nat.lt_succ_self _) E O _ _ hP hD hS ls (lv_sub hl [0, 1] rfl)
      · have E := (if_neg c_37).symm.trans E
        have O := Eq.mp (if_neg c_37) O
        refine lv_aload_n hx hb d_Mo_addPalette_40 rfl (lv_at hl 1 rfl) ?_
        refine lv_aload_n hx hb d_Mo_addPalette_41 rfl (lv_at hl 1 rfl) ?_
        refine va_get (D := D) (v := .ref h_t_columnBits) hx hb hta i_Mo hown hK hP 0 rfl rfl 12 (by decide) (hta _ lk_Mo_20) (fun _ h9 => h9) rfl d_Mo_addPalette_42 ?_
        refine lv_iload_n hx hb d_Mo_addPalette_45 rfl (lv_at hl 0 rfl) ?_
        refine va_iald hx hb hK hP 1 1 rfl rfl O.1 d_Mo_addPalette_46 ?_
        have O := O.2
        refine lv_i2l (v := (f_t_columnBits v32_1.toNatClampNeg : Int32).toInt64) hx hb d_Mo_addPalette_47 rfl ?_
        refine lv_iconst (v := 1) hx hb d_Mo_addPalette_48 (by decide) ?_
        refine kc_V (As := [.long ((f_t_columnBits v32_1.toNatClampNeg : Int32).toInt64), .int 1]) (rest := []) (wr := [(h_t_columnBits, .inl (cI, 8, .inl f_t_columnBits)), (h_t_numbers, .inl (cJ, 4096, .inr (.inl f_t_numbers))), (h_t_map, .inl (cI, 48, .inl f_t_map))]) [0, 2] [1, 3, 4] ⟨hx, hb, hml, hown, hta⟩ hK hN hP hD hS hA (c_Mo_add l D cB cI cJ h_t h_t_bits h_t_profile h_t_columnBits h_t_numbers h_t_map h_t_line h_t_resolutions h_t_file t_thrown t_high t_wide t_components t_unknown t_rights t_colours t_profiled t_entries t_columns t_maps t_lines t_size t_scanned t_refusedAt v32_t_cursor t_streamAt t_streamMany t_name t_from t_end t_sizeAt t_bitsAt t_colourAt t_colourEnd t_paletteAt t_mapAt t_mapEnd t_channelsAt t_captureAt t_displayAt t_resolved v32_t_file ((f_t_columnBits v32_1.toNatClampNeg : Int32).toInt64) 1 O.1 _) (hta _ lk_Mo_153) (hta _ ini_Mo) (hta _ code_Mo_add) code_Mo_add (hta _ inst_Mo_add) (hta _ sel_Mo_add) hd_Mo_add rfl ⟨by omega, by omega⟩ (ci := 7) 0 rfl rfl rfl rfl (by decide) (by decide) (by decide) rfl hl.1 (lv_room (Nat.le_of_ble_eq_true rfl)) d_Mo_addPalette_49 ⟨by omega, by omega⟩ (fun v w1 H locs hw hP hD hS => ?_)
        obtain ⟨x49, hx49, rfl, rfl⟩ := hw
        have hP : va_P D classes [(h_t, .inr (7, (.int t_thrown :: .int t_high :: .int t_wide :: .int t_components :: .ref h_t_bits :: .int t_unknown :: .int t_rights :: .int t_colours :: .int t_profiled :: .ref h_t_profile :: .int t_entries :: .int t_columns :: .ref h_t_columnBits :: .ref h_t_numbers :: .int t_maps :: .ref h_t_map :: .int t_lines :: .ref h_t_line :: .ref h_t_resolutions :: .ref h_t_file :: .int t_size :: .int t_scanned :: .int t_refusedAt :: .int x49.1 :: .int t_streamAt :: .int t_streamMany :: .int t_name :: .int t_from :: .int t_end :: .int t_sizeAt :: .int t_bitsAt :: .int t_colourAt :: .int t_colourEnd :: .int t_paletteAt :: .int t_mapAt :: .int t_mapEnd :: .int t_channelsAt :: .int t_captureAt :: .int t_displayAt :: .int t_resolved :: []))), (h_t_columnBits, .inl (cI, 8, .inl f_t_columnBits)), (h_t_file, .inl (cI, 65536, .inl x49.2)), (h_t_numbers, .inl (cJ, 4096, .inr (.inl f_t_numbers))), (h_t_map, .inl (cI, 48, .inl f_t_map))] H := hP.sub [3, 0, 4, 1, 2] rfl
        have hD : va_D A [(h_t, .inr (7, (.int t_thrown :: .int t_high :: .int t_wide :: .int t_components :: .ref h_t_bits :: .int t_unknown :: .int t_rights :: .int t_colours :: .int t_profiled :: .ref h_t_profile :: .int t_entries :: .int t_columns :: .ref h_t_columnBits :: .ref h_t_numbers :: .int t_maps :: .ref h_t_map :: .int t_lines :: .ref h_t_line :: .ref h_t_resolutions :: .ref h_t_file :: .int t_size :: .int t_scanned :: .int t_refusedAt :: .int x49.1 :: .int t_streamAt :: .int t_streamMany :: .int t_name :: .int t_from :: .int t_end :: .int t_sizeAt :: .int t_bitsAt :: .int t_colourAt :: .int t_colourEnd :: .int t_paletteAt :: .int t_mapAt :: .int t_mapEnd :: .int t_channelsAt :: .int t_captureAt :: .int t_displayAt :: .int t_resolved :: []))), (h_t_columnBits, .inl (cI, 8, .inl f_t_columnBits)), (h_t_file, .inl (cI, 65536, .inl x49.2)), (h_t_numbers, .inl (cJ, 4096, .inr (.inl f_t_numbers))), (h_t_map, .inl (cI, 48, .inl f_t_map))] := hD.sub [3, 0, 4, 1, 2] (by decide) rfl
        refine W.eq (g2 := F0 m 52 ls []) rfl ?_
        have O := O.2
        have E : k_Mo_addPalette_49 kk_32 v32_1 x49 = RES := (congrArg (k_Mo_addPalette_49 kk_32 v32_1) hx49).trans E
        have O : ok_Mo_addPalette_49 okk_32 v32_1 x49 := by rw [hx49]; exact O
        refine lv_iinc (v := v32_1 + 1) (lv' := [(1, .int (v32_1 + 1)), (0, .ref h_t)]) hx hb d_Mo_addPalette_52 hl (k := 0) rfl rfl (by decide) rfl (fun ls hl => ?_)
        refine lv_goto (tgt := 32) hx hb d_Mo_addPalette_55 (by decide) ?_
        exact ih_32 (v32_1 + 1) x49.1 x49.2 (Nat.lt_of_lt_of_le (tm_up c_37) (Nat.le_of_lt_succ hlt_32)) E O _ _ hP hD hS ls (lv_sub hl [0, 1] rfl)
  exact L_32 _ 0 x27.1 x27.2 (Nat.lt_succ_self _) E O _ _ hP hD hS ls (lv_sub hl [0, 1] rfl)
