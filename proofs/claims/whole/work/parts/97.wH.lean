theorem q_msk : ∀ t : Fin 256, t.val % 128 ≤ 37 → (((2 : Int64) <<< (((nI t.val) &&& 127 : Int32).toInt64 &&& 63)) - 1) = Int64.ofNat (2 ^ (t.val % 128 + 1) - 1) := by decide +kernel
theorem m_mask {b : Int32} (h : VB b) (v : Int64) : m_FB_lowestBits v (b &&& (-129)) = v &&& (((2 : Int64) <<< ((b &&& 127 : Int32).toInt64 &&& 63)) - 1) := by
  obtain ⟨t, rfl, ht, h37⟩ := h
  rw [q_msk ⟨t, ht⟩ h37, (q_bf ⟨t, ht⟩).2.2]
  apply Int64.toBitVec_inj.1
  rw [q_lowU (t % 128) (by omega) (by omega) (by omega), Int64.toBitVec_and]
  apply BitVec.eq_of_toNat_eq
  rw [BitVec.toNat_ushiftRight, BitVec.toNat_shiftLeft, BitVec.toNat_and, Nat.shiftRight_eq_div_pow, Nat.shiftLeft_eq]
  have hp : (2 : Nat) ^ (t % 128 + 1) ≤ 2 ^ 38 := Nat.pow_le_pow_right (by decide) (by omega)
  have e1 : ((Int64.ofNat (2 ^ (t % 128 + 1) - 1)).toBitVec).toNat = 2 ^ (t % 128 + 1) - 1 := by
    show (BitVec.ofNat 64 (2 ^ (t % 128 + 1) - 1)).toNat = _
    rw [BitVec.toNat_ofNat, Nat.mod_eq_of_lt (by omega)]
  have e2 : (2 : Nat) ^ 64 = 2 ^ (t % 128 + 1) * 2 ^ (63 - t % 128 % 128) := by rw [← Nat.pow_add]; congr 1; omega
  show v.toBitVec.toNat * 2 ^ (63 - t % 128 % 128) % 2 ^ 64 / 2 ^ (63 - t % 128 % 128) = v.toBitVec.toNat &&& ((Int64.ofNat (2 ^ (t % 128 + 1) - 1)).toBitVec).toNat
  rw [e1, Nat.and_two_pow_sub_one_eq_mod, e2, Nat.mul_mod_mul_right, Nat.mul_div_cancel _ (Nat.two_pow_pos _)]
theorem m_psz {e c : Nat} (hc : c ≤ 8) {pb cb : Nat → Int32} (hb : ∀ k, k < c → pb k = cb k ∧ VB (pb k)) : ∀ (d j acc : Nat), j + d = c → lp_Mo_paletteSize_4 (nI e) (nI c) cb (d + 1) (nI j) (nI acc) = nI (3 + c + e * (acc + swid pb d j)) ∧ olp_Mo_paletteSize_4 (nI c) cb (d + 1) (nI j) (nI acc)
  | 0, j, acc, h => by
    show lb_Mo_paletteSize_4 (nI e) (nI c) cb (lp_Mo_paletteSize_4 (nI e) (nI c) cb 0) (nI j) (nI acc) = _ ∧ olb_Mo_paletteSize_4 (nI c) cb (olp_Mo_paletteSize_4 (nI c) cb 0) (nI j) (nI acc)
    have k : nI c ≤ nI j := by rw [q_le (by omega) (by omega)]; omega
    unfold lb_Mo_paletteSize_4 olb_Mo_paletteSize_4
    rw [if_pos k, if_pos k, show (3 : Int32) = nI 3 from rfl, q_mul, q_add, q_add]
    exact ⟨rfl, trivial⟩
  | d + 1, j, acc, h => by
    show lb_Mo_paletteSize_4 (nI e) (nI c) cb (lp_Mo_paletteSize_4 (nI e) (nI c) cb (d + 1)) (nI j) (nI acc) = _ ∧ olb_Mo_paletteSize_4 (nI c) cb (olp_Mo_paletteSize_4 (nI c) cb (d + 1)) (nI j) (nI acc)
    have k : ¬ nI c ≤ nI j := by rw [q_le (by omega) (by omega)]; omega
    have w := w_wid (hb j (by omega)).2
    have ih := m_psz (e := e) hc hb d (j + 1) (acc + wid pb j) (by omega)
    unfold lb_Mo_paletteSize_4 olb_Mo_paletteSize_4 k_Mo_paletteSize_19 ok_Mo_paletteSize_19
    rw [if_neg k, if_neg k, q_cl (by omega), q_in (by omega), ← (hb j (by omega)).1, w.2.2, q_add, ← nI_succ]
    refine ⟨?_, by omega, trivial, ih.2⟩
    rw [ih.1]
    show nI (3 + c + e * (acc + wid pb j + swid pb d (j + 1))) = nI (3 + c + e * (acc + (wid pb j + swid pb d (j + 1))))
    rw [Nat.add_assoc acc]
theorem m_pls {e c : Nat} (hc : c ≤ 8) {pb cb : Nat → Int32} (hb : ∀ k, k < c → pb k = cb k ∧ VB (pb k)) : m_Mo_paletteSize (nI e) (nI c) cb = nI (3 + c + e * swid pb c 0) ∧ om_Mo_paletteSize (nI c) cb := by
  have t := m_psz (e := e) hc hb c 0 0 (by omega)
  unfold m_Mo_paletteSize om_Mo_paletteSize
  rw [q_fuel (by omega)]
  rw [Nat.zero_add (swid pb c 0)] at t
  exact t
theorem m_mapp {c : Nat} (hc : c ≤ 16) {mf mg : Nat → Int32} (hm : ∀ k, k < 3 * c → mf k = mg k) : ∀ (d j : Nat) (s : Int32 × (Nat → Int32)), j + d = c → CK (4 * d + 8) s →
    lp_Mo_addPalette_148 (nI c) mg (d + 1) (nI j) s.1 s.2 = apM (wMp mf d j) s ∧ olp_Mo_addPalette_148 (nI c) mg (d + 1) (nI j) s.1 s.2
  | 0, j, s, h, hs => by
    show lb_Mo_addPalette_148 (nI c) mg (lp_Mo_addPalette_148 (nI c) mg 0) (nI j) s.1 s.2 = _ ∧ olb_Mo_addPalette_148 (nI c) mg (olp_Mo_addPalette_148 (nI c) mg 0) (nI j) s.1 s.2
    have k : nI c ≤ nI j := by rw [q_le (by omega) (by omega)]; omega
    unfold lb_Mo_addPalette_148 olb_Mo_addPalette_148
    rw [if_pos k, if_pos k]; exact ⟨rfl, trivial⟩
  | d + 1, j, s, h, hs => by
    show lb_Mo_addPalette_148 (nI c) mg (lp_Mo_addPalette_148 (nI c) mg (d + 1)) (nI j) s.1 s.2 = _ ∧ olb_Mo_addPalette_148 (nI c) mg (olp_Mo_addPalette_148 (nI c) mg (d + 1)) (nI j) s.1 s.2
    have k : ¬ nI c ≤ nI j := by rw [q_le (by omega) (by omega)]; omega
    unfold lb_Mo_addPalette_148 olb_Mo_addPalette_148 k_Mo_addPalette_167 ok_Mo_addPalette_167 k_Mo_addPalette_183 ok_Mo_addPalette_183 k_Mo_addPalette_199 ok_Mo_addPalette_199
    rw [if_neg k, if_neg k, q_3m, q_p1 (3 * j), q_p2 (3 * j), q_cl (by omega), q_cl (by omega), q_cl (by omega), q_in (by omega), q_in (by omega), q_in (by omega), ← hm _ (by omega), ← hm _ (by omega), ← hm _ (by omega), q_addM2, q_addM1, q_addM1, be1, be1, ← nI_succ]
    have s1 : CK (4 * d + 10) (apM (be 2 (mf (3 * j)).toInt64) s) := be_k _ _ (hs.le (by omega))
    have s2 : CK (4 * d + 9) (apM [bo (mf (3 * j + 1)).toInt] (apM (be 2 (mf (3 * j)).toInt64) s)) := CK.ap (s1.le (by show 4 * d + 9 + 1 ≤ _; omega))
    have s3 : CK (4 * d + 8) (apM [bo (mf (3 * j + 2)).toInt] (apM [bo (mf (3 * j + 1)).toInt] (apM (be 2 (mf (3 * j)).toInt64) s))) := CK.ap (s2.le (by show 4 * d + 8 + 1 ≤ _; omega))
    have ih := m_mapp hc hm d (j + 1) _ (by omega) s3
    refine ⟨?_, by omega, (hs.le (by omega)).o2 _, by omega, (s1.le (by omega)).o1 _, by omega, (s2.le (by omega)).o1 _, ih.2⟩
    rw [ih.1]
    show _ = apM (be 2 (mf (3 * j)).toInt64 ++ ([bo (mf (3 * j + 1)).toInt] ++ ([bo (mf (3 * j + 2)).toInt] ++ wMp mf d (j + 1)))) s
    rw [apM_app, apM_app, apM_app]
theorem m_entp {e c : Nat} (hc : c ≤ 8) {pb cb : Nat → Int32} (hb : ∀ k, k < c → pb k = cb k ∧ VB (pb k)) {nf ng : Nat → Int64} (hn : e * c ≤ 4096) (hng : ∀ k, k < e * c → nf k = ng k) {i : Nat} (hi : i < e) (kk : Int32 → Int32 → (Nat → Int32) → Int32 × (Nat → Int32)) (okk : Int32 → Int32 → (Nat → Int32) → Prop) : ∀ (d j : Nat) (s : Int32 × (Nat → Int32)), j + d = c → CK (5 * d + 8) s →
    lp_Mo_addPalette_70 (nI c) cb ng kk (nI i) (d + 1) (nI j) s.1 s.2 = kk (nI i + 1) (apM (wEn pb nf (i * c) d j) s).1 (apM (wEn pb nf (i * c) d j) s).2 ∧ (okk (nI i + 1) (apM (wEn pb nf (i * c) d j) s).1 (apM (wEn pb nf (i * c) d j) s).2 → olp_Mo_addPalette_70 (nI c) cb ng okk (nI i) (d + 1) (nI j) s.1 s.2)
  | 0, j, s, h, hs => by
    show lb_Mo_addPalette_70 (nI c) cb ng kk (nI i) (lp_Mo_addPalette_70 (nI c) cb ng kk (nI i) 0) (nI j) s.1 s.2 = _ ∧ (_ → olb_Mo_addPalette_70 (nI c) cb ng okk (nI i) (olp_Mo_addPalette_70 (nI c) cb ng okk (nI i) 0) (nI j) s.1 s.2)
    have k : nI c ≤ nI j := by rw [q_le (by omega) (by omega)]; omega
    unfold lb_Mo_addPalette_70 olb_Mo_addPalette_70
    rw [if_pos k, if_pos k]; exact ⟨rfl, id⟩
  | d + 1, j, s, h, hs => by
    show lb_Mo_addPalette_70 (nI c) cb ng kk (nI i) (lp_Mo_addPalette_70 (nI c) cb ng kk (nI i) (d + 1)) (nI j) s.1 s.2 = _ ∧ (_ → olb_Mo_addPalette_70 (nI c) cb ng okk (nI i) (olp_Mo_addPalette_70 (nI c) cb ng okk (nI i) (d + 1)) (nI j) s.1 s.2)
    have k : ¬ nI c ≤ nI j := by rw [q_le (by omega) (by omega)]; omega
    have w := w_wid (hb j (by omega)).2
    have hx := q_ix hi (show j < c by omega)
    have ix : nI c * nI i + nI j = nI (i * c + j) := by rw [q_mul, q_add, Nat.mul_comm]
    have s1 : CK (5 * d + 8) (apM (be (wid pb j) (wLo pb nf (i * c + j) j)) s) := be_k _ _ (hs.le (by have := w.2.1; omega))
    have ih := m_entp hc hb hn hng hi kk okk d (j + 1) _ (by omega) s1
    have mk := m_mask (hb j (by omega)).2 (nf (i * c + j))
    unfold lb_Mo_addPalette_70 olb_Mo_addPalette_70 k_Mo_addPalette_116 ok_Mo_addPalette_116 k_Mo_addPalette_119 ok_Mo_addPalette_119
    rw [if_neg k, if_neg k, ix, q_cl (by omega), q_cl (by omega), q_in (by omega), q_in (by omega), ← (hb j (by omega)).1, ← hng _ hx, w.2.2, ← mk, q_addM s _ (by omega), ← nI_succ]
    have e : apM (wEn pb nf (i * c) (d + 1) j) s = apM (wEn pb nf (i * c) d (j + 1)) (apM (be (wid pb j) (wLo pb nf (i * c + j) j)) s) := apM_app _ _ s
    rw [e]
    exact ⟨ih.1, fun ho => ⟨by omega, by omega, by omega, trivial, (hs.le (by omega)).add _ (by omega), ih.2 ho⟩⟩
