/-- may it be written: lines whose first number lies below -/
def afb (f : Nat → Int32) (lim : Int32) : Nat → Nat → Int32
  | 0, _ => 1
  | d + 1, j => if f (3 * j) < lim then afb f lim d (j + 1) else 0
theorem afb_eq {f g : Nat → Int32} (lim : Int32) : ∀ (d j : Nat), (∀ k, k < 3 * (j + d) → f k = g k) → afb f lim d j = afb g lim d j
  | 0, _, _ => rfl
  | d + 1, j, h => by
    have e := h (3 * j) (by omega)
    have ih := afb_eq lim d (j + 1) (fun k hk => h k (by omega))
    show (if f (3 * j) < lim then afb f lim d (j + 1) else 0) = (if g (3 * j) < lim then afb g lim d (j + 1) else 0)
    rw [e, ih]
theorem afb_01 (f : Nat → Int32) (lim : Int32) : ∀ (d j : Nat), afb f lim d j = 0 ∨ afb f lim d j = 1
  | 0, _ => Or.inr rfl
  | d + 1, j => by
    show (if f (3 * j) < lim then afb f lim d (j + 1) else 0) = 0 ∨ (if f (3 * j) < lim then afb f lim d (j + 1) else 0) = 1
    by_cases a : f (3 * j) < lim
    · rw [if_pos a]; exact afb_01 f lim d (j + 1)
    · rw [if_neg a]; exact Or.inl rfl
theorem w_afb {c : Nat} (hc : c ≤ 16) (f : Nat → Int32) (lim : Int32) : ∀ (d j : Nat), j + d = c → lp_Li_allFirstBelow_2 (nI c) 48 f lim (d + 1) (nI j) = afb f lim d j
  | 0, j, h => by
    have k : nI c ≤ nI j := by rw [q_le (by omega) (by omega)]; omega
    show lb_Li_allFirstBelow_2 (nI c) 48 f lim (lp_Li_allFirstBelow_2 (nI c) 48 f lim 0) (nI j) = 1
    unfold lb_Li_allFirstBelow_2
    rw [if_pos k]
  | d + 1, j, h => by
    have k : ¬ nI c ≤ nI j := by rw [q_le (by omega) (by omega)]; omega
    have e : m_Li_part 48 f (nI j) 0 = f (3 * j) := q_part (w := 0) (by omega) f
    have ih := w_afb hc f lim d (j + 1) (by omega)
    show lb_Li_allFirstBelow_2 (nI c) 48 f lim (lp_Li_allFirstBelow_2 (nI c) 48 f lim (d + 1)) (nI j) = (if f (3 * j) < lim then afb f lim d (j + 1) else 0)
    unfold lb_Li_allFirstBelow_2 k_Li_allFirstBelow_13
    rw [if_neg k, e, ← nI_succ, ih]
theorem w_afb0 {c : Nat} (hc : c ≤ 16) (f : Nat → Int32) (lim : Int32) : m_Li_allFirstBelow (nI c) 48 f lim = afb f lim c 0 := by
  unfold m_Li_allFirstBelow
  rw [q_fuel (by omega)]
  exact w_afb hc f lim c 0 (by omega)
theorem n_b1 {v : Int32} (h : v = 0 ∨ v = 1) : narrow .boolean (.int v) = .int v := by rcases h with rfl | rfl <;> rfl
theorem m_w110 {li : Nat} (hl : li ≤ 16) (lg : Nat → Int32) (lim : Int32) : ∀ (d j : Nat) (v : Int32), j + d = li → (v = 0 ∨ v = 1) →
    lp_Mo_isWhole_110 (nI li) lg lim (d + 1) (nI j) v = (if v = 0 then 0 else afb lg lim d j) ∧ olp_Mo_isWhole_110 (nI li) lg lim (d + 1) (nI j) v
  | 0, j, v, h, hv => by
    have k : nI li ≤ nI j := by rw [q_le (by omega) (by omega)]; omega
    show lb_Mo_isWhole_110 (nI li) lg lim (lp_Mo_isWhole_110 (nI li) lg lim 0) (nI j) v = _ ∧ olb_Mo_isWhole_110 (nI li) lg lim (olp_Mo_isWhole_110 (nI li) lg lim 0) (nI j) v
    have n := n_b1 hv
    unfold lb_Mo_isWhole_110 olb_Mo_isWhole_110
    rw [if_pos k, if_pos k]
    refine ⟨?_, n, trivial⟩
    rcases hv with rfl | rfl <;> rfl
  | d + 1, j, v, h, hv => by
    have k : ¬ nI li ≤ nI j := by rw [q_le (by omega) (by omega)]; omega
    have i0 := m_w110 hl lg lim d (j + 1) 0 (by omega) (Or.inl rfl)
    have i1 := m_w110 hl lg lim d (j + 1) 1 (by omega) (Or.inr rfl)
    have z0 : (0 : Int32) = 0 := rfl
    have z1 : ¬ (1 : Int32) = 0 := by decide
    rw [if_pos z0] at i0
    rw [if_neg z1] at i1
    show lb_Mo_isWhole_110 (nI li) lg lim (lp_Mo_isWhole_110 (nI li) lg lim (d + 1)) (nI j) v = (if v = 0 then 0 else if lg (3 * j) < lim then afb lg lim d (j + 1) else 0) ∧ olb_Mo_isWhole_110 (nI li) lg lim (olp_Mo_isWhole_110 (nI li) lg lim (d + 1)) (nI j) v
    unfold lb_Mo_isWhole_110 olb_Mo_isWhole_110 j_Mo_isWhole_138 oj_Mo_isWhole_138
    rw [if_neg k, if_neg k, q_3m, q_cl (by omega), q_in (by omega), ← nI_succ]
    rcases hv with rfl | rfl
    · rw [if_pos z0, if_pos z0, if_pos z0]; exact i0
    · rw [if_neg z1, if_neg z1, if_neg z1]
      by_cases a : lg (3 * j) < lim
      · have b : ¬ lim ≤ lg (3 * j) := fun q => absurd a (Int32.not_lt.2 q)
        rw [if_neg b, if_neg b, if_pos a]
        exact ⟨i1.1, by omega, i1.2⟩
      · have b : lim ≤ lg (3 * j) := Int32.not_lt.1 a
        rw [if_pos b, if_pos b, if_neg a]
        exact ⟨i0.1, by omega, i0.2⟩
def chn (co ma : Nat) : Int32 := if nI ma ≤ 0 then nI co else nI ma
def w47 (co ma li : Nat) (mg lg : Nat → Int32) (v : Int32) : Int32 := if v = 0 then 0 else afb lg (chn co ma) li 0
theorem m_w107 {co ma li : Nat} (hl : li ≤ 16) (mg lg : Nat → Int32) {v : Int32} (hv : v = 0 ∨ v = 1) :
    (if nI ma ≤ 0 then j_Mo_isWhole_107 (nI li) lg v (nI co) else j_Mo_isWhole_107 (nI li) lg v (nI ma)) = w47 co ma li mg lg v ∧ (if nI ma ≤ 0 then oj_Mo_isWhole_107 (nI li) lg v (nI co) else oj_Mo_isWhole_107 (nI li) lg v (nI ma)) := by
  unfold j_Mo_isWhole_107 oj_Mo_isWhole_107 w47 chn
  rw [q_fuel (by omega)]
  by_cases a : nI ma ≤ 0
  · rw [if_pos a, if_pos a, if_pos a]; exact m_w110 hl lg (nI co) li 0 v (by omega) hv
  · rw [if_neg a, if_neg a, if_neg a]; exact m_w110 hl lg (nI ma) li 0 v (by omega) hv
theorem m_w50 {co ma li : Nat} (hm : ma ≤ 16) (hl : li ≤ 16) (mg lg : Nat → Int32) : ∀ (d j : Nat) (v : Int32), j + d = ma → (v = 0 ∨ v = 1) →
    lp_Mo_isWhole_50 (nI co) (nI ma) (nI li) mg lg (d + 1) (nI j) v = w47 co ma li mg lg (if v = 0 then 0 else afb mg (nI co) d j) ∧ olp_Mo_isWhole_50 (nI co) (nI ma) (nI li) mg lg (d + 1) (nI j) v
  | 0, j, v, h, hv => by
    have k : nI ma ≤ nI j := by rw [q_le (by omega) (by omega)]; omega
    have t := m_w107 (co := co) (ma := ma) hl mg lg hv
    show lb_Mo_isWhole_50 (nI co) (nI ma) (nI li) mg lg (lp_Mo_isWhole_50 (nI co) (nI ma) (nI li) mg lg 0) (nI j) v = w47 co ma li mg lg (if v = 0 then 0 else 1) ∧ olb_Mo_isWhole_50 (nI co) (nI ma) (nI li) mg lg (olp_Mo_isWhole_50 (nI co) (nI ma) (nI li) mg lg 0) (nI j) v
    have e : (if v = 0 then (0 : Int32) else 1) = v := by rcases hv with rfl | rfl <;> rfl
    unfold lb_Mo_isWhole_50 olb_Mo_isWhole_50
    rw [if_pos k, if_pos k, e]
    exact t
  | d + 1, j, v, h, hv => by
    have k : ¬ nI ma ≤ nI j := by rw [q_le (by omega) (by omega)]; omega
    have i0 := m_w50 (co := co) hm hl mg lg d (j + 1) 0 (by omega) (Or.inl rfl)
    have i1 := m_w50 (co := co) hm hl mg lg d (j + 1) 1 (by omega) (Or.inr rfl)
    have z0 : (0 : Int32) = 0 := rfl
    have z1 : ¬ (1 : Int32) = 0 := by decide
    rw [if_pos z0] at i0
    rw [if_neg z1] at i1
    show lb_Mo_isWhole_50 (nI co) (nI ma) (nI li) mg lg (lp_Mo_isWhole_50 (nI co) (nI ma) (nI li) mg lg (d + 1)) (nI j) v = w47 co ma li mg lg (if v = 0 then 0 else if mg (3 * j) < nI co then afb mg (nI co) d (j + 1) else 0) ∧ olb_Mo_isWhole_50 (nI co) (nI ma) (nI li) mg lg (olp_Mo_isWhole_50 (nI co) (nI ma) (nI li) mg lg (d + 1)) (nI j) v
    unfold lb_Mo_isWhole_50 olb_Mo_isWhole_50 j_Mo_isWhole_81 oj_Mo_isWhole_81
    rw [if_neg k, if_neg k, q_3m, q_cl (by omega), q_in (by omega), ← nI_succ]
    rcases hv with rfl | rfl
    · rw [if_pos z0, if_pos z0, if_pos z0]; exact i0
    · rw [if_neg z1, if_neg z1, if_neg z1]
      by_cases a : mg (3 * j) < nI co
      · have b : ¬ nI co ≤ mg (3 * j) := fun q => absurd a (Int32.not_lt.2 q)
        rw [if_neg b, if_neg b, if_pos a]
        exact ⟨i1.1, by omega, i1.2⟩
      · have b : nI co ≤ mg (3 * j) := Int32.not_lt.1 a
        rw [if_pos b, if_pos b, if_neg a]
        exact ⟨i0.1, by omega, i0.2⟩
theorem m_w47 {co ma li : Nat} (hm : ma ≤ 16) (hl : li ≤ 16) (mg lg : Nat → Int32) {v : Int32} (hv : v = 0 ∨ v = 1) : j_Mo_isWhole_47 (nI co) (nI ma) (nI li) mg lg v = w47 co ma li mg lg (if v = 0 then 0 else afb mg (nI co) ma 0) ∧ oj_Mo_isWhole_47 (nI co) (nI ma) (nI li) mg lg v := by
  unfold j_Mo_isWhole_47 oj_Mo_isWhole_47
  rw [q_fuel (by omega)]
  exact m_w50 hm hl mg lg ma 0 v (by omega) hv
theorem m_w47_0 {co ma li : Nat} (hm : ma ≤ 16) (hl : li ≤ 16) (mg lg : Nat → Int32) : j_Mo_isWhole_47 (nI co) (nI ma) (nI li) mg lg 0 = 0 ∧ oj_Mo_isWhole_47 (nI co) (nI ma) (nI li) mg lg 0 := by
  have t := m_w47 (co := co) hm hl mg lg (v := 0) (Or.inl rfl)
  refine ⟨?_, t.2⟩
  rw [t.1]; rfl
theorem c_w55 {co ma li : Nat} (hm : ma ≤ 16) (hl : li ≤ 16) {mf mg lf lg : Nat → Int32} (hmg : ∀ k, k < 3 * ma → mf k = mg k) (hL : ∀ k, k < 3 * li → lf k = lg k) (h0 : ¬ nI co ≤ 0) :
    j_Pl_canBeWritten_55 (nI co) (nI ma) 48 mf (nI li) 48 lf 1 1 = j_Mo_isWhole_47 (nI co) (nI ma) (nI li) mg lg 1 := by
  have t := (m_w47 (co := co) hm hl mg lg (v := 1) (Or.inr rfl)).1
  have z1 : ¬ (1 : Int32) = 0 := by decide
  have ec : m_Pl_channelCount (nI co) (nI ma) = chn co ma := rfl
  have e1 := afb_eq (nI co) ma 0 (fun k hk => hmg k (by omega))
  have e2 := afb_eq (chn co ma) li 0 (fun k hk => hL k (by omega))
  rw [if_neg z1] at t
  rw [t]
  unfold j_Pl_canBeWritten_55 k_Pl_canBeWritten_79 k_Pl_canBeWritten_90 k_Pl_canBeWritten_93 w47
  rw [if_neg h0, if_neg z1, if_neg z1, w_afb0 hm, ec, w_afb0 hl, e1, e2]
  by_cases a : afb mg (nI co) ma 0 = 0
  · rw [if_pos a, if_pos a]
  · rw [if_neg a, if_neg a]
    rcases afb_01 lg (chn co ma) li 0 with b | b
    · rw [b]; rfl
    · rw [b]; rfl
theorem c_w29 {co en ma li : Nat} (hm : ma ≤ 16) (hl : li ≤ 16) {mf mg lf lg : Nat → Int32} (hmg : ∀ k, k < 3 * ma → mf k = mg k) (hL : ∀ k, k < 3 * li → lf k = lg k) (h0 : ¬ nI co ≤ 0) :
    j_Pl_canBeWritten_29 (nI co) (nI en) (nI ma) 48 mf (nI li) 48 lf 1 = j_Mo_isWhole_28 (nI co) (nI en) (nI ma) (nI li) mg lg ∧ oj_Mo_isWhole_28 (nI co) (nI en) (nI ma) (nI li) mg lg := by
  have W := c_w55 hm hl hmg hL h0
  have O := (m_w47 (co := co) hm hl mg lg (v := 1) (Or.inr rfl)).2
  have O0 := m_w47_0 (co := co) hm hl mg lg
  have z1 : ¬ (1 : Int32) = 0 := by decide
  unfold j_Pl_canBeWritten_29 j_Mo_isWhole_28 oj_Mo_isWhole_28 j_Pl_canBeWritten_50 j_Mo_isWhole_42 oj_Mo_isWhole_42 j_Mo_isWhole_46 oj_Mo_isWhole_46
  by_cases a : nI en = 0
  · rw [if_pos a, if_pos a, if_pos a]; exact ⟨W, O⟩
  · rw [if_neg a, if_neg a, if_neg a]
    by_cases b : nI ma ≤ 0
    · rw [if_pos b, if_pos b, if_pos b]
      refine ⟨?_, O0.2⟩
      rw [O0.1]
      unfold j_Pl_canBeWritten_55
      rw [if_neg h0, if_neg z1, if_pos rfl]
    · rw [if_neg b, if_neg b, if_neg b]; exact ⟨W, O⟩
theorem c_w55z (co ma li : Int32) (mf lf : Nat → Int32) (a b : Int32) (h : co ≤ 0 ∨ a = 0) : j_Pl_canBeWritten_55 co ma 48 mf li 48 lf a b = 0 := by
  unfold j_Pl_canBeWritten_55
  by_cases c : co ≤ 0
  · rw [if_pos c]
  · rw [if_neg c, if_pos (h.resolve_left c)]
theorem c_w29z (co en ma li : Int32) (mf lf : Nat → Int32) (a : Int32) (h : co ≤ 0 ∨ a = 0) : j_Pl_canBeWritten_29 co en ma 48 mf li 48 lf a = 0 := by
  unfold j_Pl_canBeWritten_29 j_Pl_canBeWritten_50
  by_cases x : en = 0
  · rw [if_pos x]; exact c_w55z _ _ _ _ _ _ _ h
  · rw [if_neg x]
    by_cases y : ma ≤ 0
    · rw [if_pos y]; exact c_w55z _ _ _ _ _ _ _ h
    · rw [if_neg y]; exact c_w55z _ _ _ _ _ _ _ h
theorem p_whole {co pk en ma li : Nat} (hm : ma ≤ 16) (hl : li ≤ 16) {mf mg lf lg : Nat → Int32} (hmg : ∀ k, k < 3 * ma → mf k = mg k) (hL : ∀ k, k < 3 * li → lf k = lg k) {has col pr : Int32} (hpk : pk ≤ 1024) (hcol : 0 ≤ col) (hP : (has = 0 ∧ pk = 0 ∧ pr = -1) ∨ (has = 1 ∧ col = 0 ∧ pr = nI pk)) :
    m_Pl_canBeWritten (nI co) col has (nI pk) (nI en) (nI ma) 48 mf (nI li) 48 lf = m_Mo_isWhole (nI co) col pr (nI en) (nI ma) (nI li) mg lg ∧ om_Mo_isWhole (nI co) col pr (nI en) (nI ma) (nI li) mg lg := by
  have O0 := m_w47_0 (co := co) hm hl mg lg
  unfold m_Pl_canBeWritten m_Mo_isWhole om_Mo_isWhole j_Pl_canBeWritten_28 j_Pl_canBeWritten_24 j_Mo_isWhole_46 oj_Mo_isWhole_46
  by_cases c : nI co ≤ 0
  · have q0 := c_w29z (nI co) (nI en) (nI ma) (nI li) mf lf 0 (Or.inl c)
    have q1 := c_w29z (nI co) (nI en) (nI ma) (nI li) mf lf 1 (Or.inl c)
    rw [if_pos c, if_pos c, q0, q1, O0.1]
    refine ⟨?_, O0.2⟩
    simp only [ite_self]
  · have q0 := c_w29z (nI co) (nI en) (nI ma) (nI li) mf lf 0 (Or.inr rfl)
    have q1 := c_w29 (en := en) hm hl hmg hL c
    rw [if_neg c, if_neg c, q0, q1.1, O0.1]
    rcases hP with ⟨rfl, rfl, rfl⟩ | ⟨rfl, rfl, rfl⟩
    · have z1 : ¬ (0 : Int32) < -1 := by decide
      have z2 : ¬ (0 : Int32) ≤ -1 := by decide
      have z3 : (0 : Int32) = 0 := rfl
      rw [if_neg z1, if_neg z1, if_neg z2, if_neg z2, if_pos z3]
      by_cases d : col = 0
      · have d1 : col ≤ 0 := by rw [d]; decide
        rw [if_pos d, if_pos d1, if_pos d1]; exact ⟨rfl, O0.2⟩
      · have d1 : ¬ col ≤ 0 := fun h => d (Int32.le_antisymm h hcol)
        rw [if_neg d, if_neg d1, if_neg d1]; exact ⟨rfl, q1.2⟩
    · have z1 : ¬ (1 : Int32) = 0 := by decide
      have z3 : (0 : Int32) = 0 := rfl
      rw [if_pos z3, if_neg z1]
      by_cases d : pk = 0
      · have d1 : nI pk ≤ 0 := by rw [h_le0 (by omega)]; exact d
        have d2 : ¬ 0 < nI pk := Int32.not_lt.2 d1
        have d3 : 0 ≤ nI pk := by rw [q_0l (by omega)]; trivial
        rw [if_pos d1, if_neg d2, if_neg d2, if_pos d3, if_pos d3]; exact ⟨rfl, O0.2⟩
      · have d1 : ¬ nI pk ≤ 0 := by rw [h_le0 (by omega)]; exact d
        have d2 : 0 < nI pk := Int32.not_le.1 d1
        rw [if_neg d1, if_pos d2, if_pos d2]; exact ⟨rfl, q1.2⟩
