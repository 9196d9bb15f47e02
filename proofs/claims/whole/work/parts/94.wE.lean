def swid (pb : Nat → Int32) : Nat → Nat → Nat
  | 0, _ => 0
  | d + 1, j => wid pb j + swid pb d (j + 1)
theorem swid_le {pb : Nat → Int32} {c : Nat} (hb : ∀ k, k < c → VB (pb k)) : ∀ d j, j + d = c → swid pb d j ≤ 5 * d
  | 0, _, _ => Nat.le_refl _
  | d + 1, j, h => by
    have h1 := (w_wid (hb j (by omega))).2.1
    have h2 := swid_le hb d (j + 1) (by omega)
    show wid pb j + swid pb d (j + 1) ≤ _
    omega
theorem w_el {c : Nat} (hc : c ≤ 8) {pb : Nat → Int32} (hb : ∀ k, k < c → VB (pb k)) : ∀ (d j acc : Nat), j + d = c → lp_Pa_entryLength_4 (nI c) 8 pb (d + 1) (nI j) (nI acc) = nI (acc + swid pb d j)
  | 0, j, acc, h => by
    show lb_Pa_entryLength_4 (nI c) 8 pb (lp_Pa_entryLength_4 (nI c) 8 pb 0) (nI j) (nI acc) = _
    unfold lb_Pa_entryLength_4
    rw [il_p (by omega) (by omega) (by omega)]; rfl
  | d + 1, j, acc, h => by
    show lb_Pa_entryLength_4 (nI c) 8 pb (lp_Pa_entryLength_4 (nI c) 8 pb (d + 1)) (nI j) (nI acc) = _
    have w := w_wid (hb j (by omega))
    unfold lb_Pa_entryLength_4 k_Pa_entryLength_18 k_Pa_entryLength_21
    rw [il_n (by omega) (by omega) (by omega), q_valIn (by decide) (by omega), w.1, q_add, ← nI_succ, w_el hc hb d (j + 1) _ (by omega)]
    show nI (acc + wid pb j + swid pb d (j + 1)) = nI (acc + (wid pb j + swid pb d (j + 1)))
    rw [Nat.add_assoc]
/-- the lengths of the boxes -/
def lBi (al : Int32) (c : Nat) : Nat := if al = 0 then 8 + c else 0
def lCo (has : Int32) (pk : Nat) : Nat := if has = 0 then 15 else 11 + pk
def lPa (en cl : Nat) (pb : Nat → Int32) : Nat := if en = 0 then 0 else 11 + cl + en * swid pb cl 0
def lMa (en ma : Nat) : Nat := if en = 0 then 0 else 8 + 4 * ma
def lMe (li : Nat) : Nat := if li = 0 then 0 else 10 + 6 * li
def lRe (fc fd : Nat → Int32) : Nat := if wRl fc + wRl fd = 0 then 0 else 8 + (wRl fc + wRl fd)
theorem w_lenPa {en cl : Nat} (he : en ≤ 1024) (hc : cl ≤ 8) {pb : Nat → Int32} (hb : ∀ k, k < cl → VB (pb k)) : m_Wr_lengthOfPalette (nI en) (nI cl) 8 pb = nI (lPa en cl pb) := by
  have h := w_el hc hb cl 0 0 (by omega)
  have h0 : m_Pa_entryLength (nI cl) 8 pb = nI (swid pb cl 0) := by
    unfold m_Pa_entryLength
    rw [q_fuel (by omega)]
    rw [Nat.zero_add] at h; exact h
  simp only [m_Wr_lengthOfPalette, k_Wr_lengthOfPalette_28, h0, q_e0 (show en < 2147483648 by omega), lPa, show (11 : Int32) = nI 11 from rfl, q_mul, q_add]
  by_cases a : en = 0
  · rw [if_pos a, if_pos a]; rfl
  · rw [if_neg a, if_neg a]
theorem lPa_le {en cl : Nat} (he : en ≤ 1024) (hc : cl ≤ 8) {pb : Nat → Int32} (hb : ∀ k, k < cl → VB (pb k)) : lPa en cl pb ≤ 50000 := by
  have h1 := swid_le hb cl 0 (by omega)
  have h2 : en * swid pb cl 0 ≤ 1024 * 40 := Nat.mul_le_mul he (by omega)
  unfold lPa; split <;> omega
/-- PALETTE -/
theorem w_enp {e c nn : Nat} (he : e ≤ 1024) (hc : c ≤ 8) {pb : Nat → Int32} (hb : ∀ k, k < c → VB (pb k)) {nf : Nat → Int64} (hn : e * c ≤ nn) (hn2 : nn ≤ 4096) (n : Nat) : ∀ (d i : Nat) (s : Int32 × (Nat → Int32)), i + d = e → lp_Wr_putPalette_83 (nI e) (nI c) 8 pb n nn nf (d + 1) (nI i) s.1 s.2 = apC n (wEs pb nf c d i) s
  | 0, i, s, h => by
    show lb_Wr_putPalette_83 (nI e) (nI c) 8 pb n nn nf (lp_Wr_putPalette_83 (nI e) (nI c) 8 pb n nn nf 0) (nI i) s.1 s.2 = _
    unfold lb_Wr_putPalette_83
    rw [il_p (by omega) (by omega) (by omega)]; rfl
  | d + 1, i, s, h => by
    show lb_Wr_putPalette_83 (nI e) (nI c) 8 pb n nn nf (lp_Wr_putPalette_83 (nI e) (nI c) 8 pb n nn nf (d + 1)) (nI i) s.1 s.2 = _
    have w : m_Wr_putEntry (nI c) 8 pb nn nf s.1 n s.2 (nI i) = apC n (wEn pb nf (i * c) c 0) s := by
      unfold m_Wr_putEntry
      rw [q_fuel (by omega)]
      exact w_entp hc hb hn hn2 n (show i < e by omega) c 0 s (by omega)
    simp only [lb_Wr_putPalette_83, k_Wr_putPalette_96]
    rw [il_n (by omega) (by omega) (by omega), w, ← nI_succ, w_enp he hc hb hn hn2 n d (i + 1) _ (by omega)]
    exact (apC_app n _ _ s).symm
theorem w_clp {e c nn : Nat} (he : e ≤ 1024) (hc : c ≤ 8) {pb : Nat → Int32} (hb : ∀ k, k < c → VB (pb k)) {nf : Nat → Int64} (hn : e * c ≤ nn) (hn2 : nn ≤ 4096) (n : Nat) : ∀ (d j : Nat) (s : Int32 × (Nat → Int32)), j + d = c → lp_Wr_putPalette_49 (nI e) (nI c) 8 pb n nn nf (d + 1) (nI j) s.1 s.2 = apC n (wRow pb d j ++ wEs pb nf c e 0) s
  | 0, j, s, h => by
    show lb_Wr_putPalette_49 (nI e) (nI c) 8 pb n nn nf (lp_Wr_putPalette_49 (nI e) (nI c) 8 pb n nn nf 0) (nI j) s.1 s.2 = _
    unfold lb_Wr_putPalette_49
    rw [il_p (by omega) (by omega) (by omega), q_fuel (by omega)]
    exact w_enp he hc hb hn hn2 n e 0 s (by omega)
  | d + 1, j, s, h => by
    show lb_Wr_putPalette_49 (nI e) (nI c) 8 pb n nn nf (lp_Wr_putPalette_49 (nI e) (nI c) 8 pb n nn nf (d + 1)) (nI j) s.1 s.2 = _
    simp only [lb_Wr_putPalette_49, k_Wr_putPalette_68, k_Wr_putPalette_71]
    rw [il_n (by omega) (by omega) (by omega), q_valIn (by decide) (by omega), q_add1, ← nI_succ, w_clp he hc hb hn hn2 n d (j + 1) _ (by omega)]
    show _ = apC n ([bo (pb j).toInt] ++ (wRow pb d (j + 1) ++ wEs pb nf c e 0)) s
    exact (apC_app n _ _ s).symm
def wPa (en cl : Nat) (pb : Nat → Int32) (nf : Nat → Int64) : List Nat := if en = 0 then [] else wB (nI (lPa en cl pb)) 1885564018 ++ (be 2 (nI en).toInt64 ++ ([bo (nI cl).toInt] ++ (wRow pb cl 0 ++ wEs pb nf cl en 0)))
theorem w_pal {e c nn : Nat} (he : e ≤ 1024) (hc : c ≤ 8) {pb : Nat → Int32} (hb : ∀ k, k < c → VB (pb k)) {nf : Nat → Int64} (hn : e * c ≤ nn) (hn2 : nn ≤ 4096) (n : Nat) (s : Int32 × (Nat → Int32)) : m_Wr_putPalette (nI e) (nI c) 8 pb s.1 n s.2 nn nf = apC n (wPa e c pb nf) s := by
  have hl := lPa_le he hc hb
  simp only [m_Wr_putPalette, k_Wr_putPalette_6, k_Wr_putPalette_19, k_Wr_putPalette_32, k_Wr_putPalette_43, w_lenPa he hc hb, w_begin, q_addN2, q_add1, q_fuel (show c < 2147483648 by omega), q_e0 (show lPa e c pb < 2147483648 by omega)]
  by_cases a : e = 0
  · have z : lPa e c pb = 0 := by unfold lPa; rw [if_pos a]
    simp only [z, q_ref0, q_ref1, q_ref2, q_ref3, q10, q20, q30, n10, n20, n30, n40, n13, n43, n41, n23, n12, n32, q_oin, q_oab, q_oref, if_true, if_false, true_and, and_true, and_self, and_false, false_and, not_true_eq_false, not_false_eq_true, ne_eq, reduceIte, wPa, a]; rfl
  · have z : ¬ lPa e c pb = 0 := by unfold lPa; rw [if_neg a]; omega
    simp only [z, q_ref0, q_ref1, q_ref2, q_ref3, q10, q20, q30, n10, n20, n30, n40, n13, n43, n41, n23, n12, n32, q_oin, q_oab, q_oref, if_true, if_false, true_and, and_true, and_self, and_false, false_and, not_true_eq_false, not_false_eq_true, ne_eq, reduceIte, wPa, a]
    rw [apC_app, apC_app, apC_app]
    exact w_clp he hc hb hn hn2 n c 0 _ (by omega)
