theorem lHd_le {al has : Int32} {co pk en cl ma li : Nat} {pb fc fd : Nat → Int32} (hco : co ≤ 16) (hpk : pk ≤ 1024) (he : en ≤ 1024) (hc : cl ≤ 8) (hm : ma ≤ 16) (hl : li ≤ 16) (hb : ∀ k, k < cl → VB (pb k)) : lHd al has co pk en cl ma li pb fc fd ≤ 52000 := by
  have h1 := lPa_le he hc hb
  have h2 : lBi al co ≤ 24 := by unfold lBi; split <;> omega
  have h3 : lCo has pk ≤ 1035 := by unfold lCo; split <;> omega
  have h4 : lMa en ma ≤ 72 := by unfold lMa; split <;> omega
  have h5 : lMe li ≤ 106 := by unfold lMe; split <;> omega
  have r1 := wRl_le fc
  have r2 := wRl_le fd
  have h6 : lRe fc fd ≤ 44 := by unfold lRe; split <;> omega
  unfold lHd
  omega
theorem w_rf0 : m_Mo_refuse 0 = (0, 0) := by decide
theorem w_rf1 : m_Mo_refuse 1 = (1, 1) := by decide
theorem w_rf2 : m_Mo_refuse 2 = (1, 2) := by decide
theorem w_rf3 : m_Mo_refuse 3 = (1, 3) := by decide
theorem w_orf (x : Int32) : om_Mo_refuse x := by unfold om_Mo_refuse; split <;> trivial
theorem w_fit {sz T : Nat} (h : sz + T ≤ 65536) (sc : Int32) (g : Nat → Int32) : j_Mo_write_137 (nI sz) sc (nI (sz + T)) g = (nI T, 0, nI (sz + T), 0, nI (sz + T), g) := by
  have k : nI (sz + T) ≤ 65536 := by rw [show (65536 : Int32) = nI 65536 from rfl, q_le (by omega) (by decide)]; exact h
  have e : nI (sz + T) - nI sz = nI T := by rw [q_sub (by omega), show sz + T - sz = T by omega]
  unfold j_Mo_write_137 j_Mo_write_152 k_Mo_write_152
  rw [if_pos k, w_rf0, e]
  rfl
theorem w_unfit {sz T : Nat} (h : 65536 < sz + T) (h2 : sz + T < 1000000) (sc : Int32) (g : Nat → Int32) : j_Mo_write_137 (nI sz) sc (nI (sz + T)) g = (0, 3, nI sz, sc, nI (sz + T), g) := by
  have k : ¬ nI (sz + T) ≤ 65536 := by rw [show (65536 : Int32) = nI 65536 from rfl, q_le (by omega) (by decide)]; omega
  unfold j_Mo_write_137 j_Mo_write_152 k_Mo_write_152
  rw [if_neg k, w_rf3]
  rfl
theorem w_x6 {p1 : Int32} {b : Int32} (h : (if 0 ≤ p1 ∧ p1 ≤ 65536 then (1 : Int32) else 0) = b) : m_Mo_in p1.toInt64 0 65536 = b := by
  have e0 : (0 : Int32).toInt64 = (0 : Int64) := by decide
  have e1 : (65536 : Int32).toInt64 = (65536 : Int64) := by decide
  rw [← e0, ← e1, q_in32]
  exact h
theorem w_co {co en ma li : Int32} {col has pk : Int32} {mf lf : Nat → Int32} (h : ¬ m_Pl_canBeWritten co col has pk en ma 48 mf li 48 lf = 0) : ¬ co ≤ 0 := by
  intro c
  refine h ?_
  have q0 := c_w29z co en ma li mf lf 0 (Or.inl c)
  have q1 := c_w29z co en ma li mf lf 1 (Or.inl c)
  unfold m_Pl_canBeWritten j_Pl_canBeWritten_28 j_Pl_canBeWritten_24
  rw [q0, q1]
  simp only [ite_self]
theorem w_refA {sz co en cl ma li : Nat} {sc hi wi un ri col pr p1 p2 cur : Int32} {gf gb rs cb pg mg lg : Nat → Int32} {ng : Nat → Int64} (hx : m_Mo_in p1.toInt64 0 65536 = 0) : m_Mo_write hi wi (nI co) un ri col pr (nI en) (nI cl) (nI ma) (nI li) (nI sz) sc cur gf gb rs cb pg ng mg lg p1 p2 = (0, 1, nI sz, sc, cur, gf) ∧ om_Mo_write hi wi (nI co) un ri col pr (nI en) (nI cl) (nI ma) (nI li) (nI sz) gf gb rs cb pg ng mg lg p1 p2 := by
  have z : (0 : Int32) = 0 := rfl
  have z1 : ¬ ((1 : Int32), (1 : Int32)).1 = 0 := by decide
  unfold m_Mo_write om_Mo_write k_Mo_write_6 ok_Mo_write_6 j_Mo_write_31 oj_Mo_write_31 k_Mo_write_31 ok_Mo_write_31
  rw [hx, if_pos z, if_pos z, w_rf1, if_neg z1, if_neg z1, q_oin]
  exact ⟨rfl, trivial, w_orf _, trivial⟩
theorem w_refB {sz co en cl ma li : Nat} {sc hi wi un ri col pr p1 p2 cur : Int32} {gf gb rs cb pg mg lg : Nat → Int32} {ng : Nat → Int64} (hx : m_Mo_in p1.toInt64 0 65536 = 1) (hw : m_Mo_isWhole (nI co) col pr (nI en) (nI ma) (nI li) mg lg = 0) (how : om_Mo_isWhole (nI co) col pr (nI en) (nI ma) (nI li) mg lg) : m_Mo_write hi wi (nI co) un ri col pr (nI en) (nI cl) (nI ma) (nI li) (nI sz) sc cur gf gb rs cb pg ng mg lg p1 p2 = (0, 2, nI sz, sc, cur, gf) ∧ om_Mo_write hi wi (nI co) un ri col pr (nI en) (nI cl) (nI ma) (nI li) (nI sz) gf gb rs cb pg ng mg lg p1 p2 := by
  have z : (0 : Int32) = 0 := rfl
  have z1 : ¬ (1 : Int32) = 0 := by decide
  have z2 : ¬ ((1 : Int32), (2 : Int32)).1 = 0 := by decide
  unfold m_Mo_write om_Mo_write k_Mo_write_6 ok_Mo_write_6 k_Mo_write_20 ok_Mo_write_20 j_Mo_write_31 oj_Mo_write_31
  rw [hx, if_neg z1, if_neg z1, hw, if_pos z, if_pos z, w_rf2]
  unfold k_Mo_write_31 ok_Mo_write_31
  rw [if_neg z2, if_neg z2, q_oin]
  exact ⟨rfl, trivial, how, w_orf _, trivial⟩
theorem w_refC {sz co en cl ma li : Nat} {sc hi wi un ri col pr p1 p2 cur : Int32} {gf gb rs cb pg mg lg : Nat → Int32} {ng : Nat → Int64} (hx : m_Mo_in p1.toInt64 0 65536 = 1) (hw : ¬ m_Mo_isWhole (nI co) col pr (nI en) (nI ma) (nI li) mg lg = 0) (how : om_Mo_isWhole (nI co) col pr (nI en) (nI ma) (nI li) mg lg) {X : Int32 × Int32 × Int32 × Int32 × Int32 × (Nat → Int32)} (t : k_Mo_write_31 hi wi (nI co) un ri col pr (nI en) (nI cl) (nI ma) (nI li) (nI sz) sc cur gf gb rs cb pg ng mg lg p1 p2 (0, 0) = X ∧ ok_Mo_write_31 hi wi (nI co) un ri col pr (nI en) (nI cl) (nI ma) (nI li) (nI sz) gf gb rs cb pg ng mg lg p1 p2 (0, 0)) : m_Mo_write hi wi (nI co) un ri col pr (nI en) (nI cl) (nI ma) (nI li) (nI sz) sc cur gf gb rs cb pg ng mg lg p1 p2 = X ∧ om_Mo_write hi wi (nI co) un ri col pr (nI en) (nI cl) (nI ma) (nI li) (nI sz) gf gb rs cb pg ng mg lg p1 p2 := by
  have z1 : ¬ (1 : Int32) = 0 := by decide
  unfold m_Mo_write om_Mo_write k_Mo_write_6 ok_Mo_write_6 k_Mo_write_20 ok_Mo_write_20 j_Mo_write_31 oj_Mo_write_31
  rw [hx, if_neg z1, if_neg z1, if_neg hw, if_neg hw, w_rf0, q_oin]
  exact ⟨t.1, trivial, how, w_orf _, t.2⟩
theorem w_cla {sc hi wi un ri col has p1 p2 : Int32} {co sz nr pk pn en cl nn ma li : Nat} {fb fw pf pb mf lf fc fd : Nat → Int32} {nf fo : Nat → Int64} (h : ¬ (0 ≤ p1 ∧ p1 ≤ 65536)) : m_La_write sc hi wi (nI co) un ri col has (nI pk) (nI en) (nI cl) (nI ma) 48 mf (nI li) 48 lf 16 fb 8 pb 6 fc 6 fd 65536 (nI sz) nr fw pn pf nn nf fo p1 p2 = (1, sc, nI sz, nr, fw, fo) := by
  unfold m_La_write m_FB_write j_FB_write_10
  by_cases a : p1 < 0
  · rw [if_pos a]; rfl
  · have b : ¬ p1 ≤ 65536 := fun q => h ⟨Int32.not_lt.1 a, q⟩
    rw [if_neg a, if_neg b]; rfl
theorem w_clb {sc hi wi un ri col has p1 p2 : Int32} {co sz nr pk pn en cl nn ma li : Nat} {fb fw pf pb mf lf fc fd : Nat → Int32} {nf fo : Nat → Int64} (h : 0 ≤ p1 ∧ p1 ≤ 65536) (hw : m_Pl_canBeWritten (nI co) col has (nI pk) (nI en) (nI ma) 48 mf (nI li) 48 lf = 0) : m_La_write sc hi wi (nI co) un ri col has (nI pk) (nI en) (nI cl) (nI ma) 48 mf (nI li) 48 lf 16 fb 8 pb 6 fc 6 fd 65536 (nI sz) nr fw pn pf nn nf fo p1 p2 = (2, sc, nI sz, nr, fw, fo) := by
  have z : (0 : Int32) = 0 := rfl
  unfold m_La_write m_FB_write
  rw [if_neg (Int32.not_lt.2 h.1), if_pos h.2]
  unfold k_FB_write_25
  rw [hw, if_pos z]; rfl
theorem w_clc {sc hi wi un ri col has p1 p2 : Int32} {co sz nr pk pn en cl nn ma li : Nat} {fb fw pf pb mf lf fc fd : Nat → Int32} {nf fo : Nat → Int64} (h : 0 ≤ p1 ∧ p1 ≤ 65536) (hw : ¬ m_Pl_canBeWritten (nI co) col has (nI pk) (nI en) (nI ma) 48 mf (nI li) 48 lf = 0) {T : Nat} (hT : m_Wr_lengthOfAll (nI co) has 16 fb (nI pk) (nI en) (nI cl) 8 pb (nI ma) (nI li) 6 fc 6 fd p2 = nI T) (hs : sz + T < 1000000) :
    (65536 < sz + T → m_La_write sc hi wi (nI co) un ri col has (nI pk) (nI en) (nI cl) (nI ma) 48 mf (nI li) 48 lf 16 fb 8 pb 6 fc 6 fd 65536 (nI sz) nr fw pn pf nn nf fo p1 p2 = (3, sc, nI sz, nr, fw, fo)) ∧ (sz + T ≤ 65536 → ∀ (n2 : Nat) (f2 f3 : Nat → Int32), m_By_makeRoom 65536 (nI sz) nr fw (nI T) = (n2, f2) → m_Wr_putAll (nI sz) n2 f2 hi wi (nI co) un ri col has 16 fb (nI pk) (nI en) (nI cl) 8 pb (nI ma) (nI li) 6 fc 6 fd pn pf nn nf 48 mf 48 lf p1 p2 = (nI (sz + T), f3) → m_La_write sc hi wi (nI co) un ri col has (nI pk) (nI en) (nI cl) (nI ma) 48 mf (nI li) 48 lf 16 fb 8 pb 6 fc 6 fd 65536 (nI sz) nr fw pn pf nn nf fo p1 p2 = (0, 0, nI (sz + T), n2, f3, vp_updL fo 0 (nI T).toInt64)) := by
  have e : (nI (sz + T) ≤ 65536) = (sz + T ≤ 65536) := by rw [show (65536 : Int32) = nI 65536 from rfl, q_le (by omega) (by decide)]
  unfold m_La_write m_FB_write
  rw [if_neg (Int32.not_lt.2 h.1), if_pos h.2]
  unfold k_FB_write_25
  rw [if_neg hw, hT]
  unfold k_FB_write_47
  rw [q_add]
  refine ⟨fun a => ?_, fun a n2 f2 f3 h1 h2 => ?_⟩
  · have k : ¬ nI (sz + T) ≤ 65536 := by rw [e]; omega
    rw [if_neg k]; rfl
  · have k : nI (sz + T) ≤ 65536 := by rw [e]; exact a
    rw [if_pos k, h1]
    unfold k_FB_write_81
    show k_La_write_5 fo (k_FB_write_94 (nI T) (n2, f2) (m_Wr_putAll (nI sz) n2 f2 hi wi (nI co) un ri col has 16 fb (nI pk) (nI en) (nI cl) 8 pb (nI ma) (nI li) 6 fc 6 fd pn pf nn nf 48 mf 48 lf p1 p2)) = _
    rw [h2]
    rfl
