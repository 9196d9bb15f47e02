theorem x_h22c (gf : Nat → Int32) (kk : Int32 → Int32 → Int32 → Int32 → Int32 → Int32 → Int32 → Int32 → Int32 → Int32 → Int32 → Int32 → Int32 → Int32 → Int32 → Int32 → Int32 → Int32 × Int32 × Int32 × Int32 × Int32 × Int32 × Int32 × Int32 × Int32 × Int32 × Int32 × Int32 × Int32 × Int32 × Int32 × Int32) (okk : Int32 → Int32 → Int32 → Int32 → Int32 → Int32 → Int32 → Int32 → Int32 → Int32 → Int32 → Int32 → Int32 → Int32 → Int32 → Int32 → Int32 → Prop) (first p ra zA bA cA cE pA mA mE hA kA dA rsv : Int32) (a1 a2 a3 : Int32) {c : Int32} (hc : c = 1 ∨ c = 3) : k_Mo_inHead_22 gf kk first p ra zA bA cA cE pA mA mE hA kA dA rsv (c, a1, a2, a3) = (c, p, a1, a2, a3, zA, bA, cA, cE, pA, mA, mE, hA, kA, dA, rsv) ∧ ok_Mo_inHead_22 gf okk first ra zA bA cA cE pA mA mE hA kA dA rsv (c, a1, a2, a3) := by
  have h0 : ¬ c = 0 := by rcases hc with rfl | rfl <;> decide
  have h1 : ¬ c ≤ 0 := by rcases hc with rfl | rfl <;> decide
  unfold k_Mo_inHead_22 ok_Mo_inHead_22
  dsimp only
  rw [if_neg h0, if_neg h0]
  unfold j_Mo_inHead_93 oj_Mo_inHead_93
  rw [if_neg h1, if_neg h1]
  exact ⟨rfl, trivial, trivial⟩
theorem x_93r (gf : Nat → Int32) (kk : Int32 → Int32 → Int32 → Int32 → Int32 → Int32 → Int32 → Int32 → Int32 → Int32 → Int32 → Int32 → Int32 → Int32 → Int32 → Int32 → Int32 → Int32 × Int32 × Int32 × Int32 × Int32 × Int32 × Int32 × Int32 × Int32 × Int32 × Int32 × Int32 × Int32 × Int32 × Int32 × Int32) (okk : Int32 → Int32 → Int32 → Int32 → Int32 → Int32 → Int32 → Int32 → Int32 → Int32 → Int32 → Int32 → Int32 → Int32 → Int32 → Int32 → Int32 → Prop) (p ra zA bA cA cE pA mA mE hA kA dA rsv : Int32) (nm f e : Int32) {r : Int32} (hr : ¬ r ≤ 0) : j_Mo_inHead_93 gf kk p ra zA bA cA cE pA mA mE hA kA dA rsv ((0 : Int32), nm, f, e) r = (r, p, nm, f, e, zA, bA, cA, cE, pA, mA, mE, hA, kA, dA, rsv) ∧ oj_Mo_inHead_93 gf okk ra zA bA cA cE pA mA mE hA kA dA rsv ((0 : Int32), nm, f, e) r := by
  unfold j_Mo_inHead_93 oj_Mo_inHead_93
  rw [if_neg hr, if_neg hr]
  exact ⟨rfl, trivial, trivial⟩
theorem x_93o (gf : Nat → Int32) (kk : Int32 → Int32 → Int32 → Int32 → Int32 → Int32 → Int32 → Int32 → Int32 → Int32 → Int32 → Int32 → Int32 → Int32 → Int32 → Int32 → Int32 → Int32 × Int32 × Int32 × Int32 × Int32 × Int32 × Int32 × Int32 × Int32 × Int32 × Int32 × Int32 × Int32 × Int32 × Int32 × Int32) (okk : Int32 → Int32 → Int32 → Int32 → Int32 → Int32 → Int32 → Int32 → Int32 → Int32 → Int32 → Int32 → Int32 → Int32 → Int32 → Int32 → Int32 → Prop) (p ra zA bA cA cE pA mA mE hA kA dA rsv : Int32) (nm f e : Int32) {zA2 bA2 cA2 cE2 pA2 mA2 mE2 hA2 : Int32} (hn : m_Mo_note nm f e zA bA cA cE pA mA mE hA gf = (zA2, bA2, cA2, cE2, pA2, mA2, mE2, hA2)) (ho : om_Mo_note nm f cA gf) (hm : ¬ nm = 1919251232) : j_Mo_inHead_93 gf kk p ra zA bA cA cE pA mA mE hA kA dA rsv ((0 : Int32), nm, f, e) 0 = kk 0 e ra nm f e zA2 bA2 cA2 cE2 pA2 mA2 mE2 hA2 kA dA rsv ∧ (okk 0 e ra nm f e zA2 bA2 cA2 cE2 pA2 mA2 mE2 hA2 kA dA rsv → oj_Mo_inHead_93 gf okk ra zA bA cA cE pA mA mE hA kA dA rsv ((0 : Int32), nm, f, e) 0) := by
  have z : (0 : Int32) ≤ 0 := by decide
  unfold j_Mo_inHead_93 oj_Mo_inHead_93
  rw [if_pos z, if_pos z]
  dsimp only
  rw [hn]
  unfold k_Mo_inHead_107 ok_Mo_inHead_107
  dsimp only
  rw [if_neg hm, if_neg hm]
  unfold j_Mo_inHead_132 oj_Mo_inHead_132
  dsimp only
  rw [if_pos z, if_pos z]
  exact ⟨rfl, fun w => ⟨ho, w⟩⟩
theorem x_93s (gf : Nat → Int32) (kk : Int32 → Int32 → Int32 → Int32 → Int32 → Int32 → Int32 → Int32 → Int32 → Int32 → Int32 → Int32 → Int32 → Int32 → Int32 → Int32 → Int32 → Int32 × Int32 × Int32 × Int32 × Int32 × Int32 × Int32 × Int32 × Int32 × Int32 × Int32 × Int32 × Int32 × Int32 × Int32 × Int32) (okk : Int32 → Int32 → Int32 → Int32 → Int32 → Int32 → Int32 → Int32 → Int32 → Int32 → Int32 → Int32 → Int32 → Int32 → Int32 → Int32 → Int32 → Prop) (p ra zA bA cA cE pA mA mE hA kA dA rsv : Int32) (nm f e : Int32) {zA2 bA2 cA2 cE2 pA2 mA2 mE2 hA2 : Int32} (hn : m_Mo_note nm f e zA bA cA cE pA mA mE hA gf = (zA2, bA2, cA2, cE2, pA2, mA2, mE2, hA2)) (ho : om_Mo_note nm f cA gf) (hm : nm = 1919251232) {r b1 b2 b3 b4 b5 b6 b7 : Int32} (hx : m_Mo_inResolution ra nm f e kA dA gf = (r, b1, b2, b3, b4, b5, b6, b7)) (hox : om_Mo_inResolution nm f e kA dA gf) :
    (¬ r ≤ 0 → j_Mo_inHead_93 gf kk p ra zA bA cA cE pA mA mE hA kA dA rsv ((0 : Int32), nm, f, e) 0 = (r, b1, b2, b3, b4, zA2, bA2, cA2, cE2, pA2, mA2, mE2, hA2, b5, b6, b7) ∧ oj_Mo_inHead_93 gf okk ra zA bA cA cE pA mA mE hA kA dA rsv ((0 : Int32), nm, f, e) 0) ∧ (r = 0 → j_Mo_inHead_93 gf kk p ra zA bA cA cE pA mA mE hA kA dA rsv ((0 : Int32), nm, f, e) 0 = kk 0 e b1 b2 b3 b4 zA2 bA2 cA2 cE2 pA2 mA2 mE2 hA2 b5 b6 b7 ∧ (okk 0 e b1 b2 b3 b4 zA2 bA2 cA2 cE2 pA2 mA2 mE2 hA2 b5 b6 b7 → oj_Mo_inHead_93 gf okk ra zA bA cA cE pA mA mE hA kA dA rsv ((0 : Int32), nm, f, e) 0)) := by
  have z : (0 : Int32) ≤ 0 := by decide
  unfold j_Mo_inHead_93 oj_Mo_inHead_93
  rw [if_pos z, if_pos z]
  dsimp only
  rw [hn]
  unfold k_Mo_inHead_107 ok_Mo_inHead_107
  dsimp only
  rw [if_pos hm, if_pos hm, hx]
  unfold k_Mo_inHead_125 ok_Mo_inHead_125 j_Mo_inHead_132 oj_Mo_inHead_132
  dsimp only
  refine ⟨fun h => ?_, fun h => ?_⟩
  · rw [if_neg h, if_neg h]
    exact ⟨rfl, ho, hox, trivial⟩
  · subst h
    rw [if_pos z, if_pos z]
    exact ⟨rfl, fun w => ⟨ho, hox, w⟩⟩
