theorem x_w33c (gf : Nat → Int32) (kk : Int32 → Int32 → Int32 → Int32 → Int32 → Int32 → Int32 → Int32 → Int32 → Int32 → Int32 → Int32 → Int32 → Int32 → Int32 → Int32 → Int32 → Int32 → Int32 → Int32 → Int32 → Int32 × Int32 × Int32 × Int32 × Int32 × Int32 × Int32 × Int32 × Int32 × Int32 × Int32 × Int32 × Int32 × Int32 × Int32 × Int32 × Int32 × Int32) (okk : Int32 → Int32 → Int32 → Int32 → Int32 → Int32 → Int32 → Int32 → Int32 → Int32 → Int32 → Int32 → Int32 → Int32 → Int32 → Int32 → Int32 → Int32 → Int32 → Int32 → Int32 → Prop) (st hd cnt p ra sA sM zA bA cA cE pA mA mE hA kA dA rsv : Int32) (a1 a2 a3 : Int32) {c : Int32} (hc : c = 1 ∨ c = 3) : k_Mo_walk_33 gf kk st hd cnt p ra sA sM zA bA cA cE pA mA mE hA kA dA rsv (c, a1, a2, a3) = (c, p, sA, sM, a1, a2, a3, zA, bA, cA, cE, pA, mA, mE, hA, kA, dA, rsv) ∧ ok_Mo_walk_33 gf okk st hd cnt p ra sA sM zA bA cA cE pA mA mE hA kA dA rsv (c, a1, a2, a3) := by
  have h0 : ¬ c = 0 := by rcases hc with rfl | rfl <;> decide
  have h1 : ¬ c ≤ 0 := by rcases hc with rfl | rfl <;> decide
  unfold k_Mo_walk_33 ok_Mo_walk_33
  dsimp only
  rw [if_neg h0, if_neg h0]
  unfold j_Mo_walk_56 oj_Mo_walk_56
  rw [if_neg h1, if_neg h1]
  exact ⟨rfl, trivial, trivial⟩
theorem x_w33 (gf : Nat → Int32) (kk : Int32 → Int32 → Int32 → Int32 → Int32 → Int32 → Int32 → Int32 → Int32 → Int32 → Int32 → Int32 → Int32 → Int32 → Int32 → Int32 → Int32 → Int32 → Int32 → Int32 → Int32 → Int32 × Int32 × Int32 × Int32 × Int32 × Int32 × Int32 × Int32 × Int32 × Int32 × Int32 × Int32 × Int32 × Int32 × Int32 × Int32 × Int32 × Int32) (okk : Int32 → Int32 → Int32 → Int32 → Int32 → Int32 → Int32 → Int32 → Int32 → Int32 → Int32 → Int32 → Int32 → Int32 → Int32 → Int32 → Int32 → Int32 → Int32 → Int32 → Int32 → Prop) (st hd cnt p ra sA sM zA bA cA cE pA mA mE hA kA dA rsv : Int32) (nm f e : Int32) : k_Mo_walk_33 gf kk st hd cnt p ra sA sM zA bA cA cE pA mA mE hA kA dA rsv ((0 : Int32), nm, f, e) = j_Mo_walk_56 gf kk st hd cnt p ra sA sM zA bA cA cE pA mA mE hA kA dA rsv ((0 : Int32), nm, f, e) (m_Mo_atTop nm f e gf cnt hd st) ∧ (om_Mo_atTop nm f e gf cnt hd st → oj_Mo_walk_56 gf okk st hd cnt p ra sA sM zA bA cA cE pA mA mE hA kA dA rsv ((0 : Int32), nm, f, e) (m_Mo_atTop nm f e gf cnt hd st) → ok_Mo_walk_33 gf okk st hd cnt p ra sA sM zA bA cA cE pA mA mE hA kA dA rsv ((0 : Int32), nm, f, e)) := by
  unfold k_Mo_walk_33 ok_Mo_walk_33
  dsimp only
  rw [if_pos rfl, if_pos rfl]
  exact ⟨rfl, fun a b => ⟨a, b⟩⟩
theorem x_w56r (gf : Nat → Int32) (kk : Int32 → Int32 → Int32 → Int32 → Int32 → Int32 → Int32 → Int32 → Int32 → Int32 → Int32 → Int32 → Int32 → Int32 → Int32 → Int32 → Int32 → Int32 → Int32 → Int32 → Int32 → Int32 × Int32 × Int32 × Int32 × Int32 × Int32 × Int32 × Int32 × Int32 × Int32 × Int32 × Int32 × Int32 × Int32 × Int32 × Int32 × Int32 × Int32) (okk : Int32 → Int32 → Int32 → Int32 → Int32 → Int32 → Int32 → Int32 → Int32 → Int32 → Int32 → Int32 → Int32 → Int32 → Int32 → Int32 → Int32 → Int32 → Int32 → Int32 → Int32 → Prop) (st hd cnt p ra sA sM zA bA cA cE pA mA mE hA kA dA rsv : Int32) (nm f e : Int32) {r : Int32} (hr : ¬ r ≤ 0) : j_Mo_walk_56 gf kk st hd cnt p ra sA sM zA bA cA cE pA mA mE hA kA dA rsv ((0 : Int32), nm, f, e) r = (r, p, sA, sM, nm, f, e, zA, bA, cA, cE, pA, mA, mE, hA, kA, dA, rsv) ∧ oj_Mo_walk_56 gf okk st hd cnt p ra sA sM zA bA cA cE pA mA mE hA kA dA rsv ((0 : Int32), nm, f, e) r := by
  unfold j_Mo_walk_56 oj_Mo_walk_56
  rw [if_neg hr, if_neg hr]
  exact ⟨rfl, trivial, trivial⟩
theorem x_w133 (kk : Int32 → Int32 → Int32 → Int32 → Int32 → Int32 → Int32 → Int32 → Int32 → Int32 → Int32 → Int32 → Int32 → Int32 → Int32 → Int32 → Int32 → Int32 → Int32 → Int32 → Int32 → Int32 × Int32 × Int32 × Int32 × Int32 × Int32 × Int32 × Int32 × Int32 × Int32 × Int32 × Int32 × Int32 × Int32 × Int32 × Int32 × Int32 × Int32) (okk : Int32 → Int32 → Int32 → Int32 → Int32 → Int32 → Int32 → Int32 → Int32 → Int32 → Int32 → Int32 → Int32 → Int32 → Int32 → Int32 → Int32 → Int32 → Int32 → Int32 → Int32 → Prop) (cnt x4 sA sM h3 ra b2 b3 b4 zA bA cA cE pA mA mE hA kA dA rsv nm f e : Int32) : j_Mo_walk_133 kk cnt ((0 : Int32), nm, f, e) x4 sA sM 0 h3 ra b2 b3 b4 zA bA cA cE pA mA mE hA kA dA rsv = kk x4 h3 (cnt + 1) e ra sA sM b2 b3 b4 zA bA cA cE pA mA mE hA kA dA rsv ∧ (okk x4 h3 (cnt + 1) e ra sA sM b2 b3 b4 zA bA cA cE pA mA mE hA kA dA rsv → oj_Mo_walk_133 okk cnt ((0 : Int32), nm, f, e) x4 sA sM 0 h3 ra b2 b3 b4 zA bA cA cE pA mA mE hA kA dA rsv) := by
  have z : (0 : Int32) ≤ 0 := by decide
  unfold j_Mo_walk_133 oj_Mo_walk_133
  rw [if_pos z, if_pos z]
  exact ⟨rfl, id⟩
theorem x_w56o (gf : Nat → Int32) (kk : Int32 → Int32 → Int32 → Int32 → Int32 → Int32 → Int32 → Int32 → Int32 → Int32 → Int32 → Int32 → Int32 → Int32 → Int32 → Int32 → Int32 → Int32 → Int32 → Int32 → Int32 → Int32 × Int32 × Int32 × Int32 × Int32 × Int32 × Int32 × Int32 × Int32 × Int32 × Int32 × Int32 × Int32 × Int32 × Int32 × Int32 × Int32 × Int32) (okk : Int32 → Int32 → Int32 → Int32 → Int32 → Int32 → Int32 → Int32 → Int32 → Int32 → Int32 → Int32 → Int32 → Int32 → Int32 → Int32 → Int32 → Int32 → Int32 → Int32 → Int32 → Prop) (st hd cnt p ra sA sM zA bA cA cE pA mA mE hA kA dA rsv : Int32) (nm f e : Int32) (nH : ¬ nm = 1785737832) (nS : ¬ nm = 1785737827) : j_Mo_walk_56 gf kk st hd cnt p ra sA sM zA bA cA cE pA mA mE hA kA dA rsv ((0 : Int32), nm, f, e) 0 = kk st hd (cnt + 1) e ra sA sM nm f e zA bA cA cE pA mA mE hA kA dA rsv ∧ (okk st hd (cnt + 1) e ra sA sM nm f e zA bA cA cE pA mA mE hA kA dA rsv → oj_Mo_walk_56 gf okk st hd cnt p ra sA sM zA bA cA cE pA mA mE hA kA dA rsv ((0 : Int32), nm, f, e) 0) := by
  have z : (0 : Int32) ≤ 0 := by decide
  have t := x_w133 kk okk cnt st sA sM hd ra nm f e zA bA cA cE pA mA mE hA kA dA rsv nm f e
  unfold j_Mo_walk_56 oj_Mo_walk_56
  dsimp only
  rw [if_pos z, if_pos z, if_neg nS, if_neg nS]
  unfold j_Mo_walk_115 oj_Mo_walk_115
  dsimp only
  rw [if_neg nH, if_neg nH]
  exact t
theorem x_w56s (gf : Nat → Int32) (kk : Int32 → Int32 → Int32 → Int32 → Int32 → Int32 → Int32 → Int32 → Int32 → Int32 → Int32 → Int32 → Int32 → Int32 → Int32 → Int32 → Int32 → Int32 → Int32 → Int32 → Int32 → Int32 × Int32 × Int32 × Int32 × Int32 × Int32 × Int32 × Int32 × Int32 × Int32 × Int32 × Int32 × Int32 × Int32 × Int32 × Int32 × Int32 × Int32) (okk : Int32 → Int32 → Int32 → Int32 → Int32 → Int32 → Int32 → Int32 → Int32 → Int32 → Int32 → Int32 → Int32 → Int32 → Int32 → Int32 → Int32 → Int32 → Int32 → Int32 → Int32 → Prop) (st hd cnt p ra sA sM zA bA cA cE pA mA mE hA kA dA rsv : Int32) (nm f e : Int32) (nH : ¬ nm = 1785737832) (nS : nm = 1785737827) : (st = 0 → j_Mo_walk_56 gf kk st hd cnt p ra sA sM zA bA cA cE pA mA mE hA kA dA rsv ((0 : Int32), nm, f, e) 0 = kk 1 hd (cnt + 1) e ra f (e - f) nm f e zA bA cA cE pA mA mE hA kA dA rsv ∧ (okk 1 hd (cnt + 1) e ra f (e - f) nm f e zA bA cA cE pA mA mE hA kA dA rsv → oj_Mo_walk_56 gf okk st hd cnt p ra sA sM zA bA cA cE pA mA mE hA kA dA rsv ((0 : Int32), nm, f, e) 0)) ∧ (¬ st = 0 → j_Mo_walk_56 gf kk st hd cnt p ra sA sM zA bA cA cE pA mA mE hA kA dA rsv ((0 : Int32), nm, f, e) 0 = kk st hd (cnt + 1) e ra sA sM nm f e zA bA cA cE pA mA mE hA kA dA rsv ∧ (okk st hd (cnt + 1) e ra sA sM nm f e zA bA cA cE pA mA mE hA kA dA rsv → oj_Mo_walk_56 gf okk st hd cnt p ra sA sM zA bA cA cE pA mA mE hA kA dA rsv ((0 : Int32), nm, f, e) 0)) := by
  have z : (0 : Int32) ≤ 0 := by decide
  have t1 := x_w133 kk okk cnt 1 f (e - f) hd ra nm f e zA bA cA cE pA mA mE hA kA dA rsv nm f e
  have t2 := x_w133 kk okk cnt st sA sM hd ra nm f e zA bA cA cE pA mA mE hA kA dA rsv nm f e
  unfold j_Mo_walk_56 oj_Mo_walk_56
  dsimp only
  rw [if_pos z, if_pos z, if_pos nS, if_pos nS]
  refine ⟨fun h => ?_, fun h => ?_⟩
  · rw [if_pos h, if_pos h]
    unfold j_Mo_walk_115 oj_Mo_walk_115
    dsimp only
    rw [if_neg nH, if_neg nH]
    exact t1
  · rw [if_neg h, if_neg h]
    unfold j_Mo_walk_115 oj_Mo_walk_115
    dsimp only
    rw [if_neg nH, if_neg nH]
    exact t2
theorem x_w56h (gf : Nat → Int32) (kk : Int32 → Int32 → Int32 → Int32 → Int32 → Int32 → Int32 → Int32 → Int32 → Int32 → Int32 → Int32 → Int32 → Int32 → Int32 → Int32 → Int32 → Int32 → Int32 → Int32 → Int32 → Int32 × Int32 × Int32 × Int32 × Int32 × Int32 × Int32 × Int32 × Int32 × Int32 × Int32 × Int32 × Int32 × Int32 × Int32 × Int32 × Int32 × Int32) (okk : Int32 → Int32 → Int32 → Int32 → Int32 → Int32 → Int32 → Int32 → Int32 → Int32 → Int32 → Int32 → Int32 → Int32 → Int32 → Int32 → Int32 → Int32 → Int32 → Int32 → Int32 → Prop) (st hd cnt p ra sA sM zA bA cA cE pA mA mE hA kA dA rsv : Int32) (nm f e : Int32) (nH : nm = 1785737832) (nS : ¬ nm = 1785737827) {r b1 b2 b3 b4 c1 c2 c3 c4 c5 c6 c7 c8 c9 c10 c11 : Int32} (hx : m_Mo_inHead ra nm f e zA bA cA cE pA mA mE hA kA dA rsv gf p = (r, b1, b2, b3, b4, c1, c2, c3, c4, c5, c6, c7, c8, c9, c10, c11)) (hox : om_Mo_inHead ra nm f e zA bA cA cE pA mA mE hA kA dA rsv gf) :
    (¬ r ≤ 0 → j_Mo_walk_56 gf kk st hd cnt p ra sA sM zA bA cA cE pA mA mE hA kA dA rsv ((0 : Int32), nm, f, e) 0 = (r, b1, sA, sM, b2, b3, b4, c1, c2, c3, c4, c5, c6, c7, c8, c9, c10, c11) ∧ oj_Mo_walk_56 gf okk st hd cnt p ra sA sM zA bA cA cE pA mA mE hA kA dA rsv ((0 : Int32), nm, f, e) 0) ∧ (r = 0 → j_Mo_walk_56 gf kk st hd cnt p ra sA sM zA bA cA cE pA mA mE hA kA dA rsv ((0 : Int32), nm, f, e) 0 = kk st 1 (cnt + 1) e b1 sA sM b2 b3 b4 c1 c2 c3 c4 c5 c6 c7 c8 c9 c10 c11 ∧ (okk st 1 (cnt + 1) e b1 sA sM b2 b3 b4 c1 c2 c3 c4 c5 c6 c7 c8 c9 c10 c11 → oj_Mo_walk_56 gf okk st hd cnt p ra sA sM zA bA cA cE pA mA mE hA kA dA rsv ((0 : Int32), nm, f, e) 0)) := by
  have z : (0 : Int32) ≤ 0 := by decide
  have t := x_w133 kk okk cnt st sA sM 1 b1 b2 b3 b4 c1 c2 c3 c4 c5 c6 c7 c8 c9 c10 c11 nm f e
  unfold j_Mo_walk_56 oj_Mo_walk_56
  dsimp only
  rw [if_pos z, if_pos z, if_neg nS, if_neg nS]
  unfold j_Mo_walk_115 oj_Mo_walk_115
  dsimp only
  rw [if_pos nH, if_pos nH, hx]
  unfold k_Mo_walk_128 ok_Mo_walk_128
  dsimp only
  refine ⟨fun h => ?_, fun h => ?_⟩
  · unfold j_Mo_walk_133 oj_Mo_walk_133
    rw [if_neg h, if_neg h]
    exact ⟨rfl, hox, trivial⟩
  · subst h
    exact ⟨t.1, fun w => ⟨hox, t.2 w⟩⟩
