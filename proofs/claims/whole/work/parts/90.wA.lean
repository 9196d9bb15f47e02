/-- bytes put behind what is there: in the class's row, in the reference's file -/
def apC (n : Nat) : List Nat → Int32 × (Nat → Int32) → Int32 × (Nat → Int32)
  | [], s => s
  | b :: l, s => apC n l (m_By_add s.1 n s.2 (nI b))
def stM (b : Nat) (s : Int32 × (Nat → Int32)) : Int32 × (Nat → Int32) := (s.1 + 1, if 65536 ≤ s.1 then s.2 else upd s.2 s.1.toNatClampNeg (nI b))
def apM : List Nat → Int32 × (Nat → Int32) → Int32 × (Nat → Int32)
  | [], s => s
  | b :: l, s => apM l (stM b s)
theorem apC_app (n : Nat) : ∀ (l1 l2 : List Nat) (s : Int32 × (Nat → Int32)), apC n (l1 ++ l2) s = apC n l2 (apC n l1 s)
  | [], _, _ => rfl
  | _ :: l1, l2, s => apC_app n l1 l2 _
theorem apM_app : ∀ (l1 l2 : List Nat) (s : Int32 × (Nat → Int32)), apM (l1 ++ l2) s = apM l2 (apM l1 s)
  | [], _, _ => rfl
  | _ :: l1, l2, s => apM_app l1 l2 _
theorem apM_1 : ∀ (l : List Nat) (c : Nat) (g : Nat → Int32), (apM l (nI c, g)).1 = nI (c + l.length)
  | [], c, g => rfl
  | b :: l, c, g => by
    have e : stM b (nI c, g) = (nI (c + 1), if 65536 ≤ nI c then g else upd g (nI c).toNatClampNeg (nI b)) := by
      unfold stM; rw [nI_succ]
    show (apM l (stM b (nI c, g))).1 = _
    rw [e, apM_1 l (c + 1), List.length_cons]
    congr 1; omega
/-- the bytes of a number, the highest first -/
def be : Nat → Int64 → List Nat
  | 0, _ => []
  | w + 1, v => bo (v >>> Int64.ofNat (8 * w)).toInt :: be w v
theorem be_len (v : Int64) : ∀ w : Nat, (be w v).length = w
  | 0 => rfl
  | w + 1 => by show (be w v).length + 1 = w + 1; rw [be_len v w]
theorem be_lt (v : Int64) : ∀ (w : Nat), ∀ b ∈ be w v, b < 256
  | 0, b, h => by cases h
  | w + 1, b, h => by
    rcases List.mem_cons.mp h with rfl | h
    · exact bo_lt _
    · exact be_lt v w b h
theorem q_bst (c : Int32) (n : Nat) (f : Nat → Int32) (p : Int32) : m_By_add c n f p = m_By_add c n f (nI (bo p.toInt)) := by
  have e : p.toInt8 = (nI (bo p.toInt)).toInt8 := by
    apply Int8.toInt_inj.1
    rw [Int32.toInt_toInt8, Int32.toInt_toInt8, q_toInt (by have := bo_lt p.toInt; omega), Int.bmod_def, Int.bmod_def]
    unfold bo; omega
  unfold m_By_add
  rw [← e]
theorem q_amt8 : ∀ w : Fin 8, ((nI (8 * w.val)).toInt64 &&& 63) = Int64.ofNat (8 * w.val) := by decide +kernel
theorem q_m8 {w : Nat} : nI (8 * (w + 1)) - 8 = nI (8 * w) := by
  rw [show (8 : Int32) = nI 8 from rfl, q_sub (by omega)]; congr 1
theorem q_addNp (n : Nat) (v : Int64) : ∀ (w fu : Nat) (c : Int32) (f : Nat → Int32), w ≤ 8 → w < fu → lp_By_addNumber_9 n v fu (nI (8 * w) - 8) c f = apC n (be w v) (c, f)
  | w, 0, c, f, h8, h => by omega
  | 0, fu + 1, c, f, h8, h => by
    show lb_By_addNumber_9 n v (lp_By_addNumber_9 n v fu) (nI (8 * 0) - 8) c f = _
    unfold lb_By_addNumber_9
    rw [if_pos (by decide)]; rfl
  | w + 1, fu + 1, c, f, h8, h => by
    show lb_By_addNumber_9 n v (lp_By_addNumber_9 n v fu) (nI (8 * (w + 1)) - 8) c f = _
    unfold lb_By_addNumber_9 k_By_addNumber_20
    rw [q_m8, i0_n (by omega), q_amt8 ⟨w, by omega⟩, q_bst, q_b32]
    have e : nI (8 * w) + (-8) = nI (8 * w) - 8 := (Int32.sub_eq_add_neg _ _).symm
    rw [e, q_addNp n v w fu _ _ (by omega) (by omega)]
    rfl
theorem q_addN (n : Nat) (s : Int32 × (Nat → Int32)) (v : Int64) {w : Nat} (hw : w ≤ 8) : m_By_addNumber s.1 n s.2 v (nI w) = apC n (be w v) s := by
  unfold m_By_addNumber
  have e : (8 : Int32) * nI w = nI (8 * w) := by rw [show (8 : Int32) = nI 8 from rfl, q_mul]
  rw [e]
  refine q_addNp n v w _ s.1 s.2 hw ?_
  have h : (nI (8 * w) - 8).toInt = 8 * (w : Int) - 8 := by
    rw [Int32.toInt_sub, q_toInt (by omega), show (8 : Int32).toInt = 8 from rfl, Int.bmod_def]; omega
  rw [h]; omega
theorem q_addMp (v : Int64) : ∀ (w fu : Nat) (c : Int32) (g : Nat → Int32), w ≤ 8 → w < fu → lp_Mo_add_5 v fu (nI w - 1) c g = apM (be w v) (c, g)
  | w, 0, c, g, h8, h => by omega
  | 0, fu + 1, c, g, h8, h => by
    show lb_Mo_add_5 v (lp_Mo_add_5 v fu) (nI 0 - 1) c g = _
    unfold lb_Mo_add_5
    rw [if_pos (by decide)]; rfl
  | w + 1, fu + 1, c, g, h8, h => by
    show lb_Mo_add_5 v (lp_Mo_add_5 v fu) (nI (w + 1) - 1) c g = _
    have e1 : nI (w + 1) - 1 = nI w := by rw [show (1 : Int32) = nI 1 from rfl, q_sub (by omega)]; congr 1
    have e2 : (8 : Int32) * nI w = nI (8 * w) := by rw [show (8 : Int32) = nI 8 from rfl, q_mul]
    have e : nI w + (-1) = nI w - 1 := (Int32.sub_eq_add_neg _ _).symm
    unfold lb_Mo_add_5 j_Mo_add_40
    rw [e1, i0_n (by omega), e2, q_amt8 ⟨w, by omega⟩, q_255L, e]
    by_cases k : 65536 ≤ c
    · rw [if_pos k, q_addMp v w fu _ _ (by omega) (by omega)]
      show _ = apM (be w v) (stM _ (c, g))
      unfold stM; rw [if_pos k]
    · rw [if_neg k, q_addMp v w fu _ _ (by omega) (by omega)]
      show _ = apM (be w v) (stM _ (c, g))
      unfold stM; rw [if_neg k]
theorem q_addM (s : Int32 × (Nat → Int32)) (v : Int64) {w : Nat} (hw : w ≤ 8) : m_Mo_add s.1 s.2 v (nI w) = apM (be w v) s := by
  unfold m_Mo_add
  refine q_addMp v w _ s.1 s.2 hw ?_
  have h : (nI w - 1).toInt = (w : Int) - 1 := by
    rw [Int32.toInt_sub, q_toInt (by omega), show (1 : Int32).toInt = 1 from rfl, Int.bmod_def]; omega
  rw [h]; omega
theorem q_oaddp (v : Int64) : ∀ (fu w c : Nat) (g : Nat → Int32), w ≤ 8 → c + w < 2147483648 → olp_Mo_add_5 v fu (nI w - 1) (nI c) g
  | 0, w, c, g, h8, h => trivial
  | fu + 1, 0, c, g, h8, h => by
    show olb_Mo_add_5 v (olp_Mo_add_5 v fu) (nI 0 - 1) (nI c) g
    unfold olb_Mo_add_5
    rw [if_pos (by decide)]; trivial
  | fu + 1, w + 1, c, g, h8, h => by
    show olb_Mo_add_5 v (olp_Mo_add_5 v fu) (nI (w + 1) - 1) (nI c) g
    have e1 : nI (w + 1) - 1 = nI w := by rw [show (1 : Int32) = nI 1 from rfl, q_sub (by omega)]; congr 1
    have e : nI w + (-1) = nI w - 1 := (Int32.sub_eq_add_neg _ _).symm
    unfold olb_Mo_add_5 oj_Mo_add_40
    rw [e1, i0_n (by omega), e, ← nI_succ, q_in (by omega), show (65536 : Int32) = nI 65536 from rfl]
    simp only [q_le (show 65536 < 2147483648 by omega) (show c < 2147483648 by omega)]
    by_cases k : 65536 ≤ c
    · rw [if_pos k]; exact q_oaddp v fu w (c + 1) _ (by omega) (by omega)
    · rw [if_neg k]; exact ⟨by omega, q_oaddp v fu w (c + 1) _ (by omega) (by omega)⟩
theorem q_oadd {c : Nat} (g : Nat → Int32) (v : Int64) {w : Nat} (hw : w ≤ 8) (hc : c + w < 2147483648) : om_Mo_add (nI c) g v (nI w) := by
  unfold om_Mo_add
  exact q_oaddp v _ w c g hw hc
/-- the same bytes in both: the class's row and the reference's file stay alike -/
theorem q_same (n : Nat) (hn : n ≤ 65536) : ∀ (l : List Nat) (c : Nat) (f g : Nat → Int32), (∀ b ∈ l, b < 256) → c + l.length ≤ n → sb_Fit f → (∀ k, k < c → f k &&& 255 = g k) →
    ∃ f2 g2, apC n l (nI c, f) = (nI (c + l.length), f2) ∧ apM l (nI c, g) = (nI (c + l.length), g2) ∧ sb_Fit f2 ∧ ∀ k, k < c + l.length → f2 k &&& 255 = g2 k
  | [], c, f, g, hb, hc, hf, h => ⟨f, g, rfl, rfl, hf, h⟩
  | b :: l, c, f, g, hb, hc, hf, h => by
    rw [List.length_cons] at hc ⊢
    have b256 : b < 256 := hb b (List.mem_cons_self ..)
    have e1 : apC n (b :: l) (nI c, f) = apC n l (nI (c + 1), upd f c (vp_nar .byte ((nI b).toInt8.toInt32))) := by
      show apC n l (m_By_add (nI c) n f (nI b)) = _
      rw [q_badd (by omega) (by omega)]
    have e2 : apM (b :: l) (nI c, g) = apM l (nI (c + 1), upd g c (nI b)) := by
      show apM l (stM b (nI c, g)) = _
      unfold stM
      rw [if_neg (by show ¬ (65536 : Int32) ≤ nI c; rw [show (65536 : Int32) = nI 65536 from rfl, q_le (by decide) (by omega)]; omega), nI_succ]
      show apM l (nI c + 1, upd g (nI c).toNatClampNeg (nI b)) = _
      rw [q_cl (by omega)]
    rw [e1, e2, show c + (l.length + 1) = c + 1 + l.length by omega]
    refine q_same n hn l (c + 1) _ _ (fun x hx => hb x (List.mem_cons_of_mem _ hx)) (by omega) (q_fitst hf c (nI b)) (fun k hk => ?_)
    by_cases e : k = c
    · subst e; rw [q_upd, q_upd, q_st, bo_nI b256]
    · rw [q_upn _ _ e, q_upn _ _ e]; exact h k (by omega)
/-- what lies below the place of the first new byte stays, however many bytes follow -/
theorem apM_low : ∀ (l : List Nat) (c : Nat) (g : Nat → Int32), c + l.length < 2147483648 → ∀ k, k < c → (apM l (nI c, g)).2 k = g k
  | [], c, g, h, k, hk => rfl
  | b :: l, c, g, h, k, hk => by
    rw [List.length_cons] at h
    have e : stM b (nI c, g) = (nI (c + 1), if 65536 ≤ nI c then g else upd g (nI c).toNatClampNeg (nI b)) := by
      unfold stM; rw [nI_succ]
    show (apM l (stM b (nI c, g))).2 k = _
    rw [e, apM_low l (c + 1) _ (by omega) k (by omega)]
    by_cases c1 : (65536 : Int32) ≤ nI c
    · rw [if_pos c1]
    · rw [if_neg c1, q_cl (by omega), q_upn _ _ (by omega)]
