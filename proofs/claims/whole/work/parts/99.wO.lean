def AW (N : Nat) (L : List Nat) (E F : Int32 × (Nat → Int32) → Int32 × Int32 × Int32 × Int32 × Int32 × (Nat → Int32)) (G : Int32 × (Nat → Int32) → Prop) : Prop := ∀ s, CK N s → F s = E (apM L s) ∧ G s
theorem AW.at {N : Nat} {L : List Nat} {E F : Int32 × (Nat → Int32) → Int32 × Int32 × Int32 × Int32 × Int32 × (Nat → Int32)} {G : Int32 × (Nat → Int32) → Prop} (H : AW N L E F G) {s : Int32 × (Nat → Int32)} (hs : CK N s) : F s = E (apM L s) ∧ G s := H s hs
theorem AW.le {M : Nat} {N : Nat} {L : List Nat} {E F : Int32 × (Nat → Int32) → Int32 × Int32 × Int32 × Int32 × Int32 × (Nat → Int32)} {G : Int32 × (Nat → Int32) → Prop} (H : AW N L E F G) (h : N ≤ M) : AW M L E F G := fun _ hs => H.at (hs.le h)
theorem AW.eq {L2 : List Nat} {N : Nat} {L : List Nat} {E F : Int32 × (Nat → Int32) → Int32 × Int32 × Int32 × Int32 × Int32 × (Nat → Int32)} {G : Int32 × (Nat → Int32) → Prop} (H : AW N L E F G) (h : L = L2) : AW N L2 E F G := by rw [← h]; exact H
theorem AW_a4 {N : Nat} {L : List Nat} {E F : Int32 × (Nat → Int32) → Int32 × Int32 × Int32 × Int32 × Int32 × (Nat → Int32)} {G : Int32 × (Nat → Int32) → Prop} (v : Int64) (H : AW N L E F G) : AW (N + 16) (be 4 v ++ L) E (fun s => F (m_Mo_add s.1 s.2 v 4)) (fun s => om_Mo_add s.1 s.2 v 4 ∧ G (m_Mo_add s.1 s.2 v 4)) := by
  intro s hs
  have t := H.at (be_k v 4 (hs.le (show N + 4 ≤ N + 16 by omega)))
  show F (m_Mo_add s.1 s.2 v 4) = _ ∧ om_Mo_add s.1 s.2 v 4 ∧ G (m_Mo_add s.1 s.2 v 4)
  rw [q_addM4]
  refine ⟨?_, (hs.le (by omega)).o4 _, t.2⟩
  rw [t.1, apM_app]
theorem AW_a8 {N : Nat} {L : List Nat} {E F : Int32 × (Nat → Int32) → Int32 × Int32 × Int32 × Int32 × Int32 × (Nat → Int32)} {G : Int32 × (Nat → Int32) → Prop} (v : Int64) (H : AW N L E F G) : AW (N + 16) (be 8 v ++ L) E (fun s => F (m_Mo_add s.1 s.2 v 8)) (fun s => om_Mo_add s.1 s.2 v 8 ∧ G (m_Mo_add s.1 s.2 v 8)) := by
  intro s hs
  have t := H.at (be_k v 8 (hs.le (show N + 8 ≤ N + 16 by omega)))
  show F (m_Mo_add s.1 s.2 v 8) = _ ∧ om_Mo_add s.1 s.2 v 8 ∧ G (m_Mo_add s.1 s.2 v 8)
  rw [q_addM8]
  refine ⟨?_, (hs.le (by omega)).o8 _, t.2⟩
  rw [t.1, apM_app]
theorem AW_bx {N : Nat} {L : List Nat} {E F : Int32 × (Nat → Int32) → Int32 × Int32 × Int32 × Int32 × Int32 × (Nat → Int32)} {G : Int32 × (Nat → Int32) → Prop} (a b : Int32) (H : AW N L E F G) : AW (N + 16) (wB (8 + b) a ++ L) E (fun s => F (m_Mo_box s.1 s.2 a b)) (fun s => om_Mo_box s.1 s.2 a b ∧ G (m_Mo_box s.1 s.2 a b)) := by
  intro s hs
  have t := H.at (wB_8 (8 + b) a (hs.le (show N + 8 ≤ N + 16 by omega)))
  show F (m_Mo_box s.1 s.2 a b) = _ ∧ om_Mo_box s.1 s.2 a b ∧ G (m_Mo_box s.1 s.2 a b)
  rw [w_box]
  refine ⟨?_, (hs.le (by omega)).ob _ _, t.2⟩
  rw [t.1, apM_app]
theorem AW_hd {N : Nat} {L : List Nat} {E F : Int32 × (Nat → Int32) → Int32 × Int32 × Int32 × Int32 × Int32 × (Nat → Int32)} {G : Int32 × (Nat → Int32) → Prop} {M : Nat} {L1 : List Nat} {X : Int32 × (Nat → Int32) → Int32 × (Nat → Int32)} {Y : Int32 × (Nat → Int32) → Prop} (A : AH M L1 X Y) (hM : L1.length ≤ M) (H : AW N L E F G) : AW (N + M) (L1 ++ L) E (fun s => F (X s)) (fun s => Y s ∧ G (X s)) := by
  intro s hs
  have a := A.at (hs.le (show M ≤ N + M by omega))
  have t := H.at (CK.ap (l := L1) (hs.le (show N + L1.length ≤ N + M by omega)))
  show F (X s) = _ ∧ Y s ∧ G (X s)
  rw [a.1]
  refine ⟨?_, a.2, t.2⟩
  rw [t.1, apM_app]
theorem AWi_p {c : Prop} [Decidable c] {A B X : Int32 × Int32 × Int32 × Int32 × Int32 × (Nat → Int32)} {P Q : Prop} (h : c) (t : A = X ∧ P) : (if c then A else B) = X ∧ (if c then P else Q) := by rw [if_pos h, if_pos h]; exact t
theorem AWi_n {c : Prop} [Decidable c] {A B X : Int32 × Int32 × Int32 × Int32 × Int32 × (Nat → Int32)} {P Q : Prop} (h : ¬ c) (t : B = X ∧ Q) : (if c then A else B) = X ∧ (if c then P else Q) := by rw [if_neg h, if_neg h]; exact t
theorem w_o137 (c : Int32) (f : Nat → Int32) : oj_Mo_write_137 c f := by
  unfold oj_Mo_write_137 oj_Mo_write_152 ok_Mo_write_152 om_Mo_refuse
  simp only [ite_self, and_self]
theorem w_137 (sz : Nat) (sc : Int32) : AW 0 [] (fun s => j_Mo_write_137 (nI sz) sc s.1 s.2) (fun s => j_Mo_write_137 (nI sz) sc s.1 s.2) (fun s => oj_Mo_write_137 s.1 s.2) := fun _ _ => ⟨rfl, w_o137 _ _⟩
def wTl (p1 p2 : Int32) : List Nat := if p2 = 0 then wB (8 + p1) 1785737827 else wB 1 1785737827 ++ be 8 (16 + p1 : Int32).toInt64
theorem w_119 (sz : Nat) (sc p1 p2 : Int32) : AW 16 (if p2 = 0 then [] else be 8 (16 + p1 : Int32).toInt64) (fun s => j_Mo_write_137 (nI sz) sc s.1 s.2) (fun s => k_Mo_write_119 (nI sz) sc p1 p2 s) (fun s => ok_Mo_write_119 p1 p2 s) := by
  intro s hs
  by_cases a : p2 = 0
  · rw [if_pos a]; exact AWi_p a ((w_137 sz sc).at (hs.le (by omega)))
  · rw [if_neg a]
    have t := AWi_n (c := p2 = 0) (A := j_Mo_write_137 (nI sz) sc s.1 s.2) (P := oj_Mo_write_137 s.1 s.2) a ((AW_a8 (16 + p1 : Int32).toInt64 (w_137 sz sc)).at (hs.le (by omega)))
    rw [List.append_nil] at t
    exact t
theorem w_93 (sz : Nat) (sc p1 p2 : Int32) : AW 48 (wTl p1 p2) (fun s => j_Mo_write_137 (nI sz) sc s.1 s.2) (fun s => k_Mo_write_93 (nI sz) sc p1 p2 s) (fun s => ok_Mo_write_93 p1 p2 s) := by
  have n : (1785737827 : Int32).toInt64 = (1785737827 : Int64) := by decide
  have n1 : (1 : Int32).toInt64 = (1 : Int64) := by decide
  intro s hs
  have X : ∀ v : Int64, AW (16 + 16 + 16) (be 4 v ++ (be 4 1785737827 ++ (if p2 = 0 then [] else be 8 (16 + p1 : Int32).toInt64))) (fun s => j_Mo_write_137 (nI sz) sc s.1 s.2) (fun s => j_Mo_write_110 (nI sz) sc p1 p2 s v) (fun s => oj_Mo_write_110 p1 p2 s v) := fun v => AW_a4 v (AW_a4 1785737827 (w_119 sz sc p1 p2))
  unfold wTl wB
  rw [n, n1]
  by_cases a : p2 = 0
  · have t := (X (8 + p1 : Int32).toInt64).at hs
    rw [if_pos a, List.append_nil] at t
    rw [if_pos a]
    exact AWi_p a t
  · have t := (X 1).at hs
    rw [if_neg a] at t
    rw [if_neg a, List.append_assoc]
    exact AWi_n a t
theorem w_51 {sz co en cl ma li M : Nat} {sc hi wi un ri col pr p1 p2 : Int32} {gb rs cb pg mg lg : Nat → Int32} {ng : Nat → Int64} {L : List Nat} (H : AH M L (fun s => m_Mo_addHead hi wi (nI co) un ri col pr (nI en) (nI cl) (nI ma) (nI li) s.1 gb rs cb s.2 pg ng mg lg) (fun s => om_Mo_addHead hi wi (nI co) un ri col pr (nI en) (nI cl) (nI ma) (nI li) s.1 gb rs cb s.2 pg ng mg lg)) (hM : L.length ≤ M) :
    AW (48 + M + 16 + 16 + 16 + 16 + 16) (be 4 218793738 ++ (wB 20 1718909296 ++ (be 4 1785737760 ++ (be 4 0 ++ (be 4 1785737760 ++ (L ++ wTl p1 p2)))))) (fun s => j_Mo_write_137 (nI sz) sc s.1 s.2) (fun s => k_Mo_write_51 hi wi (nI co) un ri col pr (nI en) (nI cl) (nI ma) (nI li) (nI sz) sc gb rs cb pg ng mg lg p1 p2 s) (fun s => ok_Mo_write_51 hi wi (nI co) un ri col pr (nI en) (nI cl) (nI ma) (nI li) gb rs cb pg ng mg lg p1 p2 s) := by
  have X : AW (48 + M) (L ++ wTl p1 p2) (fun s => j_Mo_write_137 (nI sz) sc s.1 s.2) (fun s => k_Mo_write_89 hi wi (nI co) un ri col pr (nI en) (nI cl) (nI ma) (nI li) (nI sz) sc gb rs cb pg ng mg lg p1 p2 s) (fun s => ok_Mo_write_89 hi wi (nI co) un ri col pr (nI en) (nI cl) (nI ma) (nI li) gb rs cb pg ng mg lg p1 p2 s) := fun s hs => by
    have t := (AW_hd H hM (w_93 sz sc p1 p2)).at hs
    unfold k_Mo_write_89 ok_Mo_write_89
    exact t
  have e20 : (8 : Int32) + 12 = 20 := by decide
  have t := AW_a4 218793738 (AW_bx 1718909296 12 (AW_a4 1785737760 (AW_a4 0 (AW_a4 1785737760 X))))
  rw [e20] at t
  exact t
set_option maxHeartbeats 400000 in
theorem w_31 {sz co en cl ma li M : Nat} {sc hi wi un ri col pr p1 p2 cur : Int32} {gf gb rs cb pg mg lg : Nat → Int32} {ng : Nat → Int64} {L : List Nat} (H : AH M L (fun s => m_Mo_addHead hi wi (nI co) un ri col pr (nI en) (nI cl) (nI ma) (nI li) s.1 gb rs cb s.2 pg ng mg lg) (fun s => om_Mo_addHead hi wi (nI co) un ri col pr (nI en) (nI cl) (nI ma) (nI li) s.1 gb rs cb s.2 pg ng mg lg)) (hM : L.length ≤ M) (hs : sz + M ≤ 900000) :
    k_Mo_write_31 hi wi (nI co) un ri col pr (nI en) (nI cl) (nI ma) (nI li) (nI sz) sc cur gf gb rs cb pg ng mg lg p1 p2 (0, 0) = (fun s => j_Mo_write_137 (nI sz) sc s.1 s.2) (apM (wB 12 1783636000 ++ (be 4 218793738 ++ (wB 20 1718909296 ++ (be 4 1785737760 ++ (be 4 0 ++ (be 4 1785737760 ++ (L ++ wTl p1 p2))))))) (nI sz, gf)) ∧ ok_Mo_write_31 hi wi (nI co) un ri col pr (nI en) (nI cl) (nI ma) (nI li) (nI sz) gf gb rs cb pg ng mg lg p1 p2 (0, 0) := by
  have e12 : (8 : Int32) + 4 = 12 := by decide
  have X := (AW_bx 1783636000 4 (w_51 (sz := sz) (sc := sc) (p1 := p1) (p2 := p2) H hM)).at (s := (nI sz, gf)) ⟨sz, gf, rfl, by omega⟩
  rw [e12] at X
  exact AWi_p rfl X
def BL (l : List Nat) : Prop := ∀ b ∈ l, b < 256
theorem BL_0 : BL [] := fun _ h => by cases h
theorem BL_ap {a b : List Nat} (ha : BL a) (hb : BL b) : BL (a ++ b) := fun x hx => (List.mem_append.mp hx).elim (ha x) (hb x)
theorem BL_c {a : Nat} {l : List Nat} (ha : a < 256) (hl : BL l) : BL (a :: l) := fun x hx => by
  rcases List.mem_cons.mp hx with rfl | h
  · exact ha
  · exact hl x h
theorem BL_be (w : Nat) (v : Int64) : BL (be w v) := fun b h => be_lt v w b h
theorem BL_wB (a b : Int32) : BL (wB a b) := BL_ap (BL_be _ _) (BL_be _ _)
theorem BL_row (f : Nat → Int32) (d j : Nat) : BL (wRow f d j) := wRow_lt f d j
theorem BL_1 (x : Int) : BL [bo x] := BL_c (bo_lt _) BL_0
theorem BL_mp (f : Nat → Int32) : ∀ d j, BL (wMp f d j)
  | 0, _ => BL_0
  | d + 1, j => BL_ap (BL_be _ _) (BL_c (bo_lt _) (BL_c (bo_lt _) (BL_mp f d (j + 1))))
theorem BL_r2 (f : Nat → Int32) : ∀ d j, BL (wR2 f d j)
  | 0, _ => BL_0
  | d + 1, j => BL_ap (BL_be _ _) (BL_r2 f d (j + 1))
theorem BL_en (pb : Nat → Int32) (nf : Nat → Int64) (q : Nat) : ∀ d j, BL (wEn pb nf q d j)
  | 0, _ => BL_0
  | d + 1, j => BL_ap (BL_be _ _) (BL_en pb nf q d (j + 1))
theorem BL_es (pb : Nat → Int32) (nf : Nat → Int64) (cl : Nat) : ∀ d j, BL (wEs pb nf cl d j)
  | 0, _ => BL_0
  | d + 1, j => BL_ap (BL_en pb nf _ cl 0) (BL_es pb nf cl d (j + 1))
theorem BL_sz (hi wi co un ri b : Int32) : BL (wSz hi wi co un ri b) := BL_ap (BL_wB _ _) (BL_ap (BL_be _ _) (BL_ap (BL_be _ _) (BL_ap (BL_be _ _) (BL_ap (BL_1 _) (BL_ap (BL_c (by decide) BL_0) (BL_ap (BL_1 _) (BL_1 _)))))))
theorem BL_bi (al : Int32) (c : Nat) (f : Nat → Int32) : BL (wBi al c f) := by
  unfold wBi; split
  · exact BL_ap (BL_wB _ _) (BL_row _ _ _)
  · exact BL_0
theorem BL_co (has col : Int32) (pk : Nat) (f : Nat → Int32) : BL (wCo has col pk f) := by
  unfold wCo; split
  · exact BL_ap (BL_wB _ _) (BL_ap (BL_c (by decide) BL_0) (BL_ap (BL_be _ _) (BL_be _ _)))
  · exact BL_ap (BL_wB _ _) (BL_ap (BL_c (by decide) BL_0) (BL_ap (BL_be _ _) (BL_row _ _ _)))
theorem BL_pa (en cl : Nat) (pb : Nat → Int32) (nf : Nat → Int64) : BL (wPa en cl pb nf) := by
  unfold wPa; split
  · exact BL_0
  · exact BL_ap (BL_wB _ _) (BL_ap (BL_be _ _) (BL_ap (BL_1 _) (BL_ap (BL_row _ _ _) (BL_es _ _ _ _ _))))
theorem BL_ma (en ma : Nat) (f : Nat → Int32) : BL (wMa en ma f) := by
  unfold wMa; split
  · exact BL_0
  · exact BL_ap (BL_wB _ _) (BL_mp _ _ _)
theorem BL_me (li : Nat) (f : Nat → Int32) : BL (wMe li f) := by
  unfold wMe; split
  · exact BL_0
  · exact BL_ap (BL_wB _ _) (BL_ap (BL_be _ _) (BL_r2 _ _ _))
theorem BL_rt (name : Int32) (f : Nat → Int32) : BL (wRt name f) := by
  unfold wRt; split
  · exact BL_0
  · exact BL_ap (BL_wB _ _) (BL_ap (BL_r2 _ _ _) (BL_ap (BL_1 _) (BL_1 _)))
theorem BL_re (fc fd : Nat → Int32) : BL (wRe fc fd) := by
  unfold wRe; split
  · exact BL_0
  · exact BL_ap (BL_wB _ _) (BL_ap (BL_rt _ _) (BL_rt _ _))
theorem BL_hd (hi wi un ri col al has b0 : Int32) (co pk en cl ma li : Nat) (fb pf pb mf lf fc fd : Nat → Int32) (nf : Nat → Int64) : BL (wHd hi wi un ri col al has b0 co pk en cl ma li fb pf pb mf lf fc fd nf) := by
  unfold wHd
  exact BL_ap (BL_wB _ _) (BL_ap (BL_sz _ _ _ _ _ _) (BL_ap (BL_bi _ _ _) (BL_ap (BL_co _ _ _ _) (BL_ap (BL_pa _ _ _ _) (BL_ap (BL_ma _ _ _) (BL_ap (BL_me _ _) (BL_re _ _)))))))
theorem BL_tl (p1 p2 : Int32) : BL (wTl p1 p2) := by
  unfold wTl; split
  · exact BL_wB _ _
  · exact BL_ap (BL_wB _ _) (BL_be _ _)
theorem BL_al (hi wi un ri col al has b0 : Int32) (co pk en cl ma li : Nat) (fb pf pb mf lf fc fd : Nat → Int32) (nf : Nat → Int64) (p1 p2 : Int32) : BL (wAl hi wi un ri col al has b0 co pk en cl ma li fb pf pb mf lf fc fd nf p1 p2) := by
  have t := BL_tl p1 p2
  unfold wTl at t
  unfold wAl
  exact BL_ap (BL_wB _ _) (BL_ap (BL_be _ _) (BL_ap (BL_wB _ _) (BL_ap (BL_be _ _) (BL_ap (BL_be _ _) (BL_ap (BL_be _ _) (BL_ap (BL_hd _ _ _ _ _ _ _ _ _ _ _ _ _ _ _ _ _ _ _ _ _ _) t))))))
