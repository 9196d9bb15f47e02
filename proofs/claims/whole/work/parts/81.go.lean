/-! THE CLAIM OUT OF ONE WALK OF THE LAW'S BODY. Your part is whole_start (and what it stands on); all else here is the same for every law, but numbers. -/
def R_law : String := "FileBoxesLaw"
def lw_P (b : Addr) (xs : List Int32) (args : Array Value) (s : State) : Prop := args = #[.ref b] ∧ s.IntsAt b xs ∧ xs.length ≤ 4096 ∧ (Jvm.Cond.and given_1 narrow_1).before args s = true
def lw_Q (_ : Array Value) (s : State) (o : Outcome) (t : State) : Prop := o = .returned (some (.int 1)) ∧ Framed s o t [] 601024 7293034
def lw_Z (below : List Frame) (a : Array Value) (s : State) : State → Prop := fun t => ∃ o, t.status = .running ∧ Ended t below o ∧ lw_Q a s o t
/-- the law's own end, with 1 on the stack, nothing written that was there before, its room as the claim has it -/
theorem lw_ret {p : Program} {l : Launch} {e : Env} {s : State} {m : MethodId} {below : List Frame} {meth : Method} {c : Code} {b : Nat} (hx : p.tables.exec = Jvm.exec) (hb : c.code = code) (hr : meth.sig.returnType = ret) (hlocks : meth.locks = false) {pc : Nat} {H : Heap} {ls : Array Slot} (hdg : decode code pc = .ok (.ireturn, 1)) : W p l e room_1 s m #[Value.ref b] below meth c H [] 601024 7293034 (lw_Z below #[Value.ref b] s) (F0 m pc ls [.int 1]) := by
  intro T hT X
  obtain ⟨fs, hret, hrun, hended, hW, hframe⟩ := X.leave (v := some (.int 1)) (hlocks := hlocks) (fun h => by rw [hr] at h; cases h)
  have hmeth' : T.vm.method? m = some meth := X.method'
  refine ⟨T.setFrames fs, ?_, .returned (some (.int 1)), hrun, hended, rfl, ⟨_, rfl⟩, hW, hframe⟩
  jvm_step X.here [X.here.top, hx, hb, hdg, hmeth', hr, ret, narrow_b1]
  (try refine ⟨rfl, ?_⟩); (try refine ⟨rfl, ?_⟩)
  first | (intro acts; rw [hret _ acts rfl rfl rfl]) | rw [hret _ _ rfl rfl rfl]
  exact Steps.refl _
/-- what holds at the law's entry: the machine, the code, the tables' words (any of lw_tbl by 'hts w (by decide +kernel)'), the script of L ints xs at the cell b, what the Statement gives of the start (any of its parts by flat_of_before) -/
def lw_At (p : Program) (s : State) (m : MethodId) (meth : Method) (c : Code) (b L : Nat) (xs : Nat → Int32) : Prop :=
  p.tables.exec = Jvm.exec ∧ c.code = code ∧ meth.sig.returnType = ret ∧ c.maxLocals = 8 ∧ s.vm.findClass R_law = some m.cls ∧ (∀ w ∈ lw_tbl, w.before #[Value.ref b] s = true) ∧ va_X b L xs s s.heap ∧ b < s.heap.size ∧ meth.locks = false ∧ (Jvm.Cond.and given_1 narrow_1).before #[Value.ref b] s = true
theorem lw_i8 {i L : Nat} (hi : i ≤ 8192) (hL : L ≤ 4096) : ((nI L - 8 : Int32) < nI i) = (L < i + 8) := by
  rw [Int32.lt_iff_toInt_lt, Int32.toInt_sub, q_toInt (by omega), q_toInt (by omega), show (8 : Int32).toInt = 8 from rfl, Int.bmod_def]
  apply propext; omega
theorem pot_le (n : Nat) : pot n ≤ 196608 := by
  unfold pot
  by_cases c1 : n < 65536
  · rw [if_pos c1]; omega
  · rw [if_neg c1]; exact Nat.le_refl _
set_option maxHeartbeats 4000000 in
set_option maxRecDepth 100000 in
theorem law_go {p : Program} {l : Launch} {e : Env} {s : State} {m : MethodId} {below : List Frame} {meth : Method} {c : Code} {b L : Nat} {xs : Nat → Int32} {D : va_G} {cB cI cJ : ClassId} {A : Nat → Prop} {h_x h_m h_o : Nat} (C : LCx p l s m c b L xs D cB cI cJ A) (hr : meth.sig.returnType = ret) (hlocks : meth.locks = false) (PW : PWrite) (PS : PScan) (hAge : ∀ q, A q → s.heap.size ≤ q) : ∀ (n i nr cells slots : Nat) (H : Heap) (locs : List Loc) (ls : Array Slot), L ≤ i + 8 * n + 7 → i ≤ 4096 → cells + 3 * n ≤ 600000 → slots + 9300 * n + 196608 ≤ 5900000 + pot nr → nr ≤ 65536 → Wd D cB cI cJ A h_x h_m h_o nr H → va_S A s.heap H locs → lv_has ls 8 [(0, .ref b), (1, .ref h_x), (2, .ref h_m), (3, .ref h_o), (4, .int (nI i))] → W p l e room_1 s m #[Value.ref b] below meth c H locs cells slots (lw_Z below #[Value.ref b] s) (F0 m 23 ls []) := by
  have hx := C.1
  have hb := C.2.1
  have hX := C.2.2.2.2.2.2.2.2.2.2.1
  have hbl := C.2.2.2.2.2.2.2.2.2.2.2.1
  have hbA := C.2.2.2.2.2.2.2.2.2.2.2.2.1
  have hL := C.2.2.2.2.2.2.2.2.2.2.2.2.2.2
  intro n
  induction n with
  | zero =>
    intro i nr cells slots H locs ls hn hi hc hs hnr hw hS hl
    have hpot := pot_le nr
    refine lv_iload hx hb d_La_law_23 (lv_at hl 4 rfl) ?_
    refine lv_aload_n hx hb d_La_law_25 rfl (lv_at hl 0 rfl) ?_
    refine va_slen hx hb hX hbl hbA hS d_La_law_26 ?_
    refine lv_bipush (v := 8) hx hb d_La_law_27 (by decide) ?_
    refine lv_isub hx hb d_La_law_29 ?_
    have hlt := lw_i8 (i := i) (L := L) (by omega) hL
    refine lv_icmp_gt (tgt := 1446) hx hb d_La_law_30 (by decide) (fun c_30 => ?_) (fun c_30 => absurd (show (nI L - 8 : Int32) < nI i by rw [hlt]; omega) c_30)
    refine lv_iconst (v := 1) hx hb d_La_law_1446 (by decide) ?_
    refine va_forget (fun q hq => hAge _ (hS.2.2 q hq)) ?_
    refine W.widen (k := 601024) (n := 7293034) (by omega) (by omega) ?_
    exact lw_ret hx hb hr hlocks d_La_law_1447
  | succ n ih =>
    intro i nr cells slots H locs ls hn hi hc hs hnr hw hS hl
    have hpot := pot_le nr
    refine lv_iload hx hb d_La_law_23 (lv_at hl 4 rfl) ?_
    refine lv_aload_n hx hb d_La_law_25 rfl (lv_at hl 0 rfl) ?_
    refine va_slen hx hb hX hbl hbA hS d_La_law_26 ?_
    refine lv_bipush (v := 8) hx hb d_La_law_27 (by decide) ?_
    refine lv_isub hx hb d_La_law_29 ?_
    have hlt := lw_i8 (i := i) (L := L) (by omega) hL
    refine lv_icmp_gt (tgt := 1446) hx hb d_La_law_30 (by decide) (fun c_30 => ?_) (fun c_30 => ?_)
    · skip
      refine lv_iconst (v := 1) hx hb d_La_law_1446 (by decide) ?_
      refine va_forget (fun q hq => hAge _ (hS.2.2 q hq)) ?_
      refine W.widen (k := 601024) (n := 7293034) (by omega) (by omega) ?_
      exact lw_ret hx hb hr hlocks d_La_law_1447
    have hi8 : i + 8 ≤ L := by
      have c_31 : ¬ (nI L - 8 : Int32) < nI i := c_30
      rw [hlt] at c_31; omega
    have hcl : cells + 3 ≤ 601024 := by omega
    have hsl : slots ≤ 6000000 := by omega
    have LK : LNx p l e s m below meth c b D cB cI cJ A (lw_Z below #[Value.ref b] s) h_x h_m h_o i nr cells slots := by
      intro H locs ls nr2 cells2 slots2 h1 h2 hw hS hl
      have hnr2 : nr2 ≤ 65536 := Wd.nr hw
      refine lv_iinc (v := nI i + 8) (lv' := [(4, .int (nI i + 8)), (0, .ref b), (1, .ref h_x), (2, .ref h_m), (3, .ref h_o)]) hx hb d_La_law_1440 hl (k := 4) rfl rfl (by decide) rfl (fun ls hl => ?_)
      have e8 : nI i + 8 = nI (i + 8) := by rw [show (8 : Int32) = nI 8 from rfl, q_add]
      rw [e8] at hl
      refine lv_goto (tgt := 23) hx hb d_La_law_1443 (by decide) ?_
      exact ih (i + 8) nr2 cells2 slots2 H locs ls (by omega) (by omega) (by omega) (by omega) hnr2 hw hS (lv_sub hl [1, 2, 3, 4, 0] rfl)
    refine lv_aload_n hx hb d_La_law_33 rfl (lv_at hl 0 rfl) ?_
    refine lv_iload hx hb d_La_law_34 (lv_at hl 4 rfl) ?_
    refine va_sld hx hb hX hbl hbA hS (show vp_in (nI i) L by rw [q_in (by omega)]; omega) d_La_law_36 ?_
    refine lv_bipush (v := 31) hx hb d_La_law_37 (by decide) ?_
    refine lv_iand hx hb d_La_law_39 ?_
    generalize xs (nI i).toNatClampNeg &&& 31 = v
    have hw0 := hw
    obtain ⟨ad, nt, jv, af, al, hP, hD, iB, iF, iP, iQ, iM, iL, iR, iu, ir, iS, i2, iE⟩ := hw
    by_cases c_0 : v = 0
    · refine lv_tableIn (off := 104) (tgt := 144) hx hb d_La_law_40 (by rw [c_0]; decide) (by rw [c_0]; decide) (by rw [c_0]; rfl) (by decide) ?_
      exact law_0 C hi8 hcl hsl hP hD iB iF iP iQ iM iL iR iu ir iS i2 iE hS hl LK
    by_cases c_1 : v = 1
    · refine lv_tableIn (off := 115) (tgt := 155) hx hb d_La_law_40 (by rw [c_1]; decide) (by rw [c_1]; decide) (by rw [c_1]; rfl) (by decide) ?_
      exact law_1 C hi8 hcl hsl hP hD iB iF iP iQ iM iL iR iu ir iS i2 iE hS hl LK
    by_cases c_2 : v = 2
    · refine lv_tableIn (off := 245) (tgt := 285) hx hb d_La_law_40 (by rw [c_2]; decide) (by rw [c_2]; decide) (by rw [c_2]; rfl) (by decide) ?_
      exact law_2 C hi8 hcl hsl hP hD iB iF iP iQ iM iL iR iu ir iS i2 iE hS hl LK
    by_cases c_3 : v = 3
    · refine lv_tableIn (off := 293) (tgt := 333) hx hb d_La_law_40 (by rw [c_3]; decide) (by rw [c_3]; decide) (by rw [c_3]; rfl) (by decide) ?_
      exact law_3 C hi8 hcl hsl hP hD iB iF iP iQ iM iL iR iu ir iS i2 iE hS hl LK
    by_cases c_4 : v = 4
    · refine lv_tableIn (off := 329) (tgt := 369) hx hb d_La_law_40 (by rw [c_4]; decide) (by rw [c_4]; decide) (by rw [c_4]; rfl) (by decide) ?_
      exact law_4 C hi8 hcl hsl hP hD iB iF iP iQ iM iL iR iu ir iS i2 iE hS hl LK
    by_cases c_5 : v = 5
    · refine lv_tableIn (off := 385) (tgt := 425) hx hb d_La_law_40 (by rw [c_5]; decide) (by rw [c_5]; decide) (by rw [c_5]; rfl) (by decide) ?_
      exact law_5 C hi8 hcl hsl hP hD iB iF iP iQ iM iL iR iu ir iS i2 iE hS hl LK
    by_cases c_6 : v = 6
    · refine lv_tableIn (off := 433) (tgt := 473) hx hb d_La_law_40 (by rw [c_6]; decide) (by rw [c_6]; decide) (by rw [c_6]; rfl) (by decide) ?_
      exact law_6 C hi8 hcl hsl hP hD iB iF iP iQ iM iL iR iu ir iS i2 iE hS hl LK
    by_cases c_7 : v = 7
    · refine lv_tableIn (off := 481) (tgt := 521) hx hb d_La_law_40 (by rw [c_7]; decide) (by rw [c_7]; decide) (by rw [c_7]; rfl) (by decide) ?_
      exact law_7 C hi8 hcl hsl hP hD iB iF iP iQ iM iL iR iu ir iS i2 iE hS hl LK
    by_cases c_8 : v = 8
    · refine lv_tableIn (off := 573) (tgt := 613) hx hb d_La_law_40 (by rw [c_8]; decide) (by rw [c_8]; decide) (by rw [c_8]; rfl) (by decide) ?_
      exact law_8 C hi8 hcl hsl hP hD iB iF iP iQ iM iL iR iu ir iS i2 iE hS hl LK
    by_cases c_9 : v = 9
    · refine lv_tableIn (off := 653) (tgt := 693) hx hb d_La_law_40 (by rw [c_9]; decide) (by rw [c_9]; decide) (by rw [c_9]; rfl) (by decide) ?_
      exact law_9 C hi8 hcl hsl hP hD iB iF iP iQ iM iL iR iu ir iS i2 iE hS hl LK
    by_cases c_10 : v = 10
    · refine lv_tableIn (off := 733) (tgt := 773) hx hb d_La_law_40 (by rw [c_10]; decide) (by rw [c_10]; decide) (by rw [c_10]; rfl) (by decide) ?_
      exact law_10 C hi8 hcl hsl hP hD iB iF iP iQ iM iL iR iu ir iS i2 iE hS hl LK
    by_cases c_11 : v = 11
    · refine lv_tableIn (off := 861) (tgt := 901) hx hb d_La_law_40 (by rw [c_11]; decide) (by rw [c_11]; decide) (by rw [c_11]; rfl) (by decide) ?_
      exact law_11 C hi8 hcl hsl hP hD iB iF iP iQ iM iL iR iu ir iS i2 iE hS hl LK
    by_cases c_12 : v = 12
    · refine lv_tableIn (off := 929) (tgt := 969) hx hb d_La_law_40 (by rw [c_12]; decide) (by rw [c_12]; decide) (by rw [c_12]; rfl) (by decide) ?_
      exact law_12 C hi8 hcl hsl hP hD iB iF iP iQ iM iL iR iu ir iS i2 iE hS hl LK
    by_cases c_13 : v = 13
    · refine lv_tableIn (off := 996) (tgt := 1036) hx hb d_La_law_40 (by rw [c_13]; decide) (by rw [c_13]; decide) (by rw [c_13]; rfl) (by decide) ?_
      exact law_13 C hi8 hcl hsl hP hD iB iF iP iQ iM iL iR iu ir iS i2 iE hS hl LK
    by_cases c_14 : v = 14
    · refine lv_tableIn (off := 1063) (tgt := 1103) hx hb d_La_law_40 (by rw [c_14]; decide) (by rw [c_14]; decide) (by rw [c_14]; rfl) (by decide) ?_
      exact law_14 C hi8 hcl hsl hP hD iB iF iP iQ iM iL iR iu ir iS i2 iE hS hl LK
    by_cases c_15 : v = 15
    · refine lv_tableIn (off := 1074) (tgt := 1114) hx hb d_La_law_40 (by rw [c_15]; decide) (by rw [c_15]; decide) (by rw [c_15]; rfl) (by decide) ?_
      exact law_15 C hi8 hcl hsl hP hD iB iF iP iQ iM iL iR iu ir iS i2 iE hS hl LK
    by_cases c_16 : v = 16
    · refine lv_tableIn (off := 1130) (tgt := 1170) hx hb d_La_law_40 (by rw [c_16]; decide) (by rw [c_16]; decide) (by rw [c_16]; rfl) (by decide) ?_
      exact law_16 C hi8 hcl hsl hP hD iB iF iP iQ iM iL iR iu ir iS i2 iE hS hl LK
    by_cases c_17 : v = 17
    · refine lv_tableIn (off := 1186) (tgt := 1226) hx hb d_La_law_40 (by rw [c_17]; decide) (by rw [c_17]; decide) (by rw [c_17]; rfl) (by decide) ?_
      exact law_17 C hi8 hcl hsl hP hD iB iF iP iQ iM iL iR iu ir iS i2 iE hS hl LK
    by_cases c_18 : v = 18
    · refine lv_tableIn (off := 1234) (tgt := 1274) hx hb d_La_law_40 (by rw [c_18]; decide) (by rw [c_18]; decide) (by rw [c_18]; rfl) (by decide) ?_
      exact law_18 C hi8 hcl hsl PW hP hD iB iF iP iQ iM iL iR iu ir iS i2 iE hS hl LK
    by_cases c_19 : v = 19
    · refine lv_tableIn (off := 1318) (tgt := 1358) hx hb d_La_law_40 (by rw [c_19]; decide) (by rw [c_19]; decide) (by rw [c_19]; rfl) (by decide) ?_
      exact law_19 C hi8 hcl hsl PS hP hD iB iF iP iQ iM iL iR iu ir iS i2 iE hS hl LK
    by_cases c_20 : v = 20
    · refine lv_tableIn (off := 1331) (tgt := 1371) hx hb d_La_law_40 (by rw [c_20]; decide) (by rw [c_20]; decide) (by rw [c_20]; rfl) (by decide) ?_
      exact law_20 C hi8 hcl hsl hP hD iB iF iP iQ iM iL iR iu ir iS i2 iE hS hl LK
    by_cases c_21 : v = 21
    · refine lv_tableIn (off := 1344) (tgt := 1384) hx hb d_La_law_40 (by rw [c_21]; decide) (by rw [c_21]; decide) (by rw [c_21]; rfl) (by decide) ?_
      exact law_21 C hi8 hcl hsl hP hD iB iF iP iQ iM iL iR iu ir iS i2 iE hS hl LK
    refine lv_tableOut (tgt := 1440) hx hb d_La_law_40 (by have g0 := lv_neT c_0 (a := 0) (by decide); have g1 := lv_neT c_1 (a := 1) (by decide); have g2 := lv_neT c_2 (a := 2) (by decide); have g3 := lv_neT c_3 (a := 3) (by decide); have g4 := lv_neT c_4 (a := 4) (by decide); have g5 := lv_neT c_5 (a := 5) (by decide); have g6 := lv_neT c_6 (a := 6) (by decide); have g7 := lv_neT c_7 (a := 7) (by decide); have g8 := lv_neT c_8 (a := 8) (by decide); have g9 := lv_neT c_9 (a := 9) (by decide); have g10 := lv_neT c_10 (a := 10) (by decide); have g11 := lv_neT c_11 (a := 11) (by decide); have g12 := lv_neT c_12 (a := 12) (by decide); have g13 := lv_neT c_13 (a := 13) (by decide); have g14 := lv_neT c_14 (a := 14) (by decide); have g15 := lv_neT c_15 (a := 15) (by decide); have g16 := lv_neT c_16 (a := 16) (by decide); have g17 := lv_neT c_17 (a := 17) (by decide); have g18 := lv_neT c_18 (a := 18) (by decide); have g19 := lv_neT c_19 (a := 19) (by decide); have g20 := lv_neT c_20 (a := 20) (by decide); have g21 := lv_neT c_21 (a := 21) (by decide); omega) (by decide) ?_
    exact LK H locs ls nr cells slots (by omega) (by omega) hw0 hS hl
