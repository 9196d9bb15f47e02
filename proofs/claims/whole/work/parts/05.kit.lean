/-! MY KIT: contracts in one form, calls with the frame rule in one row, returns, new arrays -/
theorem good_all {y : MethodName} {b : ByteArray} {n : Nat} {ret : Option FieldType} (h : Cond.code y b n ret ∈ ALL) : GoodIn ALL (Cond.code y b n ret :: ALL) := by
  intro w hw
  have h1 : w ∈ ALL := by
    rcases List.mem_cons.mp hw with rfl | h2
    · exact h
    · exact h2
  exact ⟨h1, good_of_word (List.mem_filter.mp h1).2⟩
abbrev tys3 (cB cI cJ : ClassId) : List (ClassId × FieldType) := [(cB, .byte), (cI, .int), (cJ, .long)]
def isNest : Cond → Bool
  | .fieldLinkNest .. => true
  | .methodLinkNest .. => true
  | _ => false
theorem nwl_ok : ∀ w ∈ NWL, isNest w = true := by decide +kernel
def kNw (U : State) : Prop := ∀ w ∈ NWL, va_Nw w U
theorem kNw.warm {s U : State} (hW : s.WarmedH U.vm) (h : kNw s) : kNw U := by
  intro w hw
  have h1 := nwl_ok w hw
  have h2 := h w hw
  cases w <;> first | (simp [isNest] at h1; done) | exact va_Nw.warmF hW h2 | exact va_Nw.warmM hW h2
theorem kNw.same {u U : State} (hv : u.vm = U.vm) (h : kNw u) : kNw U := by
  intro w hw
  have h1 := nwl_ok w hw
  have h2 := h w hw
  cases w <;> first | (simp [isNest] at h1; done) | exact va_Nw.same rfl hv h2
def kPre (D : va_G) (cB cI cJ : ClassId) (av : List Value) (wc : va_W) (sz : Nat) : Array Value → State → Prop := va_Pc av (fun U => U.heap.size = sz ∧ va_P D classes wc U.heap ∧ va_K D classes (tys3 cB cI cJ) U ∧ kNw U ∧ va_D (fun _ => True) wc)
theorem kPre.blind {D : va_G} {cB cI cJ : ClassId} {av : List Value} {wc : va_W} {sz : Nat} : FrameBlind (kPre D cB cI cJ av wc sz) := by
  intro a U g mk q
  obtain ⟨q0, q1, qP, qK, qN, qD⟩ := q
  exact ⟨q0, q1, qP, va_K.moved (u := U) (U := U.calling g mk a) (Vm.Alike.refl U.vm) qK, qN.same (u := U) (U := U.calling g mk a) rfl, qD⟩
def kQ (D : va_G) (post : Option Value → va_W → Prop) (A : Nat → Prop) : Array Value → State → Outcome → State → Prop := fun _ st oc t => (∃ (v : Option Value) (w1 : va_W), oc = .returned v ∧ post v w1 ∧ va_P D classes w1 t.heap ∧ va_D A w1) ∧ va_F A st t
/-- a method's contract: its code's name, frames and locals of its callees, cells and slots it makes, its arguments, its cells, what it answers and what its cells are behind it -/
abbrev Ct (l : Launch) (D : va_G) (cB cI cJ : ClassId) (y : MethodName) (b : ByteArray) (n : Nat) (ret : Option FieldType) (fr lo mc ms : Nat) (av : List Value) (wc : va_W) (post : Option Value → va_W → Prop) (sz : Nat) : Prop :=
  Met l y (Cond.code y b n ret :: ALL) { frames := fr, cells := mc, slots := ms, locals := lo } (kPre D cB cI cJ av wc sz) (kQ D post (va_A wc sz)) mc ms (va_A wc sz)
theorem Ct.of {l : Launch} {D : va_G} {cB cI cJ : ClassId} {y : MethodName} {b : ByteArray} {n : Nat} {ret : Option FieldType} {fr lo mc ms : Nat} {av : List Value} {wc : va_W} {post : Option Value → va_W → Prop} {sz : Nat}
    (hy : plainName y.cls = true) (hn : (lg_sl av).length ≤ n)
    (body : ∀ (p : Program) (e : Env) (R : Room) (s : State) (m : MethodId) (args : Array Value) (below : List Frame) (meth : Method) (c : Code) (A : Nat → Prop) (ls : Array Slot) (Q : State → Prop), p.tables.exec = Jvm.exec → c.code = b → meth.sig.returnType = ret → meth.locks = false → c.maxLocals = n → (∀ w ∈ ALL, w.before args s = true) → s.vm.findClass y.cls = some m.cls → meth.name = y.name → va_K D classes (tys3 cB cI cJ) s → kNw s → (∀ q, s.heap.size ≤ q → A q) → R.frames = fr → R.locals = lo → R.cells = mc → R.slots = ms → va_P D classes wc s.heap → va_D A wc → va_S A s.heap s.heap [] → lv_has ls n (lv_args 0 av) → Q = MQ below (kQ D post A) args s mc ms A → W p l e R s m args below meth c s.heap [] 0 0 Q (F0 m 0 ls [])) :
    Ct l D cB cI cJ y b n ret fr lo mc ms av wc post sz := by
  refine Met.ofW (cc := b) (maxL := n) (ret := ret) hy rfl ?_
  intro p e s m args below meth c s₁ B hml hv
  obtain ⟨rfl, hsz, hP, hK, hN, hD0⟩ := hv
  subst hsz
  have hts := atoms_spec (ws := Cond.code y b n ret :: ALL) B.pre
  have hl := lv_entry av (n := n) hn
  rw [lg_entry_eq]
  exact body p e _ s m _ below meth c (va_A wc s.heap.size) _ _ B.exec B.bytes B.returns B.notSynchronized hml (fun w hw => hts w (List.mem_cons_of_mem _ hw)) (findClass_of_methodNamed B.named) (name_of_methodNamed B.named B.method).1 hK hN (fun q h => Or.inr h) rfl rfl rfl rfl hP hD0.self va_S.rf hl rfl
theorem va_P.pick {D : va_G} {cl : List vw_C} {ws wc : va_W} {H : Heap} {is : List Nat} (h : va_P D cl ws H) (hC : is.map (fun i => ws[i]?) = wc.map some) : va_P D cl wc H := by
  intro k q hk
  have h1 : (is.map (fun i => ws[i]?))[k]? = some (some q) := by rw [hC, List.getElem?_map, hk]; rfl
  rw [List.getElem?_map] at h1
  cases hi : is[k]? with
  | none => rw [hi] at h1; cases h1
  | some i => rw [hi] at h1; exact h i q (Option.some.inj h1)
section KC
variable {p : Program} {l : Launch} {e : Env} {R : Room} {s : State} {m : MethodId} {args : Array Value} {below : List Frame} {meth : Method} {c : Code} {H : Heap} {locs : List Loc} {cells slots : Nat} {Q : State → Prop}
variable {cc : ByteArray} {pc : Nat} {ls : Array Slot} {rest st0 : List Value} {D : va_G} {A : Nat → Prop} {H0 : Heap} {ws wc wr : va_W} {post : Option Value → va_W → Prop} {mc ms fr lo : Nat} {cB cI cJ : ClassId} {nL : Nat} {own : String} {y : MethodName} {b : ByteArray} {n : Nat} {ret : Option FieldType} {index np : Nat} {As : List Value} {a : Nat}
theorem kc_go {av : Array Value} (isC isR : List Nat) (hP : va_P D classes ws H) (hD : va_D A ws) (hS : va_S A H0 H locs) (hA : ∀ q, H0.size ≤ q → A q)
    (hr : va_Run p l e R s m args below meth c H locs cells slots mc ms (F0 m pc ls st0) rest (kQ D post (va_A wc H.size) av) (va_A wc H.size))
    (hC : isC.map (fun i => ws[i]?) = wc.map some) (hRr : isR.map (fun i => ws[i]?) = wr.map some) (hn : va_nd isR = true) (hdis : ∀ i ∈ isR, i ∉ isC)
    (kk : ∀ (v : Option Value) (w1 : va_W) (H1 : Heap) (locs1 : List Loc), post v w1 → va_P D classes (wr ++ w1) H1 → va_D A (wr ++ w1) → va_S A H0 H1 locs1 → W p l e R s m args below meth c H1 locs1 (cells + mc) (slots + ms) Q (F0 m (pc + 3) ls (v.toList ++ rest))) :
    W p l e R s m args below meth c H locs cells slots Q (F0 m pc ls st0) := by
  have hFc := va_free (wc := wc) hD hS hA isC hC
  intro T hT X
  obtain ⟨v, st₀, t, T', L, h0, X', hL, e1, e2, ⟨⟨v2, w1, hv, hp, hPb, hDb⟩, hz, hk⟩, st⟩ := hr T hT X
  cases hv
  rw [h0] at hz hk
  rw [← e1] at hPb
  obtain ⟨hP2, hD2⟩ := va_join (wr := wr) (w1 := w1) hP hD isC isR hC hRr hn hdis (fun q h1 h2 => by rw [e1]; exact hk q h1 h2) hFc hPb hDb
  obtain ⟨t2, a1, b1⟩ := kk v w1 T'.heap (locs ++ L) hp hP2 hD2
    ⟨Nat.le_trans hS.1 (by rw [e1]; exact hz), fun q h1 h2 => by rw [e1, hk q (Nat.lt_of_lt_of_le h1 hS.1) (fun z => h2 (hFc q z))]; exact hS.2.1 q h1 h2, fun q hq => by
      rcases List.mem_append.mp hq with h | h
      · exact hS.2.2 q h
      · exact hFc _ (hL q h)⟩ T' rfl X'
  exact ⟨t2, st t2 a1, b1⟩
theorem kc_pre (hK : va_K D classes (tys3 cB cI cJ) s) (hN : kNw s) (hP : va_P D classes ws H) (hD : va_D A ws) {isC : List Nat} (hC : isC.map (fun i => ws[i]?) = wc.map some) (hnC : va_nd isC = true) {av : List Value} : PreS s H (kPre D cB cI cJ av wc H.size) av :=
  ⟨kPre.blind, fun U hU hW => ⟨rfl, by rw [hU], by rw [hU]; exact hP.pick hC, va_K.moved hW.alike hK, hN.warm hW, (hD.sub isC hnC hC).weaken (fun _ _ _ _ => trivial)⟩⟩
theorem kc_V (isC isR : List Nat) (S : CallFix p m c cc nL s args ALL own) (hK : va_K D classes (tys3 cB cI cJ) s) (hN : kNw s) (hP : va_P D classes ws H) (hD : va_D A ws) (hS : va_S A H0 H locs) (hA : ∀ q, H0.size ≤ q → A q)
    (hM : Ct l D cB cI cJ y b n ret fr lo mc ms (.ref a :: As) wc post H.size) (hl : (Cond.methodLink own index y).before args s = true) (hini : (Cond.initialized y.cls).before args s = true) (hcb : (Cond.code y b n ret).before args s = true) (hcode : Cond.code y b n ret ∈ ALL) (hinst : (Cond.instanceMethod y).before args s = true) (hsel : (Cond.selects y.cls y y).before args s = true)
    (hd : y.cls ≠ "java/lang/invoke/MethodHandle" ∧ y.cls ≠ "java/lang/invoke/VarHandle" ∧ (parseMethodDescriptor y.desc).map (fun d => d.parameters.length) = some np) (hnp : As.length = np) (hR : fr + 1 ≤ R.frames ∧ 8 + (n + 11) + lo ≤ R.locals)
    {ci : Nat} {T : u_T} {N : Nat} {fs : List Value} (q0 : Nat) (hc : classes[ci]? = some (y.cls, T, N)) (he : ws[q0]? = some (a, .inr (ci, fs)))
    (hC : isC.map (fun i => ws[i]?) = wc.map some) (hRr : isR.map (fun i => ws[i]?) = wr.map some) (hnC : va_nd isC = true) (hnR : va_nd isR = true) (hdis : ∀ i ∈ isR, i ∉ isC)
    (hst : st0 = As.reverse ++ .ref a :: rest) (hsize : ls.size = nL) (hW : 2 * (F0 m pc ls st0).monitorRoom + (rest.map fun v => v.category).sum ≤ 8) (hdg : decode cc pc = .ok (.invokevirtual index, 3)) (hf : cells + mc ≤ R.cells ∧ slots + ms ≤ R.slots)
    (kk : ∀ (v : Option Value) (w1 : va_W) (H1 : Heap) (locs1 : List Loc), post v w1 → va_P D classes (wr ++ w1) H1 → va_D A (wr ++ w1) → va_S A H0 H1 locs1 → W p l e R s m args below meth c H1 locs1 (cells + mc) (slots + ms) Q (F0 m (pc + 3) ls (v.toList ++ rest))) :
    W p l e R s m args below meth c H locs cells slots Q (F0 m pc ls st0) := by
  have hpS := kc_pre (av := Value.ref a :: As) hK hN hP hD hC hnC
  exact kc_go isC isR hP hD hS hA (va_runV (As := As) (rest := rest) S hM ⟨callB_of np S.2.2.2.2 (good_all hcode) rfl rfl rfl hini hl hd hR, hinst, hsel⟩ ⟨hpS.1, va_recv hK hP hc he, hpS.2⟩ rfl hnp hsize hst hW hdg hf) hC hRr hnR hdis kk
theorem kc_S (isC isR : List Nat) (S : CallFix p m c cc nL s args ALL own) (hK : va_K D classes (tys3 cB cI cJ) s) (hN : kNw s) (hP : va_P D classes ws H) (hD : va_D A ws) (hS : va_S A H0 H locs) (hA : ∀ q, H0.size ≤ q → A q)
    (hM : Ct l D cB cI cJ y b n ret fr lo mc ms As wc post H.size) (hl : (Cond.methodLink own index y).before args s = true) (hini : (Cond.initialized y.cls).before args s = true) (hcb : (Cond.code y b n ret).before args s = true) (hcode : Cond.code y b n ret ∈ ALL) (hstat : (Cond.static y).before args s = true)
    (hd : y.cls ≠ "java/lang/invoke/MethodHandle" ∧ y.cls ≠ "java/lang/invoke/VarHandle" ∧ (parseMethodDescriptor y.desc).map (fun d => d.parameters.length) = some np) (hnp : As.length = np) (hR : fr + 1 ≤ R.frames ∧ 8 + (n + 11) + lo ≤ R.locals)
    (hC : isC.map (fun i => ws[i]?) = wc.map some) (hRr : isR.map (fun i => ws[i]?) = wr.map some) (hnC : va_nd isC = true) (hnR : va_nd isR = true) (hdis : ∀ i ∈ isR, i ∉ isC)
    (hst : st0 = As.reverse ++ rest) (hsize : ls.size = nL) (hW : 2 * (F0 m pc ls st0).monitorRoom + (rest.map fun v => v.category).sum ≤ 8) (hdg : decode cc pc = .ok (.invokestatic index, 3)) (hf : cells + mc ≤ R.cells ∧ slots + ms ≤ R.slots)
    (kk : ∀ (v : Option Value) (w1 : va_W) (H1 : Heap) (locs1 : List Loc), post v w1 → va_P D classes (wr ++ w1) H1 → va_D A (wr ++ w1) → va_S A H0 H1 locs1 → W p l e R s m args below meth c H1 locs1 (cells + mc) (slots + ms) Q (F0 m (pc + 3) ls (v.toList ++ rest))) :
    W p l e R s m args below meth c H locs cells slots Q (F0 m pc ls st0) :=
  kc_go isC isR hP hD hS hA (va_runS (As := As) (rest := rest) S hM ⟨callB_of np S.2.2.2.2 (good_all hcode) rfl rfl rfl hini hl hd hR, hstat⟩ (kc_pre hK hN hP hD hC hnC) rfl hnp hsize hst hW hdg hf) hC hRr hnR hdis kk
theorem kc_SN (isC isR : List Nat) {host : String} (S : CallFix p m c cc nL s args ALL own) (hK : va_K D classes (tys3 cB cI cJ) s) (hN : kNw s) (hP : va_P D classes ws H) (hD : va_D A ws) (hS : va_S A H0 H locs) (hA : ∀ q, H0.size ≤ q → A q)
    (hM : Ct l D cB cI cJ y b n ret fr lo mc ms As wc post H.size) (hl : va_Nw (.methodLinkNest own index y host) s) (hini : (Cond.initialized y.cls).before args s = true) (hcb : (Cond.code y b n ret).before args s = true) (hcode : Cond.code y b n ret ∈ ALL) (hstat : (Cond.static y).before args s = true)
    (hd : y.cls ≠ "java/lang/invoke/MethodHandle" ∧ y.cls ≠ "java/lang/invoke/VarHandle" ∧ (parseMethodDescriptor y.desc).map (fun d => d.parameters.length) = some np) (hnp : As.length = np) (hR : fr + 1 ≤ R.frames ∧ 8 + (n + 11) + lo ≤ R.locals)
    (hC : isC.map (fun i => ws[i]?) = wc.map some) (hRr : isR.map (fun i => ws[i]?) = wr.map some) (hnC : va_nd isC = true) (hnR : va_nd isR = true) (hdis : ∀ i ∈ isR, i ∉ isC)
    (hst : st0 = As.reverse ++ rest) (hsize : ls.size = nL) (hW : 2 * (F0 m pc ls st0).monitorRoom + (rest.map fun v => v.category).sum ≤ 8) (hdg : decode cc pc = .ok (.invokestatic index, 3)) (hf : cells + mc ≤ R.cells ∧ slots + ms ≤ R.slots)
    (kk : ∀ (v : Option Value) (w1 : va_W) (H1 : Heap) (locs1 : List Loc), post v w1 → va_P D classes (wr ++ w1) H1 → va_D A (wr ++ w1) → va_S A H0 H1 locs1 → W p l e R s m args below meth c H1 locs1 (cells + mc) (slots + ms) Q (F0 m (pc + 3) ls (v.toList ++ rest))) :
    W p l e R s m args below meth c H locs cells slots Q (F0 m pc ls st0) :=
  kc_go isC isR hP hD hS hA (va_runSN (As := As) (rest := rest) S hM ⟨va_cnB np S.2.2.2.2 (good_all hcode) rfl rfl rfl hl hini hd hR, hstat, trivial⟩ (kc_pre hK hN hP hD hC hnC) rfl hnp hsize hst hW hdg hf) hC hRr hnR hdis kk
theorem kc_I (isC isR : List Nat) (S : CallFix p m c cc nL s args ALL own) (hK : va_K D classes (tys3 cB cI cJ) s) (hN : kNw s) (hP : va_P D classes ws H) (hD : va_D A ws) (hS : va_S A H0 H locs) (hA : ∀ q, H0.size ≤ q → A q)
    (hM : Ct l D cB cI cJ y b n none fr lo mc ms (.ref a :: As) wc post H.size) (hl : (Cond.methodLink own index y).before args s = true) (hini : (Cond.initialized y.cls).before args s = true) (hcb : (Cond.code y b n none).before args s = true) (hcode : Cond.code y b n none ∈ ALL) (hinst : (Cond.instanceMethod y).before args s = true)
    (hd : y.cls ≠ "java/lang/invoke/MethodHandle" ∧ y.cls ≠ "java/lang/invoke/VarHandle" ∧ (parseMethodDescriptor y.desc).map (fun d => d.parameters.length) = some np) (hnp : As.length = np) (hR : fr + 1 ≤ R.frames ∧ 8 + (n + 11) + lo ≤ R.locals) (hy1 : y.name = "<init>")
    (hC : isC.map (fun i => ws[i]?) = wc.map some) (hRr : isR.map (fun i => ws[i]?) = wr.map some) (hnC : va_nd isC = true) (hnR : va_nd isR = true) (hdis : ∀ i ∈ isR, i ∉ isC)
    (hst : st0 = As.reverse ++ .ref a :: rest) (hsize : ls.size = nL) (hW : 2 * (F0 m pc ls st0).monitorRoom + (rest.map fun v => v.category).sum ≤ 8) (hdg : decode cc pc = .ok (.invokespecial index, 3)) (hf : cells + mc ≤ R.cells ∧ slots + ms ≤ R.slots)
    (kk : ∀ (v : Option Value) (w1 : va_W) (H1 : Heap) (locs1 : List Loc), post v w1 → va_P D classes (wr ++ w1) H1 → va_D A (wr ++ w1) → va_S A H0 H1 locs1 → W p l e R s m args below meth c H1 locs1 (cells + mc) (slots + ms) Q (F0 m (pc + 3) ls (v.toList ++ rest))) :
    W p l e R s m args below meth c H locs cells slots Q (F0 m pc ls st0) :=
  kc_go isC isR hP hD hS hA (va_runI (As := As) (rest := rest) (b := a) S hM ⟨callB_of np S.2.2.2.2 (good_all hcode) rfl rfl rfl hini hl hd hR, hy1, hinst⟩ (kc_pre (av := Value.ref a :: As) hK hN hP hD hC hnC) rfl hnp hsize hst hW hdg hf) hC hRr hnR hdis kk
end KC
section KR
variable {p : Program} {l : Launch} {e : Env} {R : Room} {s : State} {m : MethodId} {args : Array Value} {below : List Frame} {meth : Method} {c : Code} {H : Heap} {locs : List Loc} {cells slots : Nat} {Q : State → Prop}
variable {cc : ByteArray} {pc : Nat} {ls : Array Slot} {D : va_G} {A : Nat → Prop} {w1 : va_W} {post : Option Value → va_W → Prop} {mc ms : Nat} {cB cI cJ : ClassId}
theorem kr_i {v : Int32} (hx : p.tables.exec = Jvm.exec) (hb : c.code = cc) (hr : meth.sig.returnType = some .int) (hlk : meth.locks = false) (hQ : Q = MQ below (kQ D post A) args s mc ms A) (hK : va_K D classes (tys3 cB cI cJ) s) (hP : va_P D classes w1 H) (hD : va_D A w1) (hS : va_S A s.heap H locs) (hp : post (some (.int v)) w1) (h1 : cells ≤ mc) (h2 : slots ≤ ms) (hdg : decode cc pc = .ok (.ireturn, 1)) :
    W p l e R s m args below meth c H locs cells slots Q (F0 m pc ls [.int v]) := by
  subst hQ
  exact W.widen h1 h2 (W.iret hx hb hr (fun t ht hW => ⟨⟨_, w1, rfl, hp, by rw [ht]; exact hP, hD⟩, hS.F ht⟩) hS.2.2 hdg hlk)
theorem kr_z {v : Int32} (hx : p.tables.exec = Jvm.exec) (hb : c.code = cc) (hr : meth.sig.returnType = some .boolean) (hlk : meth.locks = false) (hQ : Q = MQ below (kQ D post A) args s mc ms A) (hK : va_K D classes (tys3 cB cI cJ) s) (hP : va_P D classes w1 H) (hD : va_D A w1) (hS : va_S A s.heap H locs) (hp : post (some (.int v)) w1) (h1 : cells ≤ mc) (h2 : slots ≤ ms) (hn : narrow .boolean (.int v) = .int v) (hdg : decode cc pc = .ok (.ireturn, 1)) :
    W p l e R s m args below meth c H locs cells slots Q (F0 m pc ls [.int v]) := by
  subst hQ
  exact W.widen h1 h2 (W.zret hx hb hr hn (fun t ht hW => ⟨⟨_, w1, rfl, hp, by rw [ht]; exact hP, hD⟩, hS.F ht⟩) hS.2.2 hdg hlk)
theorem kr_l {v : Int64} (hx : p.tables.exec = Jvm.exec) (hb : c.code = cc) (hr : meth.sig.returnType = some .long) (hlk : meth.locks = false) (hQ : Q = MQ below (kQ D post A) args s mc ms A) (hK : va_K D classes (tys3 cB cI cJ) s) (hP : va_P D classes w1 H) (hD : va_D A w1) (hS : va_S A s.heap H locs) (hp : post (some (.long v)) w1) (h1 : cells ≤ mc) (h2 : slots ≤ ms) (hdg : decode cc pc = .ok (.lreturn, 1)) :
    W p l e R s m args below meth c H locs cells slots Q (F0 m pc ls [.long v]) := by
  subst hQ
  exact W.widen h1 h2 (W.lret hx hb hr (fun t ht hW => ⟨⟨_, w1, rfl, hp, by rw [ht]; exact hP, hD⟩, hS.F ht⟩) hS.2.2 hdg hlk)
theorem kr_v (hx : p.tables.exec = Jvm.exec) (hb : c.code = cc) (hr : meth.sig.returnType = none) (hlk : meth.locks = false) (hQ : Q = MQ below (kQ D post A) args s mc ms A) (hK : va_K D classes (tys3 cB cI cJ) s) (hP : va_P D classes w1 H) (hD : va_D A w1) (hS : va_S A s.heap H locs) (hp : post none w1) (h1 : cells ≤ mc) (h2 : slots ≤ ms) (hdg : decode cc pc = .ok (.return_, 1)) :
    W p l e R s m args below meth c H locs cells slots Q (F0 m pc ls []) := by
  subst hQ
  exact W.widen h1 h2 (W.vret hx hb hr (fun t ht hW => ⟨⟨_, w1, rfl, hp, by rw [ht]; exact hP, hD⟩, hS.F ht⟩) hS.2.2 hdg hlk)
theorem kr_a {v : Nat} {rt : FieldType} (hx : p.tables.exec = Jvm.exec) (hb : c.code = cc) (hr : meth.sig.returnType = some rt) (hlk : meth.locks = false) (hQ : Q = MQ below (kQ D post A) args s mc ms A) (hK : va_K D classes (tys3 cB cI cJ) s) (hP : va_P D classes w1 H) (hD : va_D A w1) (hS : va_S A s.heap H locs) (hp : post (some (.ref v)) w1) (h1 : cells ≤ mc) (h2 : slots ≤ ms) (hrt : (∃ n, rt = .object n) ∨ ∃ t, rt = .array t) (hdg : decode cc pc = .ok (.areturn, 1)) :
    W p l e R s m args below meth c H locs cells slots Q (F0 m pc ls [.ref v]) := by
  subst hQ
  exact W.widen h1 h2 (W.aret hx hb hr hrt (Or.inr ⟨_, rfl⟩) (fun t ht hW => ⟨⟨_, w1, rfl, hp, by rw [ht]; exact hP, hD⟩, hS.F ht⟩) hS.2.2 hdg hlk)
end KR
section KN
variable {p : Program} {l : Launch} {e : Env} {R : Room} {s : State} {m : MethodId} {args : Array Value} {below : List Frame} {meth : Method} {c : Code} {H : Heap} {locs : List Loc} {cells slots : Nat} {Q : State → Prop}
variable {cc : ByteArray} {pc : Nat} {ls : Array Slot} {rest : List Value} {D : va_G} {A : Nat → Prop} {H0 : Heap} {ws : va_W} {cB cI cJ : ClassId} {n : Int32}
theorem kn_int (hx : p.tables.exec = Jvm.exec) (hb : c.code = cc) (harr : (Cond.arrayClass .int).before args s = true) (hK : va_K D classes (tys3 cB cI cJ) s) (hP : va_P D classes ws H) (hD : va_D A ws) (hS : va_S A H0 H locs) (hA : ∀ q, H0.size ≤ q → A q) {N : Nat} (hn : ¬ n < 0) (hN : n.toNatClampNeg = N) (hby : N * 4 ≤ 536870912) (hc : cells + 1 ≤ R.cells) (hs : slots + N ≤ R.slots) (hdg : decode cc pc = .ok (.newarray .int, 2))
    (kk : ∀ (q : Nat) (H1 : Heap), va_P D classes (ws ++ [(q, .inl (cI, N, .inl (fun _ => 0)))]) H1 → va_D A (ws ++ [(q, .inl (cI, N, .inl (fun _ => 0)))]) → va_S A H0 H1 locs → W p l e R s m args below meth c H1 locs (cells + 1) (slots + N) Q (F0 m (pc + 2) ls (.ref q :: rest))) :
    W p l e R s m args below meth c H locs cells slots Q (F0 m pc ls (.int n :: rest)) := by
  refine va_newa (atype := .int) (ty := .int) (a0 := (N, .inl (fun _ => 0))) hx hb harr rfl hK hP hD hS hA (fun _ => rfl) hn hN hby hc hs hdg (fun q cA H1 hK1 hP1 hD1 hS1 => ?_)
  have e1 : cA = cI := by
    have h1 : s.vm.findClass _ = some cA := (hK1.2 3 (cA, .int) rfl).2
    have h2 : s.vm.findClass _ = some cI := (hK.2 1 (cI, .int) rfl).2
    exact Option.some.inj (h1.symm.trans h2)
  subst e1
  exact kk q H1 hP1 hD1 hS1
theorem kn_byte (hx : p.tables.exec = Jvm.exec) (hb : c.code = cc) (harr : (Cond.arrayClass .byte).before args s = true) (hK : va_K D classes (tys3 cB cI cJ) s) (hP : va_P D classes ws H) (hD : va_D A ws) (hS : va_S A H0 H locs) (hA : ∀ q, H0.size ≤ q → A q) {N : Nat} (hn : ¬ n < 0) (hN : n.toNatClampNeg = N) (hby : N * 1 ≤ 536870912) (hc : cells + 1 ≤ R.cells) (hs : slots + N ≤ R.slots) (hdg : decode cc pc = .ok (.newarray .byte, 2))
    (kk : ∀ (q : Nat) (H1 : Heap), va_P D classes (ws ++ [(q, .inl (cB, N, .inl (fun _ => 0)))]) H1 → va_D A (ws ++ [(q, .inl (cB, N, .inl (fun _ => 0)))]) → va_S A H0 H1 locs → W p l e R s m args below meth c H1 locs (cells + 1) (slots + N) Q (F0 m (pc + 2) ls (.ref q :: rest))) :
    W p l e R s m args below meth c H locs cells slots Q (F0 m pc ls (.int n :: rest)) := by
  refine va_newa (atype := .byte) (ty := .byte) (a0 := (N, .inl (fun _ => 0))) hx hb harr rfl hK hP hD hS hA (fun _ => rfl) hn hN hby hc hs hdg (fun q cA H1 hK1 hP1 hD1 hS1 => ?_)
  have e1 : cA = cB := by
    have h1 : s.vm.findClass _ = some cA := (hK1.2 3 (cA, .byte) rfl).2
    have h2 : s.vm.findClass _ = some cB := (hK.2 0 (cB, .byte) rfl).2
    exact Option.some.inj (h1.symm.trans h2)
  subst e1
  exact kk q H1 hP1 hD1 hS1
theorem kn_long (hx : p.tables.exec = Jvm.exec) (hb : c.code = cc) (harr : (Cond.arrayClass .long).before args s = true) (hK : va_K D classes (tys3 cB cI cJ) s) (hP : va_P D classes ws H) (hD : va_D A ws) (hS : va_S A H0 H locs) (hA : ∀ q, H0.size ≤ q → A q) {N : Nat} (hn : ¬ n < 0) (hN : n.toNatClampNeg = N) (hby : N * 8 ≤ 536870912) (hc : cells + 1 ≤ R.cells) (hs : slots + N ≤ R.slots) (hdg : decode cc pc = .ok (.newarray .long, 2))
    (kk : ∀ (q : Nat) (H1 : Heap), va_P D classes (ws ++ [(q, .inl (cJ, N, .inr (.inl (fun _ => 0))))]) H1 → va_D A (ws ++ [(q, .inl (cJ, N, .inr (.inl (fun _ => 0))))]) → va_S A H0 H1 locs → W p l e R s m args below meth c H1 locs (cells + 1) (slots + N) Q (F0 m (pc + 2) ls (.ref q :: rest))) :
    W p l e R s m args below meth c H locs cells slots Q (F0 m pc ls (.int n :: rest)) := by
  refine va_newa (atype := .long) (ty := .long) (a0 := (N, .inr (.inl (fun _ => 0)))) hx hb harr rfl hK hP hD hS hA (fun _ => rfl) hn hN hby hc hs hdg (fun q cA H1 hK1 hP1 hD1 hS1 => ?_)
  have e1 : cA = cJ := by
    have h1 : s.vm.findClass _ = some cA := (hK1.2 3 (cA, .long) rfl).2
    have h2 : s.vm.findClass _ = some cJ := (hK.2 2 (cJ, .long) rfl).2
    exact Option.some.inj (h1.symm.trans h2)
  subst e1
  exact kk q H1 hP1 hD1 hS1
end KN
/-! small numbers -/
theorem vin_of {i : Int32} {n : Nat} (h1 : ¬ i < 0) (h2 : ¬ nI n ≤ i) (hn : n < 2147483648) : vp_in i n := by
  rw [vp_in_iff]
  rw [Int32.lt_iff_toInt_lt, Int32.toInt_zero] at h1
  rw [Int32.le_iff_toInt_le, nI_toInt hn] at h2
  omega
theorem i32_succ {i b : Int32} (h : ¬ b ≤ i) : (i + 1).toInt = i.toInt + 1 := by
  rw [Int32.le_iff_toInt_le] at h
  have h1 := b.toInt_lt
  have h2 := i.le_toInt
  rw [Int32.toInt_add]
  have h3 : (1 : Int32).toInt = 1 := by decide
  rw [h3, Int.bmod_eq_of_le] <;> omega
theorem tm_up {i b : Int32} (h : ¬ b ≤ i) : (b.toInt - (i + 1).toInt).toNat < (b.toInt - i.toInt).toNat := by
  rw [i32_succ h]
  rw [Int32.le_iff_toInt_le] at h
  omega
theorem up_nn {i b : Int32} (h0 : ¬ i < 0) (h : ¬ b ≤ i) : ¬ i + 1 < 0 := by
  rw [Int32.lt_iff_toInt_lt, Int32.toInt_zero] at h0 ⊢
  rw [i32_succ h]
  omega
theorem i32_add {i : Int32} (k : Int32) (h1 : -2147483648 ≤ i.toInt + k.toInt) (h2 : i.toInt + k.toInt < 2147483648) : (i + k).toInt = i.toInt + k.toInt := by
  rw [Int32.toInt_add, Int.bmod_eq_of_le] <;> omega
theorem tm_dn8 {v : Int32} (h : ¬ v < 0) : ((v + (-8)).toInt + 8).toNat < (v.toInt + 8).toNat := by
  rw [Int32.lt_iff_toInt_lt, Int32.toInt_zero] at h
  have h3 : (-8 : Int32).toInt = -8 := by decide
  have h4 := v.toInt_lt
  have h5 := i32_add (i := v) (-8) (by rw [h3]; omega) (by rw [h3]; omega)
  rw [h5, h3]
  omega
theorem tm_up4 {i b : Int32} (h : ¬ b ≤ i) (hb : b.toInt ≤ 2147483000) : (b.toInt - (i + 4).toInt).toNat < (b.toInt - i.toInt).toNat := by
  rw [Int32.le_iff_toInt_le] at h
  have h3 : (4 : Int32).toInt = 4 := by decide
  have h4 := i.le_toInt
  have h5 := i32_add (i := i) 4 (by rw [h3]; omega) (by rw [h3]; omega)
  rw [h5, h3]
  omega
theorem tm_up6 {i b : Int32} (h : ¬ b ≤ i) (hb : b.toInt ≤ 2147483000) : (b.toInt - (i + 6).toInt).toNat < (b.toInt - i.toInt).toNat := by
  rw [Int32.le_iff_toInt_le] at h
  have h3 : (6 : Int32).toInt = 6 := by decide
  have h4 := i.le_toInt
  have h5 := i32_add (i := i) 6 (by rw [h3]; omega) (by rw [h3]; omega)
  rw [h5, h3]
  omega
theorem mx_ge {q L2 : Int32} : q.toInt ≤ (if q < L2 then L2 else q).toInt := by
  split
  · next h => rw [Int32.lt_iff_toInt_lt] at h; omega
  · exact Int.le_refl _
theorem mr_gt {cm most L2 : Int32} {n : Nat} (hn : n < 2147483648) (h : ¬ (if cm < most then cm else most) ≤ nI n) : nI n < (if (if (if cm < most then cm else most) < L2 then L2 else (if cm < most then cm else most)) < most then (if (if cm < most then cm else most) < L2 then L2 else (if cm < most then cm else most)) else most) := by
  have h1 : (if cm < most then cm else most).toInt ≤ most.toInt := by
    split
    · next h2 => rw [Int32.lt_iff_toInt_lt] at h2; omega
    · exact Int.le_refl _
  generalize (if cm < most then cm else most) = q at h h1 ⊢
  have h2 := mx_ge (q := q) (L2 := L2)
  generalize (if q < L2 then L2 else q) = z at h2 ⊢
  rw [Int32.le_iff_toInt_le] at h
  rw [Int32.lt_iff_toInt_lt]
  split
  · omega
  · omega
theorem mr_le {a most : Int32} : (if a < most then a else most).toInt ≤ most.toInt := by
  split
  · next h2 => rw [Int32.lt_iff_toInt_lt] at h2; omega
  · exact Int.le_refl _
theorem clamp_le {a : Int32} {k : Nat} (h : a.toInt ≤ k) : a.toNatClampNeg ≤ k := by
  have : a.toNatClampNeg = a.toInt.toNat := rfl
  omega
theorem mr_by {a most : Int32} {k : Nat} (h : most.toInt ≤ k) : (if a < most then a else most).toNatClampNeg ≤ k := clamp_le (Int.le_trans mr_le h)
/-- the elements of a new row of bytes, if one is made -/
def gr_By (most count : Int32) (n : Nat) (p : Int32) : Nat := if (if count + p < most then count + p else most) ≤ nI n then 0 else (if (if (if count + p < most then count + p else most) < 2 * nI n then 2 * nI n else (if count + p < most then count + p else most)) < most then (if (if count + p < most then count + p else most) < 2 * nI n then 2 * nI n else (if count + p < most then count + p else most)) else most).toNatClampNeg
theorem gr_le {most count : Int32} {n : Nat} {p : Int32} {k : Nat} (h : most.toInt ≤ k) : gr_By most count n p ≤ k := by
  unfold gr_By
  by_cases c : (if count + p < most then count + p else most) ≤ nI n
  · rw [if_pos c]; exact Nat.zero_le _
  · rw [if_neg c]; exact mr_by h
theorem be_nn {need L2 : Int32} {n : Nat} (hn : n < 2147483648) (h : ¬ need ≤ nI n) : ¬ (if (if need < L2 then L2 else need) < 4096 then (if need < L2 then L2 else need) else 4096) < 0 := by
  rw [Int32.le_iff_toInt_le, nI_toInt hn] at h
  rw [Int32.lt_iff_toInt_lt, Int32.toInt_zero]
  have h2 := mx_ge (q := need) (L2 := L2)
  generalize (if need < L2 then L2 else need) = z at h2 ⊢
  have h4 : (4096 : Int32).toInt = 4096 := by decide
  split
  · omega
  · omega
theorem be_le (a : Int32) : (if a < 4096 then a else 4096).toNatClampNeg ≤ 4096 := mr_by (by decide)
theorem be_by (a : Int32) : (if a < 4096 then a else 4096).toNatClampNeg * 8 ≤ 536870912 := by
  have := be_le a
  omega
theorem nI_lt_nn {n : Nat} {p : Int32} (hn : n < 2147483648) (h : nI n < p) : ¬ p < 0 := by
  rw [Int32.lt_iff_toInt_lt, nI_toInt hn] at h
  rw [Int32.lt_iff_toInt_lt, Int32.toInt_zero]
  omega
theorem nI_lt_len {n : Nat} {p : Int32} (hn : n < 2147483648) (h : nI n < p) : n ≤ p.toNatClampNeg := by
  rw [Int32.lt_iff_toInt_lt, nI_toInt hn] at h
  have : p.toNatClampNeg = p.toInt.toNat := rfl
  omega
