/-! MY KIT: exceptions -/
theorem th_cast {cls t : String} {a b : Array Value} {u U : State} (hW : u.vm.Alike U.vm) (h : (Cond.castable cls t).before a u = true) : (Cond.castable cls t).before b U = true := by
  have h1 := (Cond.castable_setVm (args := a) hW cls t).trans h
  exact h1
theorem th_not {cls t : String} {a b : Array Value} {u U : State} (hW : u.vm.Alike U.vm) (h : (Cond.not (Cond.castable cls t)).before a u = true) : (Cond.not (Cond.castable cls t)).before b U = true := by
  have hv := Cond.holds_not_iff.mp h
  refine Cond.holds_not_iff.mpr ?_
  simp only [Cond.value] at hv ⊢
  rw [← hW.findClass, ← hW.findClass] at hv
  cases h1 : U.vm.findClass cls <;> cases h2 : U.vm.findClass t <;> simp only [h1, h2] at hv ⊢ <;> try (cases hv)
  rw [hW.assignable]
  exact hv
theorem th_decl {x : MethodName} {a b : Array Value} {u U : State} (hW : u.vm.Alike U.vm) (h : (Cond.declares x).before a u = true) : (Cond.declares x).before b U = true := by
  have h1 := (Cond.declares_setVm (args := a) hW x).trans h
  exact h1
theorem th_lay {o n d : String} {a b : Array Value} {u U : State} (hW : u.vm.Alike U.vm) (hh : ∀ (q : Nat) (cell : Cell), u.heap[q]? = some cell → cell.vm.isStatics = true → U.heap[q]? = some cell) (h : (Cond.laysStatic o n d).before a u = true) : (Cond.laysStatic o n d).before b U = true := by
  obtain ⟨c, k, i, f, q, cell, h1, h2, h3, h4, h5, h6, h7, h8, h9⟩ := Cond.laysStatic_spec (Cond.laysStatic_setVm hW h)
  exact Cond.laysStatic_of (s := U) (cell := cell) h1 h2 h3 h4 (hh q cell h5 h6) h6 h7 h8 h9
theorem th_ref {o n d : String} {a b : Array Value} {u U : State} (hW : u.vm.Alike U.vm) (hh : ∀ (q : Nat) (cell : Cell), u.heap[q]? = some cell → cell.vm.isStatics = true → U.heap[q]? = some cell) (hl : (Cond.laysStatic o n d).before a u = true) (h : (Cond.isRef (.static o n d)).before a u = true) : (Cond.isRef (.static o n d)).before b U = true := by
  obtain ⟨c, k, i, f, q, cell, h1, h2, h3, h4, h5, h6, h7, h8, h9⟩ := Cond.laysStatic_spec hl
  obtain ⟨v, hv⟩ := Cond.staticRefV h2 h3 h4 h5 h6 h
  obtain ⟨k', g1, g2⟩ := State.fieldFound?_setVm hW h2
  have g3 : U.fieldFound? o n d = some (c, k', i, f) := g1
  have g4 : k'.statics = some q := by rw [g2]; exact h4
  have g5 := hh q cell h5 h6
  obtain ⟨vv, hvv⟩ := v
  have ev : (Term.static o n d).eval b U none [] U = some vv := by
    simp only at hv
    simp [Term.eval, State.fieldNamed?, g3, h3, g4, g5, h6, hv]
  have e2 : Cond.holds b U none U [] (Cond.isRef (.static o n d)) = ((((Term.static o n d).eval b U none [] U).map fun | .ref _ | .null => true | _ => false) == some true) := rfl
  show Cond.holds b U none U [] (Cond.isRef (.static o n d)) = true
  rw [e2, ev]
  cases vv <;> first | rfl | cases hvv
def isTh : Cond → Bool
  | .castable .. => true
  | .declares _ => true
  | .laysStatic .. => true
  | .stringRef .. => true
  | .not (.castable ..) => true
  | _ => false
theorem th_str {o t : String} {k : Nat} {a b : Array Value} {u U : State} (hW : u.WarmedH U.vm) (h : (Cond.stringRef o k t).before a u = true) : (Cond.stringRef o k t).before b U = true := by
  have h1 := Cond.stringRef_warmed hW h
  exact h1
theorem th_word {w : Cond} (hw : isTh w = true) {a b : Array Value} {u U : State} (hW : u.WarmedH U.vm) (hh : ∀ (q : Nat) (cell : Cell), u.heap[q]? = some cell → cell.vm.isStatics = true → U.heap[q]? = some cell) (h : w.before a u = true) : w.before b U = true := by
  unfold isTh at hw
  split at hw
  · exact th_cast hW.alike h
  · exact th_decl hW.alike h
  · exact th_lay hW.alike hh h
  · exact th_str hW h
  · exact th_not hW.alike h
  · cases hw
def exN : Nat → String
  | 1 => "java/lang/IllegalArgumentException"
  | 2 => "java/util/NoSuchElementException"
  | 3 => "java/lang/IllegalStateException"
  | _ => "java/lang/UnsupportedOperationException"
def THW : List Cond := [.castable "java/lang/IllegalArgumentException" "java/lang/IllegalArgumentException",
  .castable "java/util/NoSuchElementException" "java/util/NoSuchElementException",
  .castable "java/lang/IllegalStateException" "java/lang/IllegalStateException",
  .castable "java/lang/UnsupportedOperationException" "java/lang/UnsupportedOperationException",
  .declares ⟨"java/lang/RuntimeException", "<init>", "(Ljava/lang/String;)V"⟩,
  .declares ⟨"java/lang/Exception", "<init>", "(Ljava/lang/String;)V"⟩,
  .declares ⟨"java/lang/Throwable", "<init>", "(Ljava/lang/String;)V"⟩,
  .laysStatic "java/lang/Throwable" "UNASSIGNED_STACK" "[Ljava/lang/StackTraceElement;",
  .laysStatic "java/lang/Throwable" "SUPPRESSED_SENTINEL" "Ljava/util/List;",
  .stringRef "FileBoxes" 55 "a side is below 1",
  .stringRef "FileBoxes" 60 "components are not 1 to 16",
  .stringRef "FileBoxes" 66 "no such bits",
  .stringRef "FileBoxes" 95 "no such component",
  .stringRef "FileBoxes" 105 "no such colours",
  .stringRef "FileBoxes" 115 "no profile was told",
  .stringRef "FileBoxes" 121 "not a byte",
  .stringRef "FileBoxes" 131 "the profile is full",
  .stringRef "FileBoxes" 140 "entries are not 0 to 1024",
  .stringRef "FileBoxes" 142 "columns are not 1 to 8",
  .stringRef "FileBoxes" 144 "more than 4096 numbers",
  .stringRef "FileBoxes" 166 "no such column",
  .stringRef "FileBoxes" 173 "no such number",
  .stringRef "FileBoxes" 183 "the number needs more bits",
  .stringRef "FileBoxes" 193 "no palette, or the map is full",
  .stringRef "FileBoxes" 195 "component is not 0 to 15",
  .stringRef "FileBoxes" 201 "no such way or column",
  .stringRef "FileBoxes" 206 "channel is not 0 to 15",
  .stringRef "FileBoxes" 212 "no such type, or nothing to belong to",
  .stringRef "FileBoxes" 220 "16 lines are there, or the channel was told",
  .stringRef "FileBoxes" 225 "a part is not 1 to 65535",
  .stringRef "FileBoxes" 230 "a power is not -128 to 127",
  .stringRef "FileBoxes" 251 "none such in the plan",
  .stringRef "FileBoxes" 245 "nothing of this kind",
  .stringRef "FileBoxes" 267 "no such channel",
  .stringRef "FileBoxes" 272 "the file is full",
  .stringRef "FileBoxes" 274 "no such byte",
  .stringRef "FileBoxes" 279 "bytes are not 0 to 65536",
  .stringRef "FileBoxes" 285 "the plan lacks something, or tells what isn't there",
  .stringRef "FileBoxes" 291 "the file would be too long",
  .stringRef "FileBoxes" 307 "the file is not scanned",
  .not (.castable "java/lang/IllegalArgumentException" "java/util/NoSuchElementException"),
  .not (.castable "java/lang/IllegalArgumentException" "java/lang/IllegalStateException"),
  .not (.castable "java/lang/IllegalArgumentException" "java/lang/UnsupportedOperationException"),
  .not (.castable "java/util/NoSuchElementException" "java/lang/IllegalArgumentException"),
  .not (.castable "java/util/NoSuchElementException" "java/lang/IllegalStateException"),
  .not (.castable "java/util/NoSuchElementException" "java/lang/UnsupportedOperationException"),
  .not (.castable "java/lang/IllegalStateException" "java/lang/IllegalArgumentException"),
  .not (.castable "java/lang/IllegalStateException" "java/util/NoSuchElementException"),
  .not (.castable "java/lang/IllegalStateException" "java/lang/UnsupportedOperationException"),
  .not (.castable "java/lang/UnsupportedOperationException" "java/lang/IllegalArgumentException"),
  .not (.castable "java/lang/UnsupportedOperationException" "java/util/NoSuchElementException"),
  .not (.castable "java/lang/UnsupportedOperationException" "java/lang/IllegalStateException")]
theorem thw_ok : ∀ w ∈ THW, isTh w = true := by decide +kernel
theorem lk_FB_55 : Cond.stringRef "FileBoxes" 55 "a side is below 1" ∈ THW := List.mem_of_getElem? (i := 9) rfl
theorem lk_FB_60 : Cond.stringRef "FileBoxes" 60 "components are not 1 to 16" ∈ THW := List.mem_of_getElem? (i := 10) rfl
theorem lk_FB_66 : Cond.stringRef "FileBoxes" 66 "no such bits" ∈ THW := List.mem_of_getElem? (i := 11) rfl
theorem lk_FB_95 : Cond.stringRef "FileBoxes" 95 "no such component" ∈ THW := List.mem_of_getElem? (i := 12) rfl
theorem lk_FB_105 : Cond.stringRef "FileBoxes" 105 "no such colours" ∈ THW := List.mem_of_getElem? (i := 13) rfl
theorem lk_FB_115 : Cond.stringRef "FileBoxes" 115 "no profile was told" ∈ THW := List.mem_of_getElem? (i := 14) rfl
theorem lk_FB_121 : Cond.stringRef "FileBoxes" 121 "not a byte" ∈ THW := List.mem_of_getElem? (i := 15) rfl
theorem lk_FB_131 : Cond.stringRef "FileBoxes" 131 "the profile is full" ∈ THW := List.mem_of_getElem? (i := 16) rfl
theorem lk_FB_140 : Cond.stringRef "FileBoxes" 140 "entries are not 0 to 1024" ∈ THW := List.mem_of_getElem? (i := 17) rfl
theorem lk_FB_142 : Cond.stringRef "FileBoxes" 142 "columns are not 1 to 8" ∈ THW := List.mem_of_getElem? (i := 18) rfl
theorem lk_FB_144 : Cond.stringRef "FileBoxes" 144 "more than 4096 numbers" ∈ THW := List.mem_of_getElem? (i := 19) rfl
theorem lk_FB_166 : Cond.stringRef "FileBoxes" 166 "no such column" ∈ THW := List.mem_of_getElem? (i := 20) rfl
theorem lk_FB_173 : Cond.stringRef "FileBoxes" 173 "no such number" ∈ THW := List.mem_of_getElem? (i := 21) rfl
theorem lk_FB_183 : Cond.stringRef "FileBoxes" 183 "the number needs more bits" ∈ THW := List.mem_of_getElem? (i := 22) rfl
theorem lk_FB_193 : Cond.stringRef "FileBoxes" 193 "no palette, or the map is full" ∈ THW := List.mem_of_getElem? (i := 23) rfl
theorem lk_FB_195 : Cond.stringRef "FileBoxes" 195 "component is not 0 to 15" ∈ THW := List.mem_of_getElem? (i := 24) rfl
theorem lk_FB_201 : Cond.stringRef "FileBoxes" 201 "no such way or column" ∈ THW := List.mem_of_getElem? (i := 25) rfl
theorem lk_FB_206 : Cond.stringRef "FileBoxes" 206 "channel is not 0 to 15" ∈ THW := List.mem_of_getElem? (i := 26) rfl
theorem lk_FB_212 : Cond.stringRef "FileBoxes" 212 "no such type, or nothing to belong to" ∈ THW := List.mem_of_getElem? (i := 27) rfl
theorem lk_FB_220 : Cond.stringRef "FileBoxes" 220 "16 lines are there, or the channel was told" ∈ THW := List.mem_of_getElem? (i := 28) rfl
theorem lk_FB_225 : Cond.stringRef "FileBoxes" 225 "a part is not 1 to 65535" ∈ THW := List.mem_of_getElem? (i := 29) rfl
theorem lk_FB_230 : Cond.stringRef "FileBoxes" 230 "a power is not -128 to 127" ∈ THW := List.mem_of_getElem? (i := 30) rfl
theorem lk_FB_251 : Cond.stringRef "FileBoxes" 251 "none such in the plan" ∈ THW := List.mem_of_getElem? (i := 31) rfl
theorem lk_FB_245 : Cond.stringRef "FileBoxes" 245 "nothing of this kind" ∈ THW := List.mem_of_getElem? (i := 32) rfl
theorem lk_FB_267 : Cond.stringRef "FileBoxes" 267 "no such channel" ∈ THW := List.mem_of_getElem? (i := 33) rfl
theorem lk_FB_272 : Cond.stringRef "FileBoxes" 272 "the file is full" ∈ THW := List.mem_of_getElem? (i := 34) rfl
theorem lk_FB_274 : Cond.stringRef "FileBoxes" 274 "no such byte" ∈ THW := List.mem_of_getElem? (i := 35) rfl
theorem lk_FB_279 : Cond.stringRef "FileBoxes" 279 "bytes are not 0 to 65536" ∈ THW := List.mem_of_getElem? (i := 36) rfl
theorem lk_FB_285 : Cond.stringRef "FileBoxes" 285 "the plan lacks something, or tells what isn't there" ∈ THW := List.mem_of_getElem? (i := 37) rfl
theorem lk_FB_291 : Cond.stringRef "FileBoxes" 291 "the file would be too long" ∈ THW := List.mem_of_getElem? (i := 38) rfl
theorem lk_FB_307 : Cond.stringRef "FileBoxes" 307 "the file is not scanned" ∈ THW := List.mem_of_getElem? (i := 39) rfl
theorem th_c1 : Cond.castable "java/lang/IllegalArgumentException" "java/lang/IllegalArgumentException" ∈ THW := List.mem_of_getElem? (i := 0) rfl
theorem th_c2 : Cond.castable "java/util/NoSuchElementException" "java/util/NoSuchElementException" ∈ THW := List.mem_of_getElem? (i := 1) rfl
theorem th_c3 : Cond.castable "java/lang/IllegalStateException" "java/lang/IllegalStateException" ∈ THW := List.mem_of_getElem? (i := 2) rfl
theorem th_c4 : Cond.castable "java/lang/UnsupportedOperationException" "java/lang/UnsupportedOperationException" ∈ THW := List.mem_of_getElem? (i := 3) rfl
theorem th_l1 : Cond.laysStatic "java/lang/Throwable" "UNASSIGNED_STACK" "[Ljava/lang/StackTraceElement;" ∈ THW := List.mem_of_getElem? (i := 7) rfl
theorem th_l2 : Cond.laysStatic "java/lang/Throwable" "SUPPRESSED_SENTINEL" "Ljava/util/List;" ∈ THW := List.mem_of_getElem? (i := 8) rfl
theorem th_d0 : Cond.declares ⟨"java/lang/RuntimeException", "<init>", "(Ljava/lang/String;)V"⟩ ∈ THW := List.mem_of_getElem? (i := 4) rfl
theorem th_d1 : Cond.declares ⟨"java/lang/Exception", "<init>", "(Ljava/lang/String;)V"⟩ ∈ THW := List.mem_of_getElem? (i := 5) rfl
theorem th_d2 : Cond.declares ⟨"java/lang/Throwable", "<init>", "(Ljava/lang/String;)V"⟩ ∈ THW := List.mem_of_getElem? (i := 6) rfl
theorem th_n12 : Cond.not (.castable "java/lang/IllegalArgumentException" "java/util/NoSuchElementException") ∈ THW := List.mem_of_getElem? (i := 40) rfl
theorem th_n13 : Cond.not (.castable "java/lang/IllegalArgumentException" "java/lang/IllegalStateException") ∈ THW := List.mem_of_getElem? (i := 41) rfl
theorem th_n14 : Cond.not (.castable "java/lang/IllegalArgumentException" "java/lang/UnsupportedOperationException") ∈ THW := List.mem_of_getElem? (i := 42) rfl
theorem th_n21 : Cond.not (.castable "java/util/NoSuchElementException" "java/lang/IllegalArgumentException") ∈ THW := List.mem_of_getElem? (i := 43) rfl
theorem th_n23 : Cond.not (.castable "java/util/NoSuchElementException" "java/lang/IllegalStateException") ∈ THW := List.mem_of_getElem? (i := 44) rfl
theorem th_n24 : Cond.not (.castable "java/util/NoSuchElementException" "java/lang/UnsupportedOperationException") ∈ THW := List.mem_of_getElem? (i := 45) rfl
theorem th_n31 : Cond.not (.castable "java/lang/IllegalStateException" "java/lang/IllegalArgumentException") ∈ THW := List.mem_of_getElem? (i := 46) rfl
theorem th_n32 : Cond.not (.castable "java/lang/IllegalStateException" "java/util/NoSuchElementException") ∈ THW := List.mem_of_getElem? (i := 47) rfl
theorem th_n34 : Cond.not (.castable "java/lang/IllegalStateException" "java/lang/UnsupportedOperationException") ∈ THW := List.mem_of_getElem? (i := 48) rfl
theorem th_n41 : Cond.not (.castable "java/lang/UnsupportedOperationException" "java/lang/IllegalArgumentException") ∈ THW := List.mem_of_getElem? (i := 49) rfl
theorem th_n42 : Cond.not (.castable "java/lang/UnsupportedOperationException" "java/util/NoSuchElementException") ∈ THW := List.mem_of_getElem? (i := 50) rfl
theorem th_n43 : Cond.not (.castable "java/lang/UnsupportedOperationException" "java/lang/IllegalStateException") ∈ THW := List.mem_of_getElem? (i := 51) rfl
def kTh (U : State) : Prop := (∀ w ∈ THW, w.before #[] U = true) ∧ (Cond.isRef (.static "java/lang/Throwable" "UNASSIGNED_STACK" "[Ljava/lang/StackTraceElement;")).before #[] U = true ∧ (Cond.isRef (.static "java/lang/Throwable" "SUPPRESSED_SENTINEL" "Ljava/util/List;")).before #[] U = true
theorem kTh.move {u U : State} (hW : u.WarmedH U.vm) (hh : ∀ (q : Nat) (cell : Cell), u.heap[q]? = some cell → cell.vm.isStatics = true → U.heap[q]? = some cell) (h : kTh u) : kTh U :=
  ⟨fun w hw => th_word (thw_ok w hw) hW hh (h.1 w hw), th_ref hW.alike hh (h.1 _ th_l1) h.2.1, th_ref hW.alike hh (h.1 _ th_l2) h.2.2⟩
theorem kTh.same {u U : State} (hv : U.vm = u.vm) (hh : U.heap = u.heap) (h : kTh u) : kTh U := h.move (by rw [hv]; exact State.WarmedH.refl u) (fun q cell h1 _ => by rw [hh]; exact h1)
theorem va_at_cell {D : va_G} {cl : List vw_C} {q : Nat × va_E} {H : Heap} (h : va_at D cl q H) : ∃ cell : Cell, H[q.1]? = some cell ∧ cell.vm = .none := by
  obtain ⟨a, e⟩ := q
  rcases e with x | x
  · have h1 : H[a]? = some (vp_cell x.1 x.2) := h
    refine ⟨_, h1, ?_⟩
    obtain ⟨c1, n, f⟩ := x
    rcases f with f | f | f | f | f <;> rfl
  · obtain ⟨r, h1, cell, g1, g2, g3, -⟩ := h
    exact ⟨cell, g1, g3⟩
section KX
variable {p : Program} {l : Launch} {e : Env} {R : Room} {s : State} {m : MethodId} {args : Array Value} {below : List Frame} {meth : Method} {c : Code} {T : State} {locs : List Loc} {cells slots : Nat}
def kxW (own : String) (ic : Nat) (X : String) : List Cond :=
  [.methodLink own ic (Bundle.initS X), .instantiable X 6, .selects X Bundle.tFill0 Bundle.tFill0, .selects X Bundle.tFill Bundle.tFill,
   .lays X Bundle.tN "cause" "Ljava/lang/Throwable;", .lays X Bundle.tN "stackTrace" Bundle.steD, .lays X Bundle.tN "suppressedExceptions" Bundle.listD, .lays X Bundle.tN "detailMessage" "Ljava/lang/String;",
   .isRef (.static Bundle.tN "UNASSIGNED_STACK" Bundle.steD), .isRef (.static Bundle.tN "SUPPRESSED_SENTINEL" Bundle.listD),
   .fieldLink Bundle.tN 198 Bundle.tN "backtrace" "Ljava/lang/Object;", .lays Bundle.tN Bundle.tN "backtrace" "Ljava/lang/Object;", .lays X Bundle.tN "backtrace" "Ljava/lang/Object;"]
set_option maxHeartbeats 2000000 in
/-- an exception with a message, made by 'new', leaves the method: what the constructor changes is the new cell alone -/
theorem kx_go (X : Stand p l e R s m args below meth c T locs cells slots) (hx : p.tables.exec = Jvm.exec) (htr : e.platform.stackTraces = false) (hlk : meth.locks = false) {own cls : String} {ic ix : Nat} {bytes : ByteArray}
    (hown : s.vm.findClass own = some m.cls) (hcls : Bundle.fit cls = true)
    (d0 : decode bytes 0 = .ok (.aload_n 0, 1)) (d1 : decode bytes 1 = .ok (.aload_n 1, 1)) (d2 : decode bytes 2 = .ok (.invokespecial ix, 3)) (d5 : decode bytes 5 = .ok (.return_, 1))
    (w1 : ∀ a ∈ Bundle.throwableAtoms, a.before args s = true) (w2 : ∀ a ∈ Bundle.throwableSAtoms, a.before args s = true) (w3 : ∀ a ∈ Bundle.passSAtoms cls "java/lang/RuntimeException" ix bytes, a.before args s = true)
    (w4 : ∀ a ∈ Bundle.chainSAtoms "java/lang/RuntimeException" ["java/lang/Exception"], a.before args s = true) (w5 : ∀ a ∈ kxW own ic cls, a.before args s = true)
    (hlocs : ∀ x ∈ locs, ∀ cell, s.heap[x.base]? = some cell → cell.vm.isStatics = false)
    {a : Addr} {cX : ClassId} {kX : Class} (hcX : s.vm.findClass cls = some cX) (hkX : s.vm.classes[cX]? = some kX) (hord : kX.kind = .ordinary) (hcell : T.heap[a]? = some (freshCell cX kX)) (hnew : s.heap.size ≤ a) {msg : Value} (hmsg : msg.isRef = true)
    {g : JFrame} (hg : g.method = m) (hsize : g.locals.size = c.maxLocals) (hlocked : g.locked = none) (hentered : g.entered = []) {rest : List Value} (hstack : g.stack = msg :: .ref a :: .ref a :: rest)
    (dI : decode c.code g.pc = .ok (.invokespecial ic, 3)) (dT : decode c.code (g.pc + 3) = .ok (.athrow, 1)) (hout : ∀ x ∈ c.exceptionTable.toList, covers x (g.pc + 3) = false)
    (hRf : 5 < R.frames) (hRl : 2 * g.monitorRoom + ((Value.ref a :: rest).map fun v => v.category).sum + 81 ≤ R.locals) :
    ∃ U : State, Steps p.tables e below (T.setTop g) U ∧ U.status = .running ∧ Ended U below (.threw a) ∧ s.WarmedH U.vm ∧ (∃ L, s.sameButNew ({ U with vm := s.vm } : State) L cells slots ∧ ∀ y ∈ L, y ∈ locs ∨ y.base = a) ∧
      (∀ q : Nat, q ≠ a → U.heap[q]? = T.heap[q]?) ∧ U.heap.size = T.heap.size ∧ ∃ ce : Cell, U.heap[a]? = some ce ∧ ce.cls = cX ∧ ce.vm = .none := by
  have pl := X.admits.platform
  have o1 : e.platform.frameOwnsMonitors = true := by rw [pl]
  have o2 : e.platform.finalization = false := by rw [pl]
  have o3 : e.platform.magicAccessors = ({} : Platform).magicAccessors := by rw [pl]
  have k5 : ∀ x, x ∈ kxW own ic cls → x.holds args s none s [] = true := fun x h => w5 x h
  obtain ⟨T0, Z0, L, -, Y⟩ := ThrowableC.of_atoms (args := args) o1 o2 o3 w1
  obtain ⟨Z, M, LZ, LM, hZ⟩ := Init0T.ofS_atoms (args := args) o3 L Y w2
  obtain ⟨P1, L1, n1, s1⟩ := PassC.ofS_atoms (args := args) (s := s) o3 (X := cls) (Y := "java/lang/RuntimeException") (Bundle.fit_spec hcls).1 (by decide) d0 d1 d2 d5 w3
  obtain ⟨P2, Ps, hlen, L2, L3, n2, c1, c2⟩ := Bundle.chainS (args := args) o3 hZ ["java/lang/Exception"] "java/lang/RuntimeException" (by decide +kernel) (by decide +kernel) w4
  have hsup : P1.sup = P2.m := Option.some.inj (s1.symm.trans n2)
  have hcm : cX = P1.m.cls := Option.some.inj (hcX.symm.trans (findClass_of_methodNamed n1))
  subst hcm
  have f0 : selectMethod e.platform s.vm P1.m.cls T0.fill0 = .method T0.fill0 := by
    obtain ⟨_, _, _, q1, q2, q3, q4, -⟩ := Cond.selects_spec (k5 (.selects cls Bundle.tFill0 Bundle.tFill0) (by simp [kxW]))
    cases q1.symm.trans hcX; cases q2.symm.trans (State.methodFound?_of_named Y.fill0 (by decide)); cases q3.symm.trans Y.fill0
    rw [Launch.admits_selectMethod X.admits]; exact q4
  have f1 : selectMethod e.platform s.vm P1.m.cls T0.fill = .method T0.fill := by
    obtain ⟨_, _, _, q1, q2, q3, q4, -⟩ := Cond.selects_spec (k5 (.selects cls Bundle.tFill Bundle.tFill) (by simp [kxW]))
    cases q1.symm.trans hcX; cases q2.symm.trans (State.methodFound?_of_named Y.fill (by decide)); cases q3.symm.trans Y.fill
    rw [Launch.admits_selectMethod X.admits]; exact q4
  obtain ⟨cs0, hs0, hst⟩ := Y.statics
  obtain ⟨u0, hu0⟩ := Cond.staticRefV Y.unassigned L.unassignedStatic L.statics hs0 hst (k5 (.isRef (.static Bundle.tN "UNASSIGNED_STACK" Bundle.steD)) (by simp [kxW]))
  obtain ⟨sn, hsn⟩ := Cond.staticRefV Y.sentinel L.sentinelStatic L.statics hs0 hst (k5 (.isRef (.static Bundle.tN "SUPPRESSED_SENTINEL" Bundle.listD)) (by simp [kxW]))
  obtain ⟨cb, ib, fb, b1, b2, b3, b4, -, b5, b6, b7⟩ := Cond.ownField (t := .object "java/lang/Object") Y.found L.cls (by decide +kernel) (k5 (.fieldLink Bundle.tN 198 Bundle.tN "backtrace" "Ljava/lang/Object;") (by simp [kxW])) (k5 (.lays Bundle.tN Bundle.tN "backtrace" "Ljava/lang/Object;") (by simp [kxW])) e.platform o3
  obtain ⟨cs, hcs, hce, -, hkp⟩ := X.same.2.2.2.2.2 T0.aS cs0 hs0
  have hout' : ∀ i, (⟨T0.aS, i⟩ : Loc) ∉ locs := fun i hm => by
    have := hlocs _ hm cs0 hs0
    rw [hst] at this; cases this
  have hkn : cs.vm ≠ .unknown := by
    rw [hce]; intro hu
    rw [show cs0.vm = .unknown from hu] at hst
    cases hst
  have hne : T0.aS ≠ a := Nat.ne_of_lt (Nat.lt_of_lt_of_le (Array.getElem?_eq_some_iff.mp hs0).1 hnew)
  obtain ⟨im, hfm⟩ := Y.msg
  obtain ⟨tC, eC, gC, gC'⟩ := Cond.laysAt hcX hkX Y.cause (k5 (.lays cls Bundle.tN "cause" "Ljava/lang/Throwable;") (by simp [kxW]))
  obtain ⟨tS, eS, gS, gS'⟩ := Cond.laysAt hcX hkX Y.stack (k5 (.lays cls Bundle.tN "stackTrace" Bundle.steD) (by simp [kxW]))
  obtain ⟨tP, eP, gP, gP'⟩ := Cond.laysAt hcX hkX Y.supp (k5 (.lays cls Bundle.tN "suppressedExceptions" Bundle.listD) (by simp [kxW]))
  obtain ⟨tM, eM, gM, gM'⟩ := Cond.laysAt hcX hkX hfm (k5 (.lays cls Bundle.tN "detailMessage" "Ljava/lang/String;") (by simp [kxW]))
  obtain ⟨tB, eB, gB, gB'⟩ := Cond.laysAt hcX hkX b7 (k5 (.lays cls Bundle.tN "backtrace" "Ljava/lang/Object;") (by simp [kxW]))
  have aC := Cond.laysApart gB gC gB' gC' (by rw [b5, Y.causeName]; decide)
  have aS := Cond.laysApart gB gS gB' gS' (by rw [b5, Y.stackName]; decide)
  have aP := Cond.laysApart gB gP gB' gP' (by rw [b5, Y.suppName]; decide)
  have hskip : SkipFacts T0 e.platform s (fun u => u) u0 ((preparedCellV T0.toThrowableT (freshCell P1.m.cls kX) a u0 sn).withEntry T.cur) :=
    ⟨{ ci198 := cb, i198 := ib, fBack := fb }, ⟨b1, b2, b3, b4⟩, by
      have := fresh_default (c := P1.m.cls) tB
      rw [b6] at this
      simpa [preparedCellV, Cell.setSlot, Cell.withEntry, Array.getElem?_setIfInBounds, aC, aS, aP, aC.symm, aS.symm, aP.symm, defaultValue] using this, fun _ _ => rfl⟩
  obtain ⟨tm, methC, cdC, kC, vm₁, hnC, -, -, -, -, -, -, -, hW₁, st1⟩ := Steps.initColdS (tb := p.tables) (e := e) (below := below) (s := s) (U := T) X.here hx X.warmed o3 hown (t := Bundle.initS cls) rfl rfl (Bundle.fit_spec hcls).2
    (k5 (.methodLink own ic (Bundle.initS cls)) (by simp [kxW])) (w3 (.instanceMethod (Bundle.initS cls)) (by simp [Bundle.passSAtoms])) (bytes := bytes) (maxL := 2) (w3 (.code (Bundle.initS cls) bytes 2 none) (by simp [Bundle.passSAtoms]))
    (f := g) hg (a := a) (msg := msg) (rest := .ref a :: rest) hstack dI
  cases Option.some.inj (hnC.symm.trans n1)
  have X1 := X.noted hW₁
  obtain ⟨vm₂, X2, st2⟩ := X1.ctorMessageOffV hx (g := { g with stack := .ref a :: rest }) hg hsize T0 L Z LZ M LM (P1 :: P2 :: Ps)
    (fun P hP => by
      rcases List.mem_cons.mp hP with rfl | hP
      · exact L1
      · rcases List.mem_cons.mp hP with rfl | hP
        · exact L2
        · exact L3 P hP) ⟨hsup, c1, c2⟩ (u0 := u0) (sen := sn) (self := a) hmsg (cell := freshCell P1.m.cls kX) (cellS := cs)
    hcell (fun _ => by simp) (by simp) rfl rfl f0 f1 hcs hne hkn (by rw [hkp _ (hout' _)]; exact hu0) (by rw [hkp _ (hout' _)]; exact hsn)
    (Takes.of_laid hkX hord tC (by rw [Y.causeType]; rfl)) (Takes.of_laid hkX hord tS (by rw [Y.stackType]; exact fits_refV_array _ u0)) (Takes.of_laid hkX hord tP (by rw [Y.suppType]; exact fits_refV_object _ sn))
    (Takes.of_laid hkX hord tM (by rw [Y.msgType]; exact fits_refV_object _ ⟨msg, hmsg⟩)) Y.objLocals hskip htr [] dI
    (by simp only [List.length_cons, hlen, List.length_nil]; omega) (by simp only [List.length_cons, hlen, List.length_nil]; omega)
  obtain ⟨hwalk, hrun, hended, hWU, hsame⟩ := X2.athrowLeaves hx (g := { g with stack := .ref a :: rest, pc := g.pc + 3 }) hg hlocked hentered hout (a := a) (rest := rest) rfl dT
  have hlt : a < ((T.setVm vm₁).setVm vm₂).heap.size := (Array.getElem?_eq_some_iff.mp hcell).1
  refine ⟨_, st1 _ (fun acts => ?_), hrun, hended, hWU, ⟨_, hsame, fun y hy => ?_⟩, fun q hq => ?_, ?_, _, heapAt_setCell_self (s := (T.setVm vm₁).setVm vm₂) (plainBareV T0.toThrowableT (freshCell P1.m.cls kX) a u0 sn msg) hlt, rfl, rfl⟩
  · rw [doInvoke_state]
    exact st2 _ hwalk
  · rcases List.mem_append.mp hy with h1 | h1
    · exact Or.inl h1
    · right
      simp only [List.mem_cons, List.not_mem_nil, or_false] at h1
      rcases h1 with rfl | rfl | rfl | rfl | rfl <;> rfl
  · show ((T.heap.setIfInBounds a _)[q]?) = _
    rw [Array.getElem?_setIfInBounds_ne (Ne.symm hq)]
  · show (T.heap.setIfInBounds a _).size = _
    simp
end KX
def thok (w : Cond) : Prop := w ∈ ALL ∨ w ∈ THW ∨ w = .isRef (.static "java/lang/Throwable" "UNASSIGNED_STACK" "[Ljava/lang/StackTraceElement;") ∨ w = .isRef (.static "java/lang/Throwable" "SUPPRESSED_SENTINEL" "Ljava/util/List;")
theorem xw1 : ∀ w ∈ Bundle.throwableAtoms, thok w := by
  unfold Bundle.throwableAtoms
  refine List.forall_mem_cons.mpr ⟨Or.inl (tb1 11 (by decide +kernel) rfl), ?_⟩
  refine List.forall_mem_cons.mpr ⟨Or.inl (tb3 84 (by decide +kernel) rfl), ?_⟩
  refine List.forall_mem_cons.mpr ⟨Or.inl (tb3 93 (by decide +kernel) rfl), ?_⟩
  refine List.forall_mem_cons.mpr ⟨Or.inl (tb3 98 (by decide +kernel) rfl), ?_⟩
  refine List.forall_mem_cons.mpr ⟨Or.inl (tb3 101 (by decide +kernel) rfl), ?_⟩
  refine List.forall_mem_cons.mpr ⟨Or.inl (tb3 103 (by decide +kernel) rfl), ?_⟩
  refine List.forall_mem_cons.mpr ⟨Or.inl (tb3 85 (by decide +kernel) rfl), ?_⟩
  refine List.forall_mem_cons.mpr ⟨Or.inl (tb3 86 (by decide +kernel) rfl), ?_⟩
  refine List.forall_mem_cons.mpr ⟨Or.inl (tb1 25 (by decide +kernel) rfl), ?_⟩
  refine List.forall_mem_cons.mpr ⟨Or.inl (tb1 26 (by decide +kernel) rfl), ?_⟩
  refine List.forall_mem_cons.mpr ⟨Or.inl (tb3 87 (by decide +kernel) rfl), ?_⟩
  refine List.forall_mem_cons.mpr ⟨Or.inl (tb3 92 (by decide +kernel) rfl), ?_⟩
  refine List.forall_mem_cons.mpr ⟨Or.inl (tb3 99 (by decide +kernel) rfl), ?_⟩
  refine List.forall_mem_cons.mpr ⟨Or.inl (tb3 119 (by decide +kernel) rfl), ?_⟩
  refine List.forall_mem_cons.mpr ⟨Or.inl (tb3 74 (by decide +kernel) rfl), ?_⟩
  refine List.forall_mem_cons.mpr ⟨Or.inl (tb3 120 (by decide +kernel) rfl), ?_⟩
  refine List.forall_mem_cons.mpr ⟨Or.inl (tb3 76 (by decide +kernel) rfl), ?_⟩
  refine List.forall_mem_cons.mpr ⟨Or.inl (tb3 121 (by decide +kernel) rfl), ?_⟩
  refine List.forall_mem_cons.mpr ⟨Or.inl (tb3 78 (by decide +kernel) rfl), ?_⟩
  refine List.forall_mem_cons.mpr ⟨Or.inl (tb3 88 (by decide +kernel) rfl), ?_⟩
  refine List.forall_mem_cons.mpr ⟨Or.inr (Or.inl th_l1), ?_⟩
  refine List.forall_mem_cons.mpr ⟨Or.inl (tb3 90 (by decide +kernel) rfl), ?_⟩
  refine List.forall_mem_cons.mpr ⟨Or.inr (Or.inl th_l2), ?_⟩
  refine List.forall_mem_cons.mpr ⟨Or.inl (tb3 80 (by decide +kernel) rfl), ?_⟩
  intro w hw
  cases hw
theorem xw2 : ∀ w ∈ Bundle.throwableSAtoms, thok w := by
  unfold Bundle.throwableSAtoms
  refine List.forall_mem_cons.mpr ⟨Or.inl (tb3 115 (by decide +kernel) rfl), ?_⟩
  refine List.forall_mem_cons.mpr ⟨Or.inl (tb3 116 (by decide +kernel) rfl), ?_⟩
  refine List.forall_mem_cons.mpr ⟨Or.inl (tb3 118 (by decide +kernel) rfl), ?_⟩
  refine List.forall_mem_cons.mpr ⟨Or.inl (tb3 80 (by decide +kernel) rfl), ?_⟩
  intro w hw
  cases hw
theorem xw4a : ∀ w ∈ Bundle.passSAtoms "java/lang/RuntimeException" "java/lang/Exception" 7 Bundle.six, thok w := by
  unfold Bundle.passSAtoms
  refine List.forall_mem_cons.mpr ⟨Or.inl (tb3 109 (by decide +kernel) rfl), ?_⟩
  refine List.forall_mem_cons.mpr ⟨Or.inl (tb3 110 (by decide +kernel) rfl), ?_⟩
  refine List.forall_mem_cons.mpr ⟨Or.inl (tb3 111 (by decide +kernel) rfl), ?_⟩
  refine List.forall_mem_cons.mpr ⟨Or.inl (tb3 112 (by decide +kernel) rfl), ?_⟩
  refine List.forall_mem_cons.mpr ⟨Or.inr (Or.inl th_d1), ?_⟩
  intro w hw
  cases hw
theorem xw4b : ∀ w ∈ Bundle.passSAtoms "java/lang/Exception" "java/lang/Throwable" 7 Bundle.six, thok w := by
  unfold Bundle.passSAtoms
  refine List.forall_mem_cons.mpr ⟨Or.inl (tb3 112 (by decide +kernel) rfl), ?_⟩
  refine List.forall_mem_cons.mpr ⟨Or.inl (tb3 113 (by decide +kernel) rfl), ?_⟩
  refine List.forall_mem_cons.mpr ⟨Or.inl (tb3 114 (by decide +kernel) rfl), ?_⟩
  refine List.forall_mem_cons.mpr ⟨Or.inl (tb3 115 (by decide +kernel) rfl), ?_⟩
  refine List.forall_mem_cons.mpr ⟨Or.inr (Or.inl th_d2), ?_⟩
  intro w hw
  cases hw
theorem xw4 : ∀ w ∈ Bundle.chainSAtoms "java/lang/RuntimeException" ["java/lang/Exception"], thok w := by
  intro w hw
  rcases List.mem_append.mp hw with h | h
  · exact xw4a w h
  · exact xw4b w h
def exB1 : ByteArray := (⟨#[0x2a, 0x2b, 0xb7, 0x00, 0x07, 0xb1]⟩ : ByteArray)
theorem xw3_1 : ∀ w ∈ Bundle.passSAtoms (exN 1) "java/lang/RuntimeException" 7 exB1, thok w := by
  unfold Bundle.passSAtoms
  refine List.forall_mem_cons.mpr ⟨Or.inl (tb3 106 (by decide +kernel) rfl), ?_⟩
  refine List.forall_mem_cons.mpr ⟨Or.inl (tb3 107 (by decide +kernel) rfl), ?_⟩
  refine List.forall_mem_cons.mpr ⟨Or.inl (tb3 108 (by decide +kernel) rfl), ?_⟩
  refine List.forall_mem_cons.mpr ⟨Or.inl (tb3 109 (by decide +kernel) rfl), ?_⟩
  refine List.forall_mem_cons.mpr ⟨Or.inr (Or.inl th_d0), ?_⟩
  intro w hw
  cases hw
theorem xw5_1 : ∀ w ∈ kxW "FileBoxes" 57 (exN 1), thok w := by
  unfold kxW
  refine List.forall_mem_cons.mpr ⟨Or.inl (tb3 105 (by decide +kernel) rfl), ?_⟩
  refine List.forall_mem_cons.mpr ⟨Or.inl (tb3 63 (by decide +kernel) rfl), ?_⟩
  refine List.forall_mem_cons.mpr ⟨Or.inl (tb3 71 (by decide +kernel) rfl), ?_⟩
  refine List.forall_mem_cons.mpr ⟨Or.inl (tb3 72 (by decide +kernel) rfl), ?_⟩
  refine List.forall_mem_cons.mpr ⟨Or.inl (tb3 73 (by decide +kernel) rfl), ?_⟩
  refine List.forall_mem_cons.mpr ⟨Or.inl (tb3 75 (by decide +kernel) rfl), ?_⟩
  refine List.forall_mem_cons.mpr ⟨Or.inl (tb3 77 (by decide +kernel) rfl), ?_⟩
  refine List.forall_mem_cons.mpr ⟨Or.inl (tb3 79 (by decide +kernel) rfl), ?_⟩
  refine List.forall_mem_cons.mpr ⟨Or.inr (Or.inr (Or.inl rfl)), ?_⟩
  refine List.forall_mem_cons.mpr ⟨Or.inr (Or.inr (Or.inr rfl)), ?_⟩
  refine List.forall_mem_cons.mpr ⟨Or.inl (tb3 83 (by decide +kernel) rfl), ?_⟩
  refine List.forall_mem_cons.mpr ⟨Or.inl (tb3 82 (by decide +kernel) rfl), ?_⟩
  refine List.forall_mem_cons.mpr ⟨Or.inl (tb3 81 (by decide +kernel) rfl), ?_⟩
  intro w hw
  cases hw
theorem exW6_1 : Cond.initialized (exN 1) ∈ ALL := tb1 14 (by decide +kernel) rfl
theorem exW7_1 : Cond.instantiable (exN 1) 6 ∈ ALL := tb3 63 (by decide +kernel) rfl
abbrev exC1 : Nat := 53
abbrev exM1 : Nat := 57
def exB2 : ByteArray := (⟨#[0x2a, 0x2b, 0xb7, 0x00, 0x0d, 0xb1]⟩ : ByteArray)
theorem xw3_2 : ∀ w ∈ Bundle.passSAtoms (exN 2) "java/lang/RuntimeException" 13 exB2, thok w := by
  unfold Bundle.passSAtoms
  refine List.forall_mem_cons.mpr ⟨Or.inl (tb3 153 (by decide +kernel) rfl), ?_⟩
  refine List.forall_mem_cons.mpr ⟨Or.inl (tb3 154 (by decide +kernel) rfl), ?_⟩
  refine List.forall_mem_cons.mpr ⟨Or.inl (tb3 155 (by decide +kernel) rfl), ?_⟩
  refine List.forall_mem_cons.mpr ⟨Or.inl (tb3 109 (by decide +kernel) rfl), ?_⟩
  refine List.forall_mem_cons.mpr ⟨Or.inr (Or.inl th_d0), ?_⟩
  intro w hw
  cases hw
theorem xw5_2 : ∀ w ∈ kxW "FileBoxes" 97 (exN 2), thok w := by
  unfold kxW
  refine List.forall_mem_cons.mpr ⟨Or.inl (tb3 152 (by decide +kernel) rfl), ?_⟩
  refine List.forall_mem_cons.mpr ⟨Or.inl (tb3 143 (by decide +kernel) rfl), ?_⟩
  refine List.forall_mem_cons.mpr ⟨Or.inl (tb3 145 (by decide +kernel) rfl), ?_⟩
  refine List.forall_mem_cons.mpr ⟨Or.inl (tb3 97 (by decide +kernel) rfl), ?_⟩
  refine List.forall_mem_cons.mpr ⟨Or.inl (tb3 146 (by decide +kernel) rfl), ?_⟩
  refine List.forall_mem_cons.mpr ⟨Or.inl (tb3 147 (by decide +kernel) rfl), ?_⟩
  refine List.forall_mem_cons.mpr ⟨Or.inl (tb3 148 (by decide +kernel) rfl), ?_⟩
  refine List.forall_mem_cons.mpr ⟨Or.inl (tb3 149 (by decide +kernel) rfl), ?_⟩
  refine List.forall_mem_cons.mpr ⟨Or.inr (Or.inr (Or.inl rfl)), ?_⟩
  refine List.forall_mem_cons.mpr ⟨Or.inr (Or.inr (Or.inr rfl)), ?_⟩
  refine List.forall_mem_cons.mpr ⟨Or.inl (tb3 83 (by decide +kernel) rfl), ?_⟩
  refine List.forall_mem_cons.mpr ⟨Or.inl (tb3 82 (by decide +kernel) rfl), ?_⟩
  refine List.forall_mem_cons.mpr ⟨Or.inl (tb3 150 (by decide +kernel) rfl), ?_⟩
  intro w hw
  cases hw
theorem exW6_2 : Cond.initialized (exN 2) ∈ ALL := tb1 15 (by decide +kernel) rfl
theorem exW7_2 : Cond.instantiable (exN 2) 6 ∈ ALL := tb3 143 (by decide +kernel) rfl
abbrev exC2 : Nat := 93
abbrev exM2 : Nat := 97
def exB3 : ByteArray := (⟨#[0x2a, 0x2b, 0xb7, 0x00, 0x07, 0xb1]⟩ : ByteArray)
theorem xw3_3 : ∀ w ∈ Bundle.passSAtoms (exN 3) "java/lang/RuntimeException" 7 exB3, thok w := by
  unfold Bundle.passSAtoms
  refine List.forall_mem_cons.mpr ⟨Or.inl (tb3 189 (by decide +kernel) rfl), ?_⟩
  refine List.forall_mem_cons.mpr ⟨Or.inl (tb3 190 (by decide +kernel) rfl), ?_⟩
  refine List.forall_mem_cons.mpr ⟨Or.inl (tb3 191 (by decide +kernel) rfl), ?_⟩
  refine List.forall_mem_cons.mpr ⟨Or.inl (tb3 109 (by decide +kernel) rfl), ?_⟩
  refine List.forall_mem_cons.mpr ⟨Or.inr (Or.inl th_d0), ?_⟩
  intro w hw
  cases hw
theorem xw5_3 : ∀ w ∈ kxW "FileBoxes" 117 (exN 3), thok w := by
  unfold kxW
  refine List.forall_mem_cons.mpr ⟨Or.inl (tb3 188 (by decide +kernel) rfl), ?_⟩
  refine List.forall_mem_cons.mpr ⟨Or.inl (tb3 179 (by decide +kernel) rfl), ?_⟩
  refine List.forall_mem_cons.mpr ⟨Or.inl (tb3 181 (by decide +kernel) rfl), ?_⟩
  refine List.forall_mem_cons.mpr ⟨Or.inl (tb3 95 (by decide +kernel) rfl), ?_⟩
  refine List.forall_mem_cons.mpr ⟨Or.inl (tb3 182 (by decide +kernel) rfl), ?_⟩
  refine List.forall_mem_cons.mpr ⟨Or.inl (tb3 183 (by decide +kernel) rfl), ?_⟩
  refine List.forall_mem_cons.mpr ⟨Or.inl (tb3 184 (by decide +kernel) rfl), ?_⟩
  refine List.forall_mem_cons.mpr ⟨Or.inl (tb3 185 (by decide +kernel) rfl), ?_⟩
  refine List.forall_mem_cons.mpr ⟨Or.inr (Or.inr (Or.inl rfl)), ?_⟩
  refine List.forall_mem_cons.mpr ⟨Or.inr (Or.inr (Or.inr rfl)), ?_⟩
  refine List.forall_mem_cons.mpr ⟨Or.inl (tb3 83 (by decide +kernel) rfl), ?_⟩
  refine List.forall_mem_cons.mpr ⟨Or.inl (tb3 82 (by decide +kernel) rfl), ?_⟩
  refine List.forall_mem_cons.mpr ⟨Or.inl (tb3 186 (by decide +kernel) rfl), ?_⟩
  intro w hw
  cases hw
theorem exW6_3 : Cond.initialized (exN 3) ∈ ALL := tb1 16 (by decide +kernel) rfl
theorem exW7_3 : Cond.instantiable (exN 3) 6 ∈ ALL := tb3 179 (by decide +kernel) rfl
abbrev exC3 : Nat := 113
abbrev exM3 : Nat := 117
def exB4 : ByteArray := (⟨#[0x2a, 0x2b, 0xb7, 0x00, 0x07, 0xb1]⟩ : ByteArray)
theorem xw3_4 : ∀ w ∈ Bundle.passSAtoms (exN 4) "java/lang/RuntimeException" 7 exB4, thok w := by
  unfold Bundle.passSAtoms
  refine List.forall_mem_cons.mpr ⟨Or.inl (tb3 209 (by decide +kernel) rfl), ?_⟩
  refine List.forall_mem_cons.mpr ⟨Or.inl (tb3 210 (by decide +kernel) rfl), ?_⟩
  refine List.forall_mem_cons.mpr ⟨Or.inl (tb3 211 (by decide +kernel) rfl), ?_⟩
  refine List.forall_mem_cons.mpr ⟨Or.inl (tb3 109 (by decide +kernel) rfl), ?_⟩
  refine List.forall_mem_cons.mpr ⟨Or.inr (Or.inl th_d0), ?_⟩
  intro w hw
  cases hw
theorem xw5_4 : ∀ w ∈ kxW "FileBoxes" 133 (exN 4), thok w := by
  unfold kxW
  refine List.forall_mem_cons.mpr ⟨Or.inl (tb3 208 (by decide +kernel) rfl), ?_⟩
  refine List.forall_mem_cons.mpr ⟨Or.inl (tb3 199 (by decide +kernel) rfl), ?_⟩
  refine List.forall_mem_cons.mpr ⟨Or.inl (tb3 201 (by decide +kernel) rfl), ?_⟩
  refine List.forall_mem_cons.mpr ⟨Or.inl (tb3 96 (by decide +kernel) rfl), ?_⟩
  refine List.forall_mem_cons.mpr ⟨Or.inl (tb3 202 (by decide +kernel) rfl), ?_⟩
  refine List.forall_mem_cons.mpr ⟨Or.inl (tb3 203 (by decide +kernel) rfl), ?_⟩
  refine List.forall_mem_cons.mpr ⟨Or.inl (tb3 204 (by decide +kernel) rfl), ?_⟩
  refine List.forall_mem_cons.mpr ⟨Or.inl (tb3 205 (by decide +kernel) rfl), ?_⟩
  refine List.forall_mem_cons.mpr ⟨Or.inr (Or.inr (Or.inl rfl)), ?_⟩
  refine List.forall_mem_cons.mpr ⟨Or.inr (Or.inr (Or.inr rfl)), ?_⟩
  refine List.forall_mem_cons.mpr ⟨Or.inl (tb3 83 (by decide +kernel) rfl), ?_⟩
  refine List.forall_mem_cons.mpr ⟨Or.inl (tb3 82 (by decide +kernel) rfl), ?_⟩
  refine List.forall_mem_cons.mpr ⟨Or.inl (tb3 206 (by decide +kernel) rfl), ?_⟩
  intro w hw
  cases hw
theorem exW6_4 : Cond.initialized (exN 4) ∈ ALL := tb1 17 (by decide +kernel) rfl
theorem exW7_4 : Cond.instantiable (exN 4) 6 ∈ ALL := tb3 199 (by decide +kernel) rfl
abbrev exC4 : Nat := 129
abbrev exM4 : Nat := 133
def kO (o : Option Value ⊕ Nat) (k : Nat) (v : Option Value) : Prop := o = if k = 0 then .inl v else .inr k
def kOut : Option Value ⊕ Nat → Outcome → State → Prop
  | .inl v, oc, _ => oc = .returned v
  | .inr k, oc, t => ∃ (q : Nat) (ce : Cell), oc = .threw q ∧ t.heap[q]? = some ce ∧ ce.vm = .none ∧ t.vm.findClass (exN k) = some ce.cls
def kPreX (D : va_G) (cB cI cJ : ClassId) (av : List Value) (wc : va_W) (sz : Nat) : Array Value → State → Prop := va_Pc av (fun U => U.heap.size = sz ∧ va_P D classes wc U.heap ∧ va_K D classes (tys3 cB cI cJ) U ∧ kNw U ∧ va_D (fun _ => True) wc ∧ kTh U)
theorem kPreX.blind {D : va_G} {cB cI cJ : ClassId} {av : List Value} {wc : va_W} {sz : Nat} : FrameBlind (kPreX D cB cI cJ av wc sz) := by
  intro a U g mk q
  obtain ⟨q0, q1, qP, qK, qN, qD, qT⟩ := q
  exact ⟨q0, q1, qP, va_K.moved (u := U) (U := U.calling g mk a) (Vm.Alike.refl U.vm) qK, qN.same (u := U) (U := U.calling g mk a) rfl, qD, qT.same (u := U) (U := U.calling g mk a) rfl rfl⟩
def kQX (D : va_G) (post : Option Value ⊕ Nat → va_W → Prop) (A : Nat → Prop) : Array Value → State → Outcome → State → Prop := fun _ st oc t => (∃ (o : Option Value ⊕ Nat) (w1 : va_W), kOut o oc t ∧ post o w1 ∧ va_P D classes w1 t.heap ∧ va_D A w1) ∧ va_F A st t
def kEnd (st t : State) (L : List Loc) (mc ms : Nat) : Prop := st.WarmedH t.vm ∧ st.sameButNew ({ t with vm := st.vm } : State) L mc ms
def MetX (l : Launch) (y : MethodName) (ws : List Cond) (rm : Room) (Pc : Array Value → State → Prop) (Qc : Array Value → State → Outcome → State → Prop) (mc ms : Nat) (free : Addr → Prop) : Prop :=
  MetFree l y (headSpec ws rm) Pc (fun _ _ _ _ _ => True) (fun a st o t => Qc a st o t ∧ ∃ L, kEnd st t L mc ms ∧ ∀ q ∈ L, free q.base)
def MQX (below : List Frame) (Qc : Array Value → State → Outcome → State → Prop) (a : Array Value) (s : State) (mc ms : Nat) (free : Addr → Prop) : State → Prop := fun t =>
  ∃ o, t.status = .running ∧ Ended t below o ∧ Qc a s o t ∧ ∃ L, kEnd s t L mc ms ∧ ∀ q ∈ L, free q.base
theorem MQ.toX {below : List Frame} {Qc : Array Value → State → Outcome → State → Prop} {a : Array Value} {s : State} {mc ms : Nat} {free : Addr → Prop} {t : State} (h : MQ below Qc a s mc ms free t) : MQX below Qc a s mc ms free t := by
  obtain ⟨o, h1, h2, h3, L, h4, h5⟩ := h
  exact ⟨o, h1, h2, h3, L, h4.2, h5⟩
abbrev CtX (l : Launch) (D : va_G) (cB cI cJ : ClassId) (y : MethodName) (b : ByteArray) (n : Nat) (ret : Option FieldType) (fr lo mc ms : Nat) (av : List Value) (wc : va_W) (post : Option Value ⊕ Nat → va_W → Prop) (sz : Nat) : Prop :=
  MetX l y (Cond.code y b n ret :: ALL) { frames := fr, cells := mc, slots := ms, locals := lo } (kPreX D cB cI cJ av wc sz) (kQX D post (va_A wc sz)) mc ms (va_A wc sz)
theorem stat_not {D : va_G} {wc : va_W} {H : Heap} (hP : va_P D classes wc H) {q : Nat} {cell : Cell} (h : H[q]? = some cell) (hs : cell.vm.isStatics = true) : ¬ va_A wc H.size q := by
  intro hq
  rcases hq with ⟨k, e, hk⟩ | hq
  · obtain ⟨c2, h2, h3⟩ := va_at_cell (hP k (q, e) hk)
    rw [h2] at h
    cases h
    rw [h3] at hs
    cases hs
  · have := (Array.getElem?_eq_some_iff.mp h).1
    exact absurd hq (by omega)
theorem CtX.of {l : Launch} {D : va_G} {cB cI cJ : ClassId} {y : MethodName} {b : ByteArray} {n : Nat} {ret : Option FieldType} {fr lo mc ms : Nat} {av : List Value} {wc : va_W} {post : Option Value ⊕ Nat → va_W → Prop} {sz : Nat}
    (hy : plainName y.cls = true) (hn : (lg_sl av).length ≤ n)
    (body : ∀ (p : Program) (e : Env) (R : Room) (s : State) (m : MethodId) (args : Array Value) (below : List Frame) (meth : Method) (c : Code) (A : Nat → Prop) (ls : Array Slot) (Q : State → Prop), p.tables.exec = Jvm.exec → c.code = b → meth.sig.returnType = ret → meth.locks = false → c.maxLocals = n → (∀ w ∈ ALL, w.before args s = true) → s.vm.findClass y.cls = some m.cls → meth.name = y.name → va_K D classes (tys3 cB cI cJ) s → kNw s → (∀ q, s.heap.size ≤ q → A q) → R.frames = fr → R.locals = lo → R.cells = mc → R.slots = ms → va_P D classes wc s.heap → va_D A wc → va_S A s.heap s.heap [] → lv_has ls n (lv_args 0 av) → Q = MQX below (kQX D post A) args s mc ms A → kTh s → (∀ (q : Nat) (cell : Cell), s.heap[q]? = some cell → cell.vm.isStatics = true → ¬ A q) → c.exceptionTable.isEmpty = true → W p l e R s m args below meth c s.heap [] 0 0 Q (F0 m 0 ls [])) :
    CtX l D cB cI cJ y b n ret fr lo mc ms av wc post sz := by
  refine MetFree.of_bodyS (code := b) (maxLocals := n) (ret := ret) hy ?_ ?_
  · intro args s m h hn
    obtain ⟨meth, c, h1, h2, h3, h4, h5, h6, -, -⟩ := Cond.code_spec hn (atoms_spec (ws := Cond.code y b n ret :: ALL) h _ List.mem_cons_self)
    exact ⟨meth, c, h1, h2, h3, h4, h5, h6⟩
  · intro p e s m args below meth c s₁ B hml hv _
    have hh0 : s₁.heap = s.heap := by rw [B.state]; rfl
    obtain ⟨rfl, hsz, hP, hK, hN, hD0, hTh⟩ := hv
    subst hsz
    have hts := atoms_spec (ws := Cond.code y b n ret :: ALL) B.pre
    have hl := lv_entry av (n := n) hn
    have hX := body p e { frames := fr, cells := mc, slots := ms, locals := lo } s m _ below meth c (va_A wc s.heap.size) _ _ B.exec B.bytes B.returns B.notSynchronized hml (fun w hw => hts w (List.mem_cons_of_mem _ hw)) (findClass_of_methodNamed B.named) (name_of_methodNamed B.named B.method).1 hK hN (fun q h => Or.inr h) rfl rfl rfl rfl hP hD0.self va_S.rf hl rfl hTh (fun q cell h1 h2 => stat_not hP h1 h2) (B.noHandlers (hts _ List.mem_cons_self))
    rw [← lg_entry_eq] at hX
    obtain ⟨t, a1, o, b1, b2, b3⟩ := hX s₁ hh0 (Stand.of_body B)
    exact ⟨t, o, a1, b1, b2, ⟨b3.1, b3.2⟩⟩
def kL (l : Launch) : Prop := ∀ e : Env, l.admits e → e.platform.stackTraces = false
theorem thok.ok {args : Array Value} {s : State} (hta : ∀ w ∈ ALL, w.before args s = true) (hTh : kTh s) {w : Cond} (h : thok w) : w.before args s = true := by
  have hr : ∀ (q : Nat) (cell : Cell), s.heap[q]? = some cell → cell.vm.isStatics = true → s.heap[q]? = some cell := fun _ _ h _ => h
  rcases h with h | h | rfl | rfl
  · exact hta w h
  · exact th_word (thw_ok w h) (State.WarmedH.refl s) hr (hTh.1 w h)
  · exact th_ref (Vm.Alike.refl s.vm) hr (hTh.1 _ th_l1) hTh.2.1
  · exact th_ref (Vm.Alike.refl s.vm) hr (hTh.1 _ th_l2) hTh.2.2
section KT
variable {p : Program} {l : Launch} {e : Env} {R : Room} {s : State} {m : MethodId} {args : Array Value} {below : List Frame} {meth : Method} {c : Code} {H : Heap} {locs : List Loc} {cells slots : Nat} {Q : State → Prop}
variable {cc : ByteArray} {pc : Nat} {ls : Array Slot} {D : va_G} {A : Nat → Prop} {w1 : va_W} {post : Option Value ⊕ Nat → va_W → Prop} {mc ms n : Nat} {cB cI cJ : ClassId}
theorem kt_msg {own tx : String} {index : Nat} (X : ∃ T, Stand p l e R s m args below meth c T locs cells slots) (hown : s.vm.findClass own = some m.cls) (h : (Cond.stringRef own index tx).before args s = true) : ∃ q, vk_R own index tx q s := by
  obtain ⟨k, cf, i, a, hk, hcf, hcp, -, hr, hev⟩ := Cond.stringRef_spec hown h
  exact ⟨a, vk_R.of h hev⟩
theorem kt_ldcw (hexec : p.tables.exec = Jvm.exec) (hb : c.code = cc) {own tx : String} {index q : Nat} {rest : List Value} (hown : s.vm.findClass own = some m.cls) (hZ : vk_R own index tx q s) (hdg : decode cc pc = .ok (.ldc_w index, 3))
    (kk : W p l e R s m args below meth c H locs cells slots Q (F0 m (pc + 3) ls (.ref q :: rest))) : W p l e R s m args below meth c H locs cells slots Q (F0 m pc ls rest) := by
  intro T hT X
  obtain ⟨t, a1, b1⟩ := kk T hT X
  refine ⟨t, ?_, b1⟩
  obtain ⟨k, cf, i, a', hk, hcf, hcp, -, hr, hev'⟩ := Cond.stringRef_spec (args := #[]) hown hZ.1
  cases hZ.2.symm.trans hev'
  obtain ⟨k', hk', he⟩ := X.warmed.alike.2.2 _ _ hk
  have hr' : k'.resolved[index]? = some (some (.string q)) := by
    rcases X.warmed.entry hk hk' index with h | ⟨h, -⟩
    · rw [h]; exact hr
    · rw [hr] at h; cases h
  have hdg : decode c.code (F0 m pc ls rest).pc = .ok (.ldc_w index, 3) := by rw [hb]; exact hdg
  jvm_step X.here [hexec, hdg, ldc_w.wp_string (e := e) (s := T) (f := F0 m pc ls rest) X.here.top hk' (by rw [he]; exact hcf) hcp hr']
  exact a1
/-- from the constructor's call on -/
theorem kt_end {k ix ic : Nat} {bytes : ByteArray} {msg : Nat} {cX : ClassId} {kX : Class} (hf : Bundle.fit (exN k) = true)
    (d0 : decode bytes 0 = .ok (.aload_n 0, 1)) (d1 : decode bytes 1 = .ok (.aload_n 1, 1)) (d2 : decode bytes 2 = .ok (.invokespecial ix, 3)) (d5 : decode bytes 5 = .ok (.return_, 1))
    (w3 : ∀ w ∈ Bundle.passSAtoms (exN k) "java/lang/RuntimeException" ix bytes, thok w) (w5 : ∀ w ∈ kxW "FileBoxes" ic (exN k), thok w)
    (hLt : kL l) (hx : p.tables.exec = Jvm.exec) (hb : c.code = cc) (hlk : meth.locks = false) (hQ : Q = MQX below (kQX D post A) args s mc ms A) (hml : c.maxLocals = n) (hown : s.vm.findClass "FileBoxes" = some m.cls) (hta : ∀ w ∈ ALL, w.before args s = true) (hTh : kTh s) (hAs : ∀ (q : Nat) (cell : Cell), s.heap[q]? = some cell → cell.vm.isStatics = true → ¬ A q) (hnh : c.exceptionTable.isEmpty = true)
    (hP : va_P D classes w1 H) (hD : va_D A w1) (hS : va_S A s.heap H locs) (hA : ∀ q, s.heap.size ≤ q → A q) (hsz : ls.size = n) (hp : post (.inr k) w1)
    (hc1 : s.vm.findClass (exN k) = some cX) (hc2 : s.vm.classes[cX]? = some kX) (hord : kX.kind = .ordinary)
    (dI : decode cc pc = .ok (.invokespecial ic, 3)) (dT : decode cc (pc + 3) = .ok (.athrow, 1)) (h1 : cells ≤ mc) (h2 : slots ≤ ms) (hRf : 5 < R.frames) (hRl : 82 ≤ R.locals) :
    W p l e R s m args below meth c (H.push { cls := cX, slots := kX.instanceTypes.map defaultValue, vm := .none }) locs cells slots Q (F0 m pc ls [.ref msg, .ref H.size, .ref H.size]) := by
  subst hQ
  intro T hT X
  have ok : ∀ {w : Cond}, thok w → w.before args s = true := fun h => h.ok hta hTh
  have hlocs : ∀ x ∈ locs, ∀ cell, s.heap[x.base]? = some cell → cell.vm.isStatics = false := by
    intro x hx2 cell hc
    cases hv : cell.vm.isStatics with
    | false => rfl
    | true => exact absurd (hS.2.2 x hx2) (hAs _ cell hc hv)
  obtain ⟨U, g1, g2, g3, g4, ⟨L, g5, g6⟩, g7, g8, ce, g9, g10, g11⟩ := kx_go X hx (hLt e X.admits) hlk hown hf d0 d1 d2 d5 (fun a h => ok (xw1 a h)) (fun a h => ok (xw2 a h)) (fun a h => ok (w3 a h)) (fun a h => ok (xw4 a h)) (fun a h => ok (w5 a h)) hlocs (a := H.size) hc1 hc2 hord
    (by rw [hT]; simp [freshCell]) hS.1 (msg := .ref msg) rfl (g := F0 m pc ls [.ref msg, .ref H.size, .ref H.size]) rfl (hsz.trans hml.symm) rfl rfl (rest := []) rfl (by rw [hb]; exact dI) (by rw [hb]; exact dT)
    (by
      intro x hx2
      have h0 : c.exceptionTable = #[] := by simpa using hnh
      rw [h0] at hx2
      cases hx2)
    hRf (by simp only [List.map, List.sum_cons, List.sum_nil, Value.category]; omega)
  have hsz2 : U.heap.size = H.size + 1 := by rw [g8, hT]; simp
  have hold : ∀ q : Nat, q < H.size → U.heap[q]? = H[q]? := by
    intro q hq
    rw [g7 q (by omega), hT, Array.getElem?_push]
    simp [Nat.ne_of_lt hq]
  refine ⟨U, g1, .threw H.size, g2, g3, ⟨⟨.inr k, w1, ⟨H.size, ce, rfl, g9, g11, ?_⟩, hp, ?_, hD⟩, ?_, ?_⟩, L, ⟨g4, g5.mono h1 h2⟩, ?_⟩
  · rw [g10, g4.alike.findClass]; exact hc1
  · intro i q hq
    exact (hP i q hq).kept (hold _ (hP i q hq).lt)
  · rw [hsz2]; have := hS.1; omega
  · intro q hq hn
    rw [hold q (Nat.lt_of_lt_of_le hq hS.1)]
    exact hS.2.1 q hq hn
  · intro y hy
    rcases g6 y hy with h | h
    · exact hS.2.2 y h
    · rw [h]; exact hA _ hS.1
theorem kt_of {k ix ic nc ti : Nat} {bytes : ByteArray} {tx : String} (hf : Bundle.fit (exN k) = true)
    (d0 : decode bytes 0 = .ok (.aload_n 0, 1)) (d1 : decode bytes 1 = .ok (.aload_n 1, 1)) (d2 : decode bytes 2 = .ok (.invokespecial ix, 3)) (d5 : decode bytes 5 = .ok (.return_, 1))
    (w3 : ∀ w ∈ Bundle.passSAtoms (exN k) "java/lang/RuntimeException" ix bytes, thok w) (w5 : ∀ w ∈ kxW "FileBoxes" ic (exN k), thok w) (w6 : Cond.initialized (exN k) ∈ ALL) (w7 : Cond.instantiable (exN k) 6 ∈ ALL)
    (hLt : kL l) (hx : p.tables.exec = Jvm.exec) (hb : c.code = cc) (hlk : meth.locks = false) (hQ : Q = MQX below (kQX D post A) args s mc ms A) (hml : c.maxLocals = n) (hown : s.vm.findClass "FileBoxes" = some m.cls) (hta : ∀ w ∈ ALL, w.before args s = true) (hTh : kTh s) (hAs : ∀ (q : Nat) (cell : Cell), s.heap[q]? = some cell → cell.vm.isStatics = true → ¬ A q) (hnh : c.exceptionTable.isEmpty = true)
    (hP : va_P D classes w1 H) (hD : va_D A w1) (hS : va_S A s.heap H locs) (hA : ∀ q, s.heap.size ≤ q → A q) (hsz : ls.size = n) (hp : post (.inr k) w1)
    (hnc : (Cond.classLink "FileBoxes" nc (exN k)) ∈ ALL) (hstr : Cond.stringRef "FileBoxes" ti tx ∈ THW)
    (dN : decode cc pc = .ok (.new nc, 3)) (dD : decode cc (pc + 3) = .ok (.dup, 1)) (dL : decode cc (pc + 4) = .ok (.ldc ti, 2)) (dI : decode cc (pc + 6) = .ok (.invokespecial ic, 3)) (dT : decode cc (pc + 9) = .ok (.athrow, 1)) (hRc : R.cells = mc) (hRs : R.slots = ms) (h1 : cells + 1 ≤ mc) (h2 : slots + 6 ≤ ms) (hRf : 5 < R.frames) (hRl : 82 ≤ R.locals) :
    W p l e R s m args below meth c H locs cells slots Q (F0 m pc ls []) := by
  refine W.newc hx hb hown (hta _ hnc) (hta _ w7) (hta _ w6) rfl dN (by omega) (by omega) (fun cX kX hc1 hc2 hord hn6 => ?_)
  refine W.eq (g2 := F0 m (pc + 3) ls [.ref H.size]) rfl ?_
  refine lv_dup hx hb dD rfl ?_
  obtain ⟨k9, cf9, i9, q, hk9, hcf9, hcp9, -, hr9, hev⟩ := Cond.stringRef_spec hown (thok.ok hta hTh (Or.inr (Or.inl hstr)) : (Cond.stringRef "FileBoxes" ti tx).before args s = true)
  refine va_ldcS hx hb hown (vk_R.of (thok.ok hta hTh (Or.inr (Or.inl hstr))) hev) dL ?_
  exact kt_end hf d0 d1 d2 d5 w3 w5 hLt hx hb hlk hQ hml hown hta hTh hAs hnh hP hD hS hA hsz hp hc1 hc2 hord dI dT h1 h2 hRf hRl
theorem kt_ofW {k ix ic nc ti : Nat} {bytes : ByteArray} {tx : String} (hf : Bundle.fit (exN k) = true)
    (d0 : decode bytes 0 = .ok (.aload_n 0, 1)) (d1 : decode bytes 1 = .ok (.aload_n 1, 1)) (d2 : decode bytes 2 = .ok (.invokespecial ix, 3)) (d5 : decode bytes 5 = .ok (.return_, 1))
    (w3 : ∀ w ∈ Bundle.passSAtoms (exN k) "java/lang/RuntimeException" ix bytes, thok w) (w5 : ∀ w ∈ kxW "FileBoxes" ic (exN k), thok w) (w6 : Cond.initialized (exN k) ∈ ALL) (w7 : Cond.instantiable (exN k) 6 ∈ ALL)
    (hLt : kL l) (hx : p.tables.exec = Jvm.exec) (hb : c.code = cc) (hlk : meth.locks = false) (hQ : Q = MQX below (kQX D post A) args s mc ms A) (hml : c.maxLocals = n) (hown : s.vm.findClass "FileBoxes" = some m.cls) (hta : ∀ w ∈ ALL, w.before args s = true) (hTh : kTh s) (hAs : ∀ (q : Nat) (cell : Cell), s.heap[q]? = some cell → cell.vm.isStatics = true → ¬ A q) (hnh : c.exceptionTable.isEmpty = true)
    (hP : va_P D classes w1 H) (hD : va_D A w1) (hS : va_S A s.heap H locs) (hA : ∀ q, s.heap.size ≤ q → A q) (hsz : ls.size = n) (hp : post (.inr k) w1)
    (hnc : (Cond.classLink "FileBoxes" nc (exN k)) ∈ ALL) (hstr : Cond.stringRef "FileBoxes" ti tx ∈ THW)
    (dN : decode cc pc = .ok (.new nc, 3)) (dD : decode cc (pc + 3) = .ok (.dup, 1)) (dL : decode cc (pc + 4) = .ok (.ldc_w ti, 3)) (dI : decode cc (pc + 7) = .ok (.invokespecial ic, 3)) (dT : decode cc (pc + 10) = .ok (.athrow, 1)) (hRc : R.cells = mc) (hRs : R.slots = ms) (h1 : cells + 1 ≤ mc) (h2 : slots + 6 ≤ ms) (hRf : 5 < R.frames) (hRl : 82 ≤ R.locals) :
    W p l e R s m args below meth c H locs cells slots Q (F0 m pc ls []) := by
  refine W.newc hx hb hown (hta _ hnc) (hta _ w7) (hta _ w6) rfl dN (by omega) (by omega) (fun cX kX hc1 hc2 hord hn6 => ?_)
  refine W.eq (g2 := F0 m (pc + 3) ls [.ref H.size]) rfl ?_
  refine lv_dup hx hb dD rfl ?_
  obtain ⟨k9, cf9, i9, q, hk9, hcf9, hcp9, -, hr9, hev⟩ := Cond.stringRef_spec hown (thok.ok hta hTh (Or.inr (Or.inl hstr)) : (Cond.stringRef "FileBoxes" ti tx).before args s = true)
  refine kt_ldcw hx hb hown (vk_R.of (thok.ok hta hTh (Or.inr (Or.inl hstr))) hev) dL ?_
  exact kt_end hf d0 d1 d2 d5 w3 w5 hLt hx hb hlk hQ hml hown hta hTh hAs hnh hP hD hS hA hsz hp hc1 hc2 hord dI dT h1 h2 hRf hRl
theorem kr_iX {v : Int32} (hx : p.tables.exec = Jvm.exec) (hb : c.code = cc) (hr : meth.sig.returnType = some .int) (hlk : meth.locks = false) (hQ : Q = MQX below (kQX D post A) args s mc ms A) (hK : va_K D classes (tys3 cB cI cJ) s) (hP : va_P D classes w1 H) (hD : va_D A w1) (hS : va_S A s.heap H locs) (hp : post (.inl (some (.int v))) w1) (h1 : cells ≤ mc) (h2 : slots ≤ ms) (hdg : decode cc pc = .ok (.ireturn, 1)) :
    W p l e R s m args below meth c H locs cells slots Q (F0 m pc ls [.int v]) := by
  subst hQ
  intro T hT X
  obtain ⟨t, a, b⟩ := W.widen h1 h2 (W.iret hx hb hr (Qc := kQX D post A) (free := A) (fun t ht hW => ⟨⟨.inl _, w1, rfl, hp, by rw [ht]; exact hP, hD⟩, hS.F ht⟩) hS.2.2 hdg hlk) T hT X
  exact ⟨t, a, b.toX⟩
theorem kr_lX {v : Int64} (hx : p.tables.exec = Jvm.exec) (hb : c.code = cc) (hr : meth.sig.returnType = some .long) (hlk : meth.locks = false) (hQ : Q = MQX below (kQX D post A) args s mc ms A) (hK : va_K D classes (tys3 cB cI cJ) s) (hP : va_P D classes w1 H) (hD : va_D A w1) (hS : va_S A s.heap H locs) (hp : post (.inl (some (.long v))) w1) (h1 : cells ≤ mc) (h2 : slots ≤ ms) (hdg : decode cc pc = .ok (.lreturn, 1)) :
    W p l e R s m args below meth c H locs cells slots Q (F0 m pc ls [.long v]) := by
  subst hQ
  intro T hT X
  obtain ⟨t, a, b⟩ := W.widen h1 h2 (W.lret hx hb hr (Qc := kQX D post A) (free := A) (fun t ht hW => ⟨⟨.inl _, w1, rfl, hp, by rw [ht]; exact hP, hD⟩, hS.F ht⟩) hS.2.2 hdg hlk) T hT X
  exact ⟨t, a, b.toX⟩
theorem kr_vX (hx : p.tables.exec = Jvm.exec) (hb : c.code = cc) (hr : meth.sig.returnType = none) (hlk : meth.locks = false) (hQ : Q = MQX below (kQX D post A) args s mc ms A) (hK : va_K D classes (tys3 cB cI cJ) s) (hP : va_P D classes w1 H) (hD : va_D A w1) (hS : va_S A s.heap H locs) (hp : post (.inl none) w1) (h1 : cells ≤ mc) (h2 : slots ≤ ms) (hdg : decode cc pc = .ok (.return_, 1)) :
    W p l e R s m args below meth c H locs cells slots Q (F0 m pc ls []) := by
  subst hQ
  intro T hT X
  obtain ⟨t, a, b⟩ := W.widen h1 h2 (W.vret hx hb hr (Qc := kQX D post A) (free := A) (fun t ht hW => ⟨⟨.inl _, w1, rfl, hp, by rw [ht]; exact hP, hD⟩, hS.F ht⟩) hS.2.2 hdg hlk) T hT X
  exact ⟨t, a, b.toX⟩
end KT
section KY
variable {p : Program} {l : Launch} {e : Env} {R : Room} {s : State} {m : MethodId} {args : Array Value} {below : List Frame} {meth : Method} {c : Code} {H : Heap} {locs : List Loc} {cells slots : Nat} {Q : State → Prop}
variable {cc : ByteArray} {pc : Nat} {ls : Array Slot} {rest st0 : List Value} {D : va_G} {A : Nat → Prop} {H0 : Heap} {ws wc wr w1 : va_W} {post : Option Value ⊕ Nat → va_W → Prop} {mc ms fr lo : Nat} {cB cI cJ : ClassId} {nL : Nat} {own : String} {y : MethodName} {b : ByteArray} {n : Nat} {ret : Option FieldType} {index np : Nat} {As : List Value} {a kn q : Nat}
/-- an exception q on its way, over the frame g of the walked method -/
def WT (p : Program) (l : Launch) (e : Env) (R : Room) (s : State) (m : MethodId) (args : Array Value) (below : List Frame) (meth : Method) (c : Code) (H : Heap) (locs : List Loc) (cells slots : Nat) (Q : State → Prop) (g : JFrame) (q : Nat) : Prop :=
  ∀ T : State, T.heap = H → Stand p l e R s m args below meth c T locs cells slots → ∃ t, Steps p.tables e below ((T.setTop g).pushFrame (.throwing q)) t ∧ Q t
def kEx (s : State) (H : Heap) (kn q : Nat) : Prop := ∃ ce : Cell, H[q]? = some ce ∧ ce.vm = .none ∧ s.vm.findClass (exN kn) = some ce.cls
theorem MetX.met {ws2 : List Cond} {rm : Room} {Pc : Array Value → State → Prop} {free : Addr → Prop} (hM : MetX l y ws2 rm Pc (kQX D post A) mc ms free) (hk : ∀ o w1, post o w1 → ∃ v, o = .inl v) : Met l y ws2 rm Pc (kQX D post A) mc ms free := by
  intro p e h1 h2 h3 s m args below h4 h5 h6 h7
  obtain ⟨n, o, g1, g2, g3, g4, L, g5, g6⟩ := hM p e h1 h2 h3 s m args below h4 h5 h6 h7
  refine ⟨n, o, g1, g2, g3, g4, L, ⟨?_, g5⟩, g6⟩
  obtain ⟨⟨o2, w1, k1, k2, -⟩, -⟩ := g4
  obtain ⟨v, rfl⟩ := hk o2 w1 k2
  exact ⟨v, k1⟩
theorem kc_preX (hK : va_K D classes (tys3 cB cI cJ) s) (hN : kNw s) (hTh : kTh s) (hAs : ∀ (q : Nat) (cell : Cell), s.heap[q]? = some cell → cell.vm.isStatics = true → ¬ A q) (hS : va_S A s.heap H locs) (hP : va_P D classes ws H) (hD : va_D A ws) {isC : List Nat} (hC : isC.map (fun i => ws[i]?) = wc.map some) (hnC : va_nd isC = true) {av : List Value} : PreS s H (kPreX D cB cI cJ av wc H.size) av :=
  ⟨kPreX.blind, fun U hU hW => ⟨rfl, by rw [hU], by rw [hU]; exact hP.pick hC, va_K.moved hW.alike hK, hN.warm hW, (hD.sub isC hnC hC).weaken (fun _ _ _ _ => trivial), hTh.move hW (fun q cell h1 h2 => by rw [hU, hS.2.1 q (Array.getElem?_eq_some_iff.mp h1).1 (hAs q cell h1 h2)]; exact h1)⟩⟩
theorem kc_VX (isC isR : List Nat) (S : CallFix p m c cc nL s args ALL own) (hK : va_K D classes (tys3 cB cI cJ) s) (hN : kNw s) (hTh : kTh s) (hAs : ∀ (q : Nat) (cell : Cell), s.heap[q]? = some cell → cell.vm.isStatics = true → ¬ A q) (hP : va_P D classes ws H) (hD : va_D A ws) (hS : va_S A s.heap H locs) (hA : ∀ q, s.heap.size ≤ q → A q)
    (hM : CtX l D cB cI cJ y b n ret fr lo mc ms (.ref a :: As) wc post H.size) (hl : (Cond.methodLink own index y).before args s = true) (hini : (Cond.initialized y.cls).before args s = true) (hcb : (Cond.code y b n ret).before args s = true) (hcode : Cond.code y b n ret ∈ ALL) (hinst : (Cond.instanceMethod y).before args s = true) (hsel : (Cond.selects y.cls y y).before args s = true)
    (hd : y.cls ≠ "java/lang/invoke/MethodHandle" ∧ y.cls ≠ "java/lang/invoke/VarHandle" ∧ (parseMethodDescriptor y.desc).map (fun d => d.parameters.length) = some np) (hnp : As.length = np) (hR : fr + 1 ≤ R.frames ∧ 8 + (n + 11) + lo ≤ R.locals)
    {ci : Nat} {T : u_T} {N : Nat} {fs : List Value} (q0 : Nat) (hc : classes[ci]? = some (y.cls, T, N)) (he : ws[q0]? = some (a, .inr (ci, fs)))
    (hC : isC.map (fun i => ws[i]?) = wc.map some) (hRr : isR.map (fun i => ws[i]?) = wr.map some) (hnC : va_nd isC = true) (hnR : va_nd isR = true) (hdis : ∀ i ∈ isR, i ∉ isC)
    (hst : st0 = As.reverse ++ .ref a :: rest) (hsize : ls.size = nL) (hW : 2 * (F0 m pc ls st0).monitorRoom + (rest.map fun v => v.category).sum ≤ 8) (hdg : decode cc pc = .ok (.invokevirtual index, 3)) (hf : cells + mc ≤ R.cells ∧ slots + ms ≤ R.slots)
    (kn : Nat) (hkn : ∀ o w1, post o w1 → ∃ v, kO o kn v)
    (kk : kn = 0 → ∀ (v : Option Value) (w1 : va_W) (H1 : Heap) (locs1 : List Loc), post (.inl v) w1 → va_P D classes (wr ++ w1) H1 → va_D A (wr ++ w1) → va_S A s.heap H1 locs1 → W p l e R s m args below meth c H1 locs1 (cells + mc) (slots + ms) Q (F0 m (pc + 3) ls (v.toList ++ rest)))
    (kt : kn ≠ 0 → ∀ (q : Nat) (w1 : va_W) (H1 : Heap) (locs1 : List Loc), post (.inr kn) w1 → va_P D classes (wr ++ w1) H1 → va_D A (wr ++ w1) → va_S A s.heap H1 locs1 → kEx s H1 kn q → WT p l e R s m args below meth c H1 locs1 (cells + mc) (slots + ms) Q (F0 m pc ls rest) q) :
    W p l e R s m args below meth c H locs cells slots Q (F0 m pc ls st0) := by
  have hpS := kc_preX (av := Value.ref a :: As) hK hN hTh hAs hS hP hD hC hnC
  have hFc := va_free (wc := wc) hD hS hA isC hC
  have cw : CallW R s args own y.cls index y b n ret (Cond.code y b n ret :: ALL) { frames := fr, cells := mc, slots := ms, locals := lo } mc ms np := ⟨callB_of np S.2.2.2.2 (good_all hcode) rfl rfl rfl hini hl hd hR, hinst, hsel⟩
  have hpV : PreV s H y.cls a (kPreX D cB cI cJ (Value.ref a :: As) wc H.size) As := ⟨hpS.1, va_recv hK hP hc he, hpS.2⟩
  by_cases h0 : kn = 0
  · subst h0
    have hM2 := MetX.met hM (fun o w1 h => by
      obtain ⟨v, hv⟩ := hkn o w1 h
      exact ⟨v, hv⟩)
    have hr := va_runV (As := As) (rest := rest) (g := F0 m pc ls st0) (locs := locs) (cells := cells) (slots := slots) (below := below) (meth := meth) (e := e) S hM2 cw hpV rfl hnp hsize hst hW hdg hf
    intro T hT X
    obtain ⟨v, st₀, t, T', L, g0, X', hL, e1, e2, ⟨⟨o2, w1, hv, hp, hPb, hDb⟩, hz, hk⟩, st⟩ := hr T hT X
    obtain ⟨v3, hv3⟩ := hkn o2 w1 hp
    have hv4 : o2 = .inl v3 := hv3
    subst hv4
    have hv5 : Outcome.returned v = .returned v3 := hv
    cases hv5
    rw [g0] at hz hk
    rw [← e1] at hPb
    obtain ⟨hP2, hD2⟩ := va_join (wr := wr) (w1 := w1) hP hD isC isR hC hRr hnR hdis (fun q h1 h2 => by rw [e1]; exact hk q h1 h2) hFc hPb hDb
    obtain ⟨t2, a1, b1⟩ := kk rfl v w1 T'.heap (locs ++ L) hp hP2 hD2
      ⟨Nat.le_trans hS.1 (by rw [e1]; exact hz), fun q h1 h2 => by rw [e1, hk q (Nat.lt_of_lt_of_le h1 hS.1) (fun z => h2 (hFc q z))]; exact hS.2.1 q h1 h2, fun q hq => by
        rcases List.mem_append.mp hq with h | h
        · exact hS.2.2 q h
        · exact hFc _ (hL q h)⟩ T' rfl X'
    exact ⟨t2, st t2 a1, b1⟩
  · intro T hT X
    obtain ⟨⟨hrc, hrs, hfr, hlo, hws, hcw, hcode2, hini2, hy, hlen, hl2⟩, hin, hse⟩ := cw
    obtain ⟨hx, hb, hml, ho, -⟩ := S
    obtain ⟨-, ⟨cellB, hcB, hoB, hclB⟩, hPc⟩ := hpV
    have hB : BackT l R p e below s args y 3 8 (PreOf R mc ms (kPreX D cB cI cJ (Value.ref a :: As) wc H.size))
        (fun A0 a0 x B => ∃ (g : JFrame) (mk : MethodId) (t : State) (L : List Loc), B.U.heap = t.heap ∧ B.U.vm = t.vm ∧ kQX D post (va_A wc H.size) a0 (A0.U.calling g mk a0) (.threw x) t ∧ B.locs = A0.locs ++ L ∧ (∀ q ∈ L, va_A wc H.size q.base) ∧ B.cells = A0.cells + mc ∧ B.slots = A0.slots + ms) := by
      refine BackT.of_free (S := headSpec (Cond.code y b n ret :: ALL) { frames := fr, cells := mc, slots := ms, locals := lo }) (P := kPreX D cB cI cJ (Value.ref a :: As) wc H.size) (K := fun _ _ _ _ _ => True) (bytes := b) (maxL := n) (ret := ret)
        (E := fun a st o t L k n => k = mc ∧ n = ms ∧ ∀ q ∈ L, va_A wc H.size q.base) hM hfr hlo ?_ ?_ (fun _ _ _ _ _ _ _ _ _ => trivial) ?_ ?_
      · intro m meth c A a X hp
        exact ⟨atoms_intro fun w hw => hws w hw _ _ X.warmed, hws _ hcw _ _ X.warmed, word_at X.warmed (Or.inl (by first | rfl | simp [Cond.onTables, Cond.keeps, Cond.steady])) hini2, hp.1, hp.2.1⟩
      · intro m meth c A a g mk X hp
        exact kPreX.blind _ _ _ _ hp.2.2
      · intro a st o t ⟨hq, L, hF, hL⟩
        refine ⟨L, mc, ms, ⟨?_, hF⟩, rfl, rfl, hL⟩
        obtain ⟨⟨o2, w1, k1, k2, -⟩, -⟩ := hq
        obtain ⟨v, hv⟩ := hkn o2 w1 k2
        have hv4 : o2 = .inr kn := by rw [hv, if_neg h0]
        subst hv4
        obtain ⟨q, ce, k3, -⟩ := k1
        exact ⟨q, k3⟩
      · intro m meth c A a g mk v t L k n X hp hq hF ⟨e1, e2, hL⟩
        subst e1; subst e2
        exact ⟨g, mk, t, L, rfl, rfl, hq.1, rfl, hL, rfl, rfl⟩
    obtain ⟨mk, methM, hnamed, hmethM, hstM, habM⟩ := Cond.instanceMethod_spec hin
    obtain ⟨methM', cM, hmethM', -, -, -, -, -, -, hsigM⟩ := Cond.code_spec hnamed hcode2
    cases hmethM.symm.trans hmethM'
    obtain ⟨c2, r2, m2, q1, q2, q3, q4, kP, hkP, hkPi⟩ := Cond.selects_spec hse
    cases hclB.symm.trans q1
    cases (State.methodFound?_of_named hnamed hy).symm.trans q2
    cases hnamed.symm.trans q3
    have hselP : selectMethod e.platform s.vm cellB.cls mk = .method mk := by rw [Launch.admits_selectMethod X.admits]; exact q4
    obtain ⟨vm₁, X₁, hstep₁⟩ := X.invokevirtual hx ho hl2 hnamed hmethM hstM hkP hkPi hy (a := a) (cell := cellB) (by rw [hT]; exact hcB)
      (fun z h => by rw [h] at hoB; cases hoB) hselP hmethM habM hkP hkPi (g := F0 m pc ls st0) rfl (argsL := As) (rest := rest) (hnp.trans (hlen _ hsigM)) hst (by rw [hb]; exact hdg)
    obtain ⟨x, ⟨U', l2, c2, s2⟩, X', ⟨g', mk', t, L, e1, e2, ⟨⟨o2, w1, hv, hp, hPb, hDb⟩, hz, hk⟩, h1, hL, h2, h3⟩, hsteps⟩ := hB m meth c ⟨T.setVm vm₁, locs, cells, slots⟩ (F0 m pc ls rest) (.invokevirtual index) mk (Value.ref a :: As).toArray X₁ rfl (hsize.trans hml.symm) (by rw [hb]; exact hdg) hW (X₁.named hnamed) ⟨hf.1, hf.2, hPc (T.setVm vm₁) hT X₁.warmed⟩
    dsimp only [Pt.U, Pt.locs, Pt.cells, Pt.slots] at X' e1 e2 h1 h2 h3 hsteps
    subst h1; subst h2; subst h3
    obtain ⟨v3, hv3⟩ := hkn o2 w1 hp
    have hv4 : o2 = .inr kn := by rw [hv3, if_neg h0]
    subst hv4
    obtain ⟨q, ce, k1, k2, k3, k4⟩ := hv
    cases k1
    have g0 : ((T.setVm vm₁).calling g' mk' (Value.ref a :: As).toArray).heap = H := hT
    rw [g0] at hz hk
    rw [← e1] at hPb
    obtain ⟨hP2, hD2⟩ := va_join (wr := wr) (w1 := w1) hP hD isC isR hC hRr hnR hdis (fun q h1 h2 => by rw [e1]; exact hk q h1 h2) hFc hPb hDb
    obtain ⟨t2, a1, b1⟩ := kt h0 x w1 U'.heap (locs ++ L) hp hP2 hD2
      ⟨Nat.le_trans hS.1 (by rw [e1]; exact hz), fun q h1 h2 => by rw [e1, hk q (Nat.lt_of_lt_of_le h1 hS.1) (fun z => h2 (hFc q z))]; exact hS.2.1 q h1 h2, fun q hq => by
        rcases List.mem_append.mp hq with h | h
        · exact hS.2.2 q h
        · exact hFc _ (hL q h)⟩ ⟨ce, by rw [e1]; exact k2, k3, by rw [← X'.warmed.alike.findClass, e2]; exact k4⟩ U' rfl X'
    exact ⟨t2, hstep₁ _ (fun acts => by rw [doInvoke_state]; exact hsteps.trans a1), b1⟩
/-- it leaves the method -/
theorem kq_out (hlk : meth.locks = false) (hQ : Q = MQX below (kQX D post A) args s mc ms A) (hnh : c.exceptionTable.isEmpty = true) (hP : va_P D classes w1 H) (hD : va_D A w1) (hS : va_S A s.heap H locs) (hp : post (.inr kn) w1) (hex : kEx s H kn q) (h1 : cells ≤ mc) (h2 : slots ≤ ms) :
    WT p l e R s m args below meth c H locs cells slots Q (F0 m pc ls rest) q := by
  subst hQ
  intro T hT X
  obtain ⟨g1, g2, g3, g4, g5⟩ := X.leaveThrown q (g := F0 m pc ls rest) rfl rfl rfl (by
      intro x hx2
      have h0 : c.exceptionTable = #[] := by simpa using hnh
      rw [h0] at hx2
      cases hx2) hlk
  obtain ⟨ce, k1, k2, k3⟩ := hex
  have hh : (T.setFrames (.throwing q :: below)).heap = H := hT
  exact ⟨_, g1, .threw q, g2, g3, ⟨⟨.inr kn, w1, ⟨q, ce, rfl, by rw [hh]; exact k1, k2, by rw [g4.alike.findClass]; exact k3⟩, hp, by rw [hh]; exact hP, hD⟩, hS.F hh⟩, locs, ⟨g4, g5.mono h1 h2⟩, hS.2.2⟩
/-- it is caught -/
theorem kq_catch {pre rs : List ExceptionTableEntry} {x : ExceptionTableEntry} (hown : s.vm.findClass "FileBoxesLaw" = some m.cls) (hta : ∀ w ∈ ALL, w.before args s = true) (hTh : kTh s) (hex : kEx s H kn q) (htab : c.exceptionTable.toList = pre ++ x :: rs)
    (hpre : ∀ y ∈ pre, y.catchType ≠ 0 ∧ ∃ k2, Cond.classLink "FileBoxesLaw" y.catchType (exN k2) ∈ ALL ∧ Cond.not (.castable (exN kn) (exN k2)) ∈ THW)
    (hx0 : x.catchType ≠ 0) (hcov : covers x pc = true) (hlink : Cond.classLink "FileBoxesLaw" x.catchType (exN kn) ∈ ALL) (hcast : Cond.castable (exN kn) (exN kn) ∈ THW)
    (kk : W p l e R s m args below meth c H locs cells slots Q (F0 m x.handlerPc ls [.ref q])) : WT p l e R s m args below meth c H locs cells slots Q (F0 m pc ls rest) q := by
  intro T hT X
  obtain ⟨ce, k1, k2, k3⟩ := hex
  have hpl : e.platform.magicAccessors = ({} : Platform).magicAccessors := by rw [X.admits.platform]
  obtain ⟨c3, cT, hc3, hcT, hasg⟩ := Cond.castable_spec (thok.ok hta hTh (Or.inr (Or.inl hcast)) : (Cond.castable (exN kn) (exN kn)).before args s = true)
  cases k3.symm.trans hc3
  obtain ⟨hend, hk0⟩ := X.catches_of_link hown hx0 (hta _ hlink) hcT hasg
  obtain ⟨vm', XV, st⟩ := X.caughtThrough q (g := F0 m pc ls rest) rfl (by rw [hT]; exact k1) (by rw [k2]; rfl) hk0 pre x rs htab (fun y hy => by
      obtain ⟨h0, kn2, h1, h2⟩ := hpre y hy
      exact RowPassed.of_words hpl hown h0 (hta _ h1) k3 (thok.ok hta hTh (Or.inr (Or.inl h2)))) hcov hend
  obtain ⟨t, a1, b1⟩ := kk (T.setVm vm') hT XV
  refine ⟨t, ?_, b1⟩
  rw [X.pushThrowing_eq]
  exact st t a1
end KY
theorem exF_1 : Bundle.fit (exN 1) = true := by decide +kernel
theorem exD0_1 : decode exB1 0 = .ok (.aload_n 0, 1) := by decide +kernel
theorem exD1_1 : decode exB1 1 = .ok (.aload_n 1, 1) := by decide +kernel
theorem exD2_1 : decode exB1 2 = .ok (.invokespecial 7, 3) := by decide +kernel
theorem exD5_1 : decode exB1 5 = .ok (.return_, 1) := by decide +kernel
theorem exF_2 : Bundle.fit (exN 2) = true := by decide +kernel
theorem exD0_2 : decode exB2 0 = .ok (.aload_n 0, 1) := by decide +kernel
theorem exD1_2 : decode exB2 1 = .ok (.aload_n 1, 1) := by decide +kernel
theorem exD2_2 : decode exB2 2 = .ok (.invokespecial 13, 3) := by decide +kernel
theorem exD5_2 : decode exB2 5 = .ok (.return_, 1) := by decide +kernel
theorem exF_3 : Bundle.fit (exN 3) = true := by decide +kernel
theorem exD0_3 : decode exB3 0 = .ok (.aload_n 0, 1) := by decide +kernel
theorem exD1_3 : decode exB3 1 = .ok (.aload_n 1, 1) := by decide +kernel
theorem exD2_3 : decode exB3 2 = .ok (.invokespecial 7, 3) := by decide +kernel
theorem exD5_3 : decode exB3 5 = .ok (.return_, 1) := by decide +kernel
theorem exF_4 : Bundle.fit (exN 4) = true := by decide +kernel
theorem exD0_4 : decode exB4 0 = .ok (.aload_n 0, 1) := by decide +kernel
theorem exD1_4 : decode exB4 1 = .ok (.aload_n 1, 1) := by decide +kernel
theorem exD2_4 : decode exB4 2 = .ok (.invokespecial 7, 3) := by decide +kernel
theorem exD5_4 : decode exB4 5 = .ok (.return_, 1) := by decide +kernel
/-! the law's own methods with an exception table -/
abbrev CtW (l : Launch) (D : va_G) (cB cI cJ : ClassId) (y : MethodName) (b : ByteArray) (n : Nat) (ret : Option FieldType) (hh : List (Nat × Nat × Nat × Nat)) (fr lo mc ms : Nat) (av : List Value) (wc : va_W) (post : Option Value → va_W → Prop) (sz : Nat) : Prop :=
  Met l y (Cond.codeWith y b n ret hh :: ALL) { frames := fr, cells := mc, slots := ms, locals := lo } (kPreX D cB cI cJ av wc sz) (kQ D post (va_A wc sz)) mc ms (va_A wc sz)
theorem CtW.of {l : Launch} {D : va_G} {cB cI cJ : ClassId} {y : MethodName} {b : ByteArray} {n : Nat} {ret : Option FieldType} {hh : List (Nat × Nat × Nat × Nat)} {fr lo mc ms : Nat} {av : List Value} {wc : va_W} {post : Option Value → va_W → Prop} {sz : Nat}
    (hy : plainName y.cls = true) (hn : (lg_sl av).length ≤ n)
    (body : ∀ (p : Program) (e : Env) (R : Room) (s : State) (m : MethodId) (args : Array Value) (below : List Frame) (meth : Method) (c : Code) (A : Nat → Prop) (ls : Array Slot) (Q : State → Prop), p.tables.exec = Jvm.exec → c.code = b → meth.sig.returnType = ret → meth.locks = false → c.maxLocals = n → (∀ w ∈ ALL, w.before args s = true) → s.vm.findClass y.cls = some m.cls → meth.name = y.name → va_K D classes (tys3 cB cI cJ) s → kNw s → (∀ q, s.heap.size ≤ q → A q) → R.frames = fr → R.locals = lo → R.cells = mc → R.slots = ms → va_P D classes wc s.heap → va_D A wc → va_S A s.heap s.heap [] → lv_has ls n (lv_args 0 av) → Q = MQ below (kQ D post A) args s mc ms A → kTh s → (∀ (q : Nat) (cell : Cell), s.heap[q]? = some cell → cell.vm.isStatics = true → ¬ A q) → c.exceptionTable.toList = tableOf hh → W p l e R s m args below meth c s.heap [] 0 0 Q (F0 m 0 ls [])) :
    CtW l D cB cI cJ y b n ret hh fr lo mc ms av wc post sz := by
  refine va_MetW (cc := b) (maxL := n) (ret := ret) (hh := hh) hy rfl ?_
  intro p e s m args below meth c s₁ B hml hv
  obtain ⟨rfl, hsz, hP, hK, hN, hD0, hTh⟩ := hv
  subst hsz
  have hts := atoms_spec (ws := Cond.codeWith y b n ret hh :: ALL) B.pre
  have hl := lv_entry av (n := n) hn
  rw [lg_entry_eq]
  have htab : c.exceptionTable.toList = tableOf hh := by
    obtain ⟨m9, meth9, c9, hn9, h1, h2, h3, h4, h5, -⟩ := Cond.codeWith_spec (hts _ List.mem_cons_self)
    cases B.named.symm.trans hn9
    cases B.method.symm.trans h1
    cases (Stand.of_body B).code.symm.trans h2
    rw [← h5, table_eq]
  exact body p e _ s m _ below meth c (va_A wc s.heap.size) _ _ B.exec B.bytes B.returns B.notSynchronized hml (fun w hw => hts w (List.mem_cons_of_mem _ hw)) (findClass_of_methodNamed B.named) (name_of_methodNamed B.named B.method).1 hK hN (fun q h => Or.inr h) rfl rfl rfl rfl hP hD0.self va_S.rf hl rfl hTh (fun q cell h1 h2 => stat_not hP h1 h2) htab
section KZ
variable {p : Program} {l : Launch} {e : Env} {R : Room} {s : State} {m : MethodId} {args : Array Value} {below : List Frame} {meth : Method} {c : Code} {H : Heap} {locs : List Loc} {cells slots : Nat} {Q : State → Prop}
variable {cc : ByteArray} {pc : Nat} {ls : Array Slot} {rest st0 : List Value} {D : va_G} {A : Nat → Prop} {ws wc wr : va_W} {post : Option Value → va_W → Prop} {mc ms fr lo : Nat} {cB cI cJ : ClassId} {nL : Nat} {own : String} {y : MethodName} {b : ByteArray} {n : Nat} {ret : Option FieldType} {hh : List (Nat × Nat × Nat × Nat)} {index np : Nat} {As : List Value}
theorem kc_SW (isC isR : List Nat) (S : CallFix p m c cc nL s args ALL own) (hK : va_K D classes (tys3 cB cI cJ) s) (hN : kNw s) (hTh : kTh s) (hAs : ∀ (q : Nat) (cell : Cell), s.heap[q]? = some cell → cell.vm.isStatics = true → ¬ A q) (hP : va_P D classes ws H) (hD : va_D A ws) (hS : va_S A s.heap H locs) (hA : ∀ q, s.heap.size ≤ q → A q)
    (hM : CtW l D cB cI cJ y b n ret hh fr lo mc ms As wc post H.size) (hl : (Cond.methodLink own index y).before args s = true) (hini : (Cond.initialized y.cls).before args s = true) (hcode : Cond.codeWith y b n ret hh ∈ ALL) (hstat : (Cond.static y).before args s = true)
    (hd : y.cls ≠ "java/lang/invoke/MethodHandle" ∧ y.cls ≠ "java/lang/invoke/VarHandle" ∧ (parseMethodDescriptor y.desc).map (fun d => d.parameters.length) = some np) (hnp : As.length = np) (hR : fr + 1 ≤ R.frames ∧ 8 + (n + 11) + lo ≤ R.locals)
    (hC : isC.map (fun i => ws[i]?) = wc.map some) (hRr : isR.map (fun i => ws[i]?) = wr.map some) (hnC : va_nd isC = true) (hnR : va_nd isR = true) (hdis : ∀ i ∈ isR, i ∉ isC)
    (hst : st0 = As.reverse ++ rest) (hsize : ls.size = nL) (hW : 2 * (F0 m pc ls st0).monitorRoom + (rest.map fun v => v.category).sum ≤ 8) (hdg : decode cc pc = .ok (.invokestatic index, 3)) (hf : cells + mc ≤ R.cells ∧ slots + ms ≤ R.slots)
    (kk : ∀ (v : Option Value) (w1 : va_W) (H1 : Heap) (locs1 : List Loc), post v w1 → va_P D classes (wr ++ w1) H1 → va_D A (wr ++ w1) → va_S A s.heap H1 locs1 → W p l e R s m args below meth c H1 locs1 (cells + mc) (slots + ms) Q (F0 m (pc + 3) ls (v.toList ++ rest))) :
    W p l e R s m args below meth c H locs cells slots Q (F0 m pc ls st0) := by
  have hpS := kc_preX (av := As) hK hN hTh hAs hS hP hD hC hnC
  have hG : GoodIn ALL (Cond.codeWith y b n ret hh :: ALL) := by
    intro w hw
    have h1 : w ∈ ALL := by
      rcases List.mem_cons.mp hw with rfl | h2
      · exact hcode
      · exact h2
    exact ⟨h1, good_of_word (List.mem_filter.mp h1).2⟩
  have hws := pay_in S.2.2.2.2 hG
  have hB : Back l R p e below s args y 3 8 (PreOf R mc ms (kPreX D cB cI cJ As wc H.size)) (PostOf (kQ D post (va_A wc H.size)) mc ms (va_A wc H.size)) := va_backW (hh := hh) (bytes := b) (maxL := n) (ret := ret) hM hpS.1 rfl rfl hR.1 hR.2 hws List.mem_cons_self (fun a' U hW => word_at hW (Or.inl (by first | rfl | simp [Cond.onTables, Cond.keeps, Cond.steady])) hini)
  obtain ⟨hx, hb, hml, ho, hta⟩ := S
  refine kc_go (av := As.toArray) isC isR hP hD hS hA ?_ hC hRr hnR hdis kk
  intro T hT X
  obtain ⟨mk, methM, cM, hnamed, hmethM, -, -, -, -, -, -, hsigM⟩ := Cond.codeWith_spec (hta _ hcode : (Cond.codeWith y b n ret hh).before args s = true)
  have hstatic : methM.isStatic = true := Cond.static_spec hnamed hmethM hstat
  obtain ⟨kP, hkP, -⟩ := className_of_methodNamed hnamed
  have hinitP : kP.init = .initialized := Cond.initialized_spec (findClass_of_methodNamed hnamed) hkP hini
  have hlen : As.length = methM.sig.parameters.length := by
    have h2 := hd.2.2
    rw [hsigM] at h2
    exact hnp.trans (Option.some.inj h2).symm
  obtain ⟨vm₁, X₁, hstep₁⟩ := X.invokestatic hx ho hl hnamed hmethM hstatic hkP hinitP ⟨hd.1, hd.2.1⟩ (g := F0 m pc ls st0) rfl (argsL := As) (rest := rest) hlen hst (by rw [hb]; exact hdg)
  obtain ⟨v, ⟨U', l2, c2, s2⟩, X', ⟨g', mk', t, L, e1, e2, hq, h1, hL, h2, h3⟩, hsteps⟩ := hB m meth c ⟨T.setVm vm₁, locs, cells, slots⟩ (F0 m pc ls rest) (.invokestatic index) mk As.toArray X₁ rfl (hsize.trans hml.symm) (by rw [hb]; exact hdg) hW (X₁.named hnamed) ⟨hf.1, hf.2, hpS.2 (T.setVm vm₁) hT X₁.warmed⟩
  dsimp only [Pt.U, Pt.locs, Pt.cells, Pt.slots] at X' e1 e2 h1 h2 h3 hsteps
  subst h1; subst h2; subst h3
  exact ⟨v, (T.setVm vm₁).calling g' mk' As.toArray, t, U', L, hT, X', hL, e1, e2, hq, fun target h => hstep₁ _ fun acts => by rw [doInvoke_state]; exact hsteps.trans h⟩
end KZ
