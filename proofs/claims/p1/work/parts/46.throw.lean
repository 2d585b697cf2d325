/-! Methods that throw; the call of one, caught; methods with a handler table. -/
def zXQ (below : List Frame) (Qx : Array Value → State → Addr → State → Prop) (a : Array Value) (s : State) (mc ms : Nat) (free : Addr → Prop) : State → Prop := fun t =>
  ∃ x, t.status = .running ∧ Ended t below (.threw x) ∧ Qx a s x t ∧ ∃ L, FrameEndT s (.threw x) t L mc ms ∧ ∀ q ∈ L, free q.base
def MetX (l : Launch) (y : MethodName) (ws : List Cond) (rm : Room) (Pc : Array Value → State → Prop) (Qx : Array Value → State → Addr → State → Prop) (mc ms : Nat) (free : Addr → Prop) : Prop :=
  MetFree l y (headSpec ws rm) Pc (fun _ _ _ _ _ => True) (fun a st o t => ∃ x, o = .threw x ∧ Qx a st x t ∧ ∃ L, FrameEndT st o t L mc ms ∧ ∀ q ∈ L, free q.base)
-- what a throw leaves: an object of the class at x, and post of the heap
def zX (cls : String) (post : Heap → Prop) (A : Nat → Prop) : Array Value → State → Addr → State → Prop := fun _ st x t => (∃ ce : Cell, t.heap[x]? = some ce ∧ st.vm.findClass cls = some ce.cls ∧ ce.vm = .none) ∧ post t.heap ∧ va_F A st t
theorem zMetX {l : Launch} {y : MethodName} {cc : ByteArray} {maxL : Nat} {ret : Option FieldType} {rm : Room} {E : zP} {av : List Value} {Pre : Heap → Prop} {Qx : Array Value → State → Addr → State → Prop} {mc ms : Nat} {free : Addr → Prop} (hy : plainName y.cls = true) (hn : (lg_sl av).length ≤ maxL)
    (body : ∀ (p : Program) (e : Env) (s : State) (m : MethodId) (below : List Frame) (meth : Method) (c : Code) (ls : Array Slot), CallFix p m c cc maxL s av.toArray zw y.cls → meth.sig.returnType = ret → meth.locks = false → meth.name = y.name → c.exceptionTable.isEmpty = true → l.admits e → zE E s s.heap → Pre s.heap → lv_has ls maxL (lv_args 0 av) →
      W p l e rm s m av.toArray below meth c s.heap [] 0 0 (zXQ below Qx av.toArray s mc ms free) (F0 m 0 ls [])) : MetX l y (.code y cc maxL ret :: zw) rm (zPc E av Pre) Qx mc ms free := by
  refine MetFree.of_bodyS (code := cc) (maxLocals := maxL) (ret := ret) hy ?_ ?_
  · intro args s m h hn
    obtain ⟨meth, c, h1, h2, h3, h4, h5, h6, -, -⟩ := Cond.code_spec hn (atoms_spec (ws := .code y cc maxL ret :: zw) h _ List.mem_cons_self)
    exact ⟨meth, c, h1, h2, h3, h4, h5, h6⟩
  · intro p e s m args below meth c s₁ B hml hv _
    obtain ⟨rfl, hE, hp⟩ := hv
    have hts := atoms_spec (ws := .code y cc maxL ret :: zw) B.pre
    have hh0 : s₁.heap = s.heap := by rw [B.state]; rfl
    have hb : W p l e rm s m av.toArray below meth c s.heap [] 0 0 (zXQ below Qx av.toArray s mc ms free) (entryFrame m av.toArray maxL) := by
      rw [lg_entry_eq]
      exact body p e s m below meth c _ ⟨B.exec, B.bytes, hml, findClass_of_methodNamed B.named, fun w h => hts w (List.mem_cons_of_mem _ h)⟩ B.returns B.notSynchronized (name_of_methodNamed B.named B.method).1 (B.noHandlers (hts _ List.mem_cons_self)) B.admits hE hp (lv_entry av hn)
    obtain ⟨t, a1, x, b1, b2, b3⟩ := hb s₁ hh0 (Stand.of_body B)
    exact ⟨t, .threw x, a1, b1, b2, ⟨x, rfl, b3⟩⟩
theorem zMetW {l : Launch} {y : MethodName} {cc : ByteArray} {maxL : Nat} {ret : Option FieldType} {hh : List (Nat × Nat × Nat × Nat)} {rm : Room} {E : zP} {av : List Value} {Pre : Heap → Prop} {Qc : Array Value → State → Outcome → State → Prop} {mc ms : Nat} {free : Addr → Prop} (hy : plainName y.cls = true) (hn : (lg_sl av).length ≤ maxL)
    (body : ∀ (p : Program) (e : Env) (s : State) (m : MethodId) (below : List Frame) (meth : Method) (c : Code) (ls : Array Slot), CallFix p m c cc maxL s av.toArray zw y.cls → meth.sig.returnType = ret → meth.locks = false → meth.name = y.name → c.exceptionTable.toList = tableOf hh → l.admits e → zE E s s.heap → Pre s.heap → lv_has ls maxL (lv_args 0 av) →
      W p l e rm s m av.toArray below meth c s.heap [] 0 0 (MQ below Qc av.toArray s mc ms free) (F0 m 0 ls [])) : Met l y (.codeWith y cc maxL ret hh :: zw) rm (zPc E av Pre) Qc mc ms free := by
  refine va_MetW (cc := cc) (maxL := maxL) (ret := ret) (hh := hh) hy rfl ?_
  intro p e s m args below meth c s₁ B hml hv
  obtain ⟨rfl, hE, hp⟩ := hv
  have hts := atoms_spec (ws := .codeWith y cc maxL ret hh :: zw) B.pre
  obtain ⟨m9, meth9, c9, hn9, h1, h2, -, -, htab, -⟩ := Cond.codeWith_spec (hts _ List.mem_cons_self)
  cases B.named.symm.trans hn9
  cases B.method.symm.trans h1
  cases (Stand.of_body B).code.symm.trans h2
  rw [lg_entry_eq]
  exact body p e s m below meth c _ ⟨B.exec, B.bytes, hml, findClass_of_methodNamed B.named, fun w h => hts w (List.mem_cons_of_mem _ h)⟩ B.returns B.notSynchronized (name_of_methodNamed B.named B.method).1 (by rw [← htab, table_eq]) B.admits hE hp (lv_entry av hn)
theorem zcellEq {c c' : Cell} (h1 : c' = { c with slots := c'.slots }) (h2 : c'.slots.size = c.slots.size) (h3 : ∀ i : Nat, c'.slots[i]? = c.slots[i]?) : c' = c := by
  have e : c'.slots = c.slots := Array.ext_getElem? h3
  rw [h1, e]
section ZX
variable {p : Program} {l : Launch} {e : Env} {R : Room} {s : State} {m : MethodId} {args : Array Value} {below : List Frame} {meth : Method} {c : Code} {H : Heap} {locs : List Loc} {cells slots : Nat} {Q : State → Prop} {cc : ByteArray} {pc nL : Nat} {ls : Array Slot} {rest st0 : List Value} {a : Array Value} {own : String} {Ts : List Cond} {A A0 A1 : Nat → Prop} {H0 : Heap} {mc ms : Nat} {free : Addr → Prop} {ws : va_W}
-- the walk seen from the heap where it stands
theorem zbase {T : State} (X : Stand p l e R s m args below meth c T locs cells slots) {R' : Room} (h1 : R'.frames = R.frames) (h2 : R'.locals = R.locals) (hc : cells + R'.cells ≤ R.cells) (hs : slots + R'.slots ≤ R.slots) :
    Stand p l e R' { s with heap := T.heap, slotsUsed := T.slotsUsed } m args below meth c T [] 0 0 := by
  refine ⟨X.admits, X.cas, X.clock, X.frames, ?_, X.hears, X.method, X.code, X.here, X.tail, X.warmed, X.limits, X.bytes, X.same.1, Nat.le_refl _, Nat.le_refl _, ?_, ?_, fun a c h => ⟨c, h, rfl, rfl, fun _ _ => rfl⟩⟩
  · have h := X.room
    simp only [State.hasRoom, Bool.and_eq_true, decide_eq_true_eq] at h ⊢
    obtain ⟨⟨⟨⟨g0, g1⟩, g2⟩, g3⟩, g4⟩ := h
    have k1 := X.heapSize
    have k2 := X.used
    rw [h1, h2]
    refine ⟨⟨⟨⟨g0, g1⟩, ?_⟩, ?_⟩, X.book⟩
    · show T.heap.size + R'.cells ≤ _
      omega
    · show T.slotsUsed + R'.slots ≤ _
      omega
  · show T.slotsUsed = T.slotsUsed + ((T.heap.toList.drop T.heap.size).map _).sum
    rw [List.drop_eq_nil_of_le (by simp)]
    rfl
  · show ((T.heap.toList.drop T.heap.size).map _).sum ≤ 0
    rw [List.drop_eq_nil_of_le (by simp)]
    exact Nat.le_refl _
theorem zbase_same {T U : State} (X : Stand p l e R s m args below meth c T locs cells slots) {L : List Loc} {k n : Nat} (h : ({ s with heap := T.heap, slotsUsed := T.slotsUsed } : State).sameButNew U L k n) : s.sameButNew U (locs ++ L) (cells + k) (slots + n) := by
  have h0 : s.sameButNew ({ s with heap := T.heap, slotsUsed := T.slotsUsed } : State) locs cells slots := by
    refine ⟨?_, X.same.2⟩
    obtain ⟨th, hth, -⟩ := State.frames_cons X.frames
    show ({ s with heap := T.heap, slotsUsed := T.slotsUsed } : State) = { s.setFrames s.frames with heap := T.heap, slotsUsed := T.slotsUsed }
    rw [State.setFrames_self hth]
  exact h0.trans h
theorem zdup {T : State} (X : Stand p l e R s m args below meth c T locs cells slots) (hexec : p.tables.exec = Jvm.exec) {g : JFrame} (hg : g.method = m) {v : Value} {rest : List Value} (hst : g.stack = v :: rest) (hv : v.category = 1) (hd : decode c.code g.pc = .ok (.dup, 1)) {tg : State}
    (k : Steps p.tables e below (T.setTop { g with pc := g.pc + 1, stack := v :: v :: rest }) tg) : Steps p.tables e below (T.setTop g) tg := by
  subst hg
  jvm_step X.here [X.here.top, hexec, hd, hst, hv]
  exact k
-- 'throw new cls()' at pc: new, dup, invokespecial, athrow
theorem zthrowAt {T : State} (X : Stand p l e R s m args below meth c T locs cells slots) (hexec : p.tables.exec = Jvm.exec) (htr : e.platform.stackTraces = false) {cls : String} {names : List String} {ic inew : Nat}
    (hown : s.vm.findClass own = some m.cls) (hcls : Bundle.fit cls = true) (hnames : ∀ n ∈ names, Bundle.fit n = true) (hat : ∀ s' : State, s'.vm = s.vm → s'.heap = T.heap → ∀ w ∈ Bundle.ownAtoms0 own ic cls names, w.before args s' = true)
    (hcl : ∀ s' : State, s'.vm = s.vm → s'.heap = T.heap → (Cond.classLink own inew cls).before args s' = true ∧ (Cond.instantiable cls 6).before args s' = true ∧ (Cond.initialized cls).before args s' = true)
    {g : JFrame} (hg : g.method = m) (hsize : g.locals.size = c.maxLocals) (hlocked : g.locked = none) (hentered : g.entered = []) (hmon : g.monitorRoom = 0) (hstack : g.stack = [])
    (hd0 : decode c.code g.pc = .ok (.new inew, 3)) (hd3 : decode c.code (g.pc + 3) = .ok (.dup, 1)) (hd4 : decode c.code (g.pc + 4) = .ok (.invokespecial ic, 3)) (hd7 : decode c.code (g.pc + 7) = .ok (.athrow, 1)) (hout : c.exceptionTable.isEmpty = true)
    (hf : names.length + 3 < R.frames) (hlo : 13 * (names.length + 1) + 42 ≤ R.locals) (hc : cells + 1 ≤ R.cells) (hs : slots + 6 ≤ R.slots) (hlocks : meth.locks = false) :
    ∃ U : State, Steps p.tables e below (T.setTop g) U ∧ U.status = .running ∧ Ended U below (.threw T.heap.size) ∧ s.WarmedH U.vm ∧ s.sameButNew ({ U with vm := s.vm } : State) locs (cells + 1) (slots + 6) ∧
      T.heap.size ≤ U.heap.size ∧ (∀ q : Nat, q < T.heap.size → U.heap[q]? = T.heap[q]?) ∧ ∃ ce : Cell, U.heap[T.heap.size]? = some ce ∧ s.vm.findClass cls = some ce.cls ∧ ce.vm = .none := by
  subst hg
  have X' := zbase (R' := { R with cells := 1, slots := 6 }) X rfl rfl hc hs
  obtain ⟨q1, q2, q3⟩ := hcl { s with heap := T.heap, slotsUsed := T.slotsUsed } rfl rfl
  obtain ⟨vm1, cC, kC, h1, h2, h3, h4, X1, st1⟩ := X'.newCold hexec hown q1 q2 q3 (g := g) rfl hd0 (Nat.le_refl _) (Nat.le_refl _)
  have hno : ∀ x ∈ c.exceptionTable.toList, covers x (g.pc + 4 + 3) = false := by
    have hz : c.exceptionTable.size = 0 := by simpa [Array.isEmpty] using hout
    have hz1 : c.exceptionTable.toList = [] := List.eq_nil_of_length_eq_zero (by simpa using hz)
    intro x hx
    rw [hz1] at hx
    cases hx
  obtain ⟨U, w1, w2, w3, w4, w5, ce, w6, w7⟩ := X1.ctorThrow0 hexec htr (own := own) (cls := cls) (names := names) (ic := ic) hown hcls hnames (hat _ rfl rfl) (fun x hx => nomatch hx) (a := T.heap.size) (cX := cC) (kX := kC) h1 h2 (by show (T.heap.push _)[T.heap.size]? = _; rw [Array.getElem?_push_size]) (Nat.le_refl _)
    (g := { g with pc := g.pc + 4, stack := [.ref T.heap.size, .ref T.heap.size] }) rfl hsize hlocked hentered (rest := []) rfl hd4 hd7 hno hf (by show 2 * g.monitorRoom + 1 + _ ≤ R.locals; rw [hmon]; omega) hlocks
  refine ⟨U, st1 _ ?_, w2, w3, w4, ?_, w5.2.1, fun q hq => ?_, ce, w6, w7.cls, w7.vm⟩
  · rw [hstack]
    exact zdup (g := { g with pc := g.pc + 3, stack := [.ref T.heap.size] }) (v := .ref T.heap.size) (rest := []) X1 hexec rfl rfl rfl hd3 w1
  · have := zbase_same X w5
    rw [List.append_nil] at this
    simpa using this
  · obtain ⟨c0, hc0⟩ : ∃ c0, T.heap[q]? = some c0 := ⟨_, Array.getElem?_eq_getElem hq⟩
    obtain ⟨c', e1, e2, e3, e4⟩ := w5.2.2.2.2.2 q c0 hc0
    rw [hc0]
    exact e1.trans (congrArg some (zcellEq e2 e3 (fun i => e4 i (fun z => nomatch z))))
-- WALK
theorem zthrow {cls : String} {names : List String} {ic inew : Nat} {post : Heap → Prop} (S : CallFix p m c cc nL s args zw own) (hlk : meth.locks = false) (hnh : c.exceptionTable.isEmpty = true) (htr : e.platform.stackTraces = false) (hcls : Bundle.fit cls = true) (hnames : ∀ n ∈ names, Bundle.fit n = true)
    (hat : ∀ s' : State, s'.vm = s.vm → s'.heap = H → ∀ w ∈ Bundle.ownAtoms0 own ic cls names, w.before args s' = true)
    (hcl : Cond.classLink own inew cls ∈ zw) (hin : Cond.instantiable cls 6 ∈ zw) (hini : Cond.initialized cls ∈ zw) (hls : ls.size = nL)
    (hd0 : decode cc pc = .ok (.new inew, 3)) (hd3 : decode cc (pc + 3) = .ok (.dup, 1)) (hd4 : decode cc (pc + 4) = .ok (.invokespecial ic, 3)) (hd7 : decode cc (pc + 7) = .ok (.athrow, 1))
    (hf : names.length + 3 < R.frames) (hlo : 13 * (names.length + 1) + 42 ≤ R.locals) (hc : cells + 1 ≤ R.cells) (hs : slots + 6 ≤ R.slots) (hc2 : cells + 1 ≤ mc) (hs2 : slots + 6 ≤ ms)
    (hS : va_S A s.heap H locs) (hp : ∀ H1 : Heap, H.size ≤ H1.size → (∀ q : Nat, q < H.size → H1[q]? = H[q]?) → post H1) :
    W p l e R s m args below meth c H locs cells slots (zXQ below (zX cls post A) args s mc ms A) (F0 m pc ls []) := by
  intro T hT X
  subst hT
  have hb := S.2.1
  have hw : ∀ s' : State, s'.vm = s.vm → ∀ w ∈ zw, w.before args s' = true := fun s' e w h => word_at (s := s) (U := s') (by rw [e]; exact State.WarmedH.refl s) (zw_good w h) (S.2.2.2.2 w h)
  obtain ⟨U, w1, w2, w3, w4, w5, w6, w7, ce, w8, w9, w10⟩ := zthrowAt X S.1 htr S.2.2.2.1 hcls hnames hat (fun s' e1 _ => ⟨hw s' e1 _ hcl, hw s' e1 _ hin, hw s' e1 _ hini⟩) (g := F0 m pc ls []) rfl (hls.trans S.2.2.1.symm) rfl rfl rfl rfl (by rw [hb]; exact hd0) (by rw [hb]; exact hd3) (by rw [hb]; exact hd4) (by rw [hb]; exact hd7) hnh hf hlo hc hs hlk
  exact ⟨U, w1, _, w2, w3, ⟨⟨ce, w8, w9, w10⟩, hp U.heap w6 w7, ⟨Nat.le_trans hS.1 w6, fun q h1 h2 => (w7 q (Nat.lt_of_lt_of_le h1 hS.1)).trans (hS.2.1 q h1 h2)⟩⟩, locs, ⟨⟨_, rfl⟩, w4, w5.mono hc2 hs2⟩, hS.2.2⟩
-- the call of a method that throws: a handler of the caller takes it
theorem zcX {y : MethodName} {bytes : ByteArray} {maxL n index : Nat} {ret : Option FieldType} {rm : Room} {Pc : Array Value → State → Prop} {C cls name : String} {b : Addr} {As : List Value} {post : Heap → Prop} {pre rst : List ExceptionTableEntry} {xe : ExceptionTableEntry} {xw : List Cond}
    (S : CallFix p m c cc nL s args zw own) (hM : MetX l y xw rm Pc (zX cls post A1) mc ms free) (cw : CallW R s args own C index y bytes maxL ret xw rm mc ms n) (hp : PreV s H C b Pc As)
    (hn : As.length = n) (hls : ls.size = nL) (hst : st0 = As.reverse ++ .ref b :: rest) (hW : 2 * (F0 m pc ls st0).monitorRoom + (rest.map fun v => v.category).sum ≤ 8) (hdg : decode cc pc = .ok (.invokevirtual index, 3)) (hf : cells + mc ≤ R.cells ∧ slots + ms ≤ R.slots)
    (hsplit : c.exceptionTable.toList = pre ++ xe :: rst) (hpass : ∀ cX, s.vm.findClass cls = some cX → ∀ z ∈ pre, RowPassed e.platform s m.cls pc cX z) (hx : covers xe pc = true) (h0 : xe.catchType ≠ 0) (hlink : (Cond.classLink own xe.catchType name).before args s = true) (hcast : (Cond.castable cls name).before args s = true)
    (hS : va_S A0 H0 H locs) (hA : ∀ q, q < H.size → A1 q → A0 q) (hfr : ∀ q, free q → A0 q)
    (kk : ∀ (x : Addr) (H1 : Heap) (locs1 : List Loc), post H1 → H.size ≤ H1.size → (∀ q : Nat, q < H.size → ¬ A1 q → H1[q]? = H[q]?) → va_S A0 H0 H1 locs1 → W p l e R s m args below meth c H1 locs1 (cells + mc) (slots + ms) Q (F0 m xe.handlerPc ls [.ref x])) :
    W p l e R s m args below meth c H locs cells slots Q (F0 m pc ls st0) := by
  obtain ⟨⟨hrc, hrs, hfm, hlo, hws, hcw, hcode, hini, hy, hlen, hl⟩, hin, hse⟩ := cw
  have hK : BackT l R p e below s args y 3 8 (PreOf R mc ms Pc) (fun A a x B => ∃ (g : JFrame) (mk : MethodId) (t : State) (L : List Loc), B.U.heap = t.heap ∧ B.U.vm = t.vm ∧ zX cls post A1 a (A.U.calling g mk a) x t ∧ B.locs = A.locs ++ L ∧ (∀ q ∈ L, free q.base) ∧ B.cells = A.cells + mc ∧ B.slots = A.slots + ms) := by
    refine BackT.of_free (S := headSpec xw rm) (P := Pc) (K := fun _ _ _ _ _ => True) (bytes := bytes) (maxL := maxL) (ret := ret) (E := fun a st o t L k n => (∃ x, o = .threw x ∧ zX cls post A1 a st x t) ∧ k = mc ∧ n = ms ∧ ∀ q ∈ L, free q.base) hM hfm hlo ?_ ?_ (fun _ _ _ _ _ _ _ _ _ => trivial) ?_ ?_
    · intro m meth c A a X hp
      exact ⟨atoms_intro fun w hw => hws w hw _ _ X.warmed, hws _ hcw _ _ X.warmed, word_at X.warmed (Or.inl (by first | rfl | simp [Cond.onTables, Cond.keeps, Cond.steady])) hini, by rw [show (headSpec xw rm).room.cells = mc from hrc]; exact hp.1, by rw [show (headSpec xw rm).room.slots = ms from hrs]; exact hp.2.1⟩
    · intro m meth c A a g mk X hp'
      exact hp.1 _ _ _ _ hp'.2.2
    · rintro a st o t ⟨x, rfl, hq, L, hF, hL⟩
      exact ⟨L, mc, ms, hF, ⟨x, rfl, hq⟩, rfl, rfl, hL⟩
    · rintro m meth c A a g mk v t L k n X hp' - hF ⟨⟨x, hx, hq⟩, rfl, rfl, hL⟩
      cases hx
      exact ⟨g, mk, t, L, rfl, rfl, hq, rfl, hL, rfl, rfl⟩
  obtain ⟨hex, hb, hml, ho, -⟩ := S
  obtain ⟨-, ⟨cellB, hcB, hoB, hclB⟩, hPc⟩ := hp
  intro T hT X
  obtain ⟨mk, methM, hnamed, hmethM, hstM, habM⟩ := Cond.instanceMethod_spec hin
  obtain ⟨methM', cM, hmethM', -, -, -, -, -, -, hsigM⟩ := Cond.code_spec hnamed hcode
  cases hmethM.symm.trans hmethM'
  obtain ⟨c2, r2, m2, q1, q2, q3, q4, kP, hkP, hkPi⟩ := Cond.selects_spec hse
  cases hclB.symm.trans q1
  cases (State.methodFound?_of_named hnamed hy).symm.trans q2
  cases hnamed.symm.trans q3
  have hselP : selectMethod e.platform s.vm cellB.cls mk = .method mk := by rw [Launch.admits_selectMethod X.admits]; exact q4
  obtain ⟨vm₁, X₁, hstep₁⟩ := X.invokevirtual hex ho hl hnamed hmethM hstM hkP hkPi hy (a := b) (cell := cellB) (by rw [hT]; exact hcB) (fun z h => by rw [h] at hoB; cases hoB) hselP hmethM habM hkP hkPi (g := F0 m pc ls st0) rfl (argsL := As) (rest := rest) (hn.trans (hlen _ hsigM)) hst (by rw [hb]; exact hdg)
  obtain ⟨x, ⟨U', l2, c2', s2⟩, X', ⟨g', mk', t, L, e1, e2, hq, h1, hL, h2, h3⟩, hsteps⟩ := hK m meth c ⟨T.setVm vm₁, locs, cells, slots⟩ (F0 m pc ls rest) (.invokevirtual index) mk (Value.ref b :: As).toArray X₁ rfl (hls.trans hml.symm) (by rw [hb]; exact hdg) hW (X₁.named hnamed) ⟨hf.1, hf.2, hPc _ hT X₁.warmed⟩
  dsimp only [Pt.U, Pt.locs, Pt.cells, Pt.slots] at X' e1 e2 h1 h2 h3 hsteps
  subst h1; subst h2; subst h3
  obtain ⟨⟨ce, k1, k2, k3⟩, hpo, hz, hk⟩ := hq
  have hcfc : s.vm.findClass cls = some ce.cls := by
    have : (T.setVm vm₁).vm.findClass cls = some ce.cls := k2
    rw [← X₁.warmed.alike.findClass]
    exact this
  obtain ⟨c3, cT, hc3, hcT, hasg⟩ := Cond.castable_spec hcast
  cases hcfc.symm.trans hc3
  obtain ⟨hend, hk0⟩ := X'.catches_of_link ho h0 hlink hcT hasg
  obtain ⟨vm', XV, st⟩ := X'.thenCaughtThrough x (g := F0 m pc ls rest) rfl (hstep₁ _ fun acts => by rw [doInvoke_state]; exact hsteps) (cell := ce) (by rw [e1]; exact k1) (by rw [k3]; rfl) hk0 pre xe rst hsplit (hpass _ hcfc) hx hend
  have hh : ((T.setVm vm₁).calling g' mk' (Value.ref b :: As).toArray).heap = H := hT
  rw [hh] at hz hk
  obtain ⟨t2, a1, b1⟩ := kk x (U'.setVm vm').heap (locs ++ L) (by show post U'.heap; rw [e1]; exact hpo) (by show H.size ≤ U'.heap.size; rw [e1]; exact hz) (fun q h1 h2 => by show U'.heap[q]? = _; rw [e1]; exact hk q h1 h2)
    ⟨Nat.le_trans hS.1 (by show H.size ≤ U'.heap.size; rw [e1]; exact hz), fun q h1 h2 => by
      show U'.heap[q]? = _
      rw [e1, hk q (Nat.lt_of_lt_of_le h1 hS.1) (fun z => h2 (hA q (Nat.lt_of_lt_of_le h1 hS.1) z))]; exact hS.2.1 q h1 h2, fun q hq => by
      rcases List.mem_append.mp hq with h | h
      · exact hS.2.2 q h
      · exact hfr _ (hL q h)⟩ _ rfl XV
  exact ⟨t2, st.trans a1, b1⟩
-- the call of a static method that has a handler table
theorem zrunSW {y : MethodName} {bytes : ByteArray} {maxL n index : Nat} {ret : Option FieldType} {hh : List (Nat × Nat × Nat × Nat)} {rm : Room} {Pc : Array Value → State → Prop} {Qc : Array Value → State → Outcome → State → Prop} {As : List Value} {g : JFrame}
    (S : CallFix p m c cc nL s args zw own) (hM : Met l y (.codeWith y bytes maxL ret hh :: zw) rm Pc Qc mc ms free) (hcode : Cond.codeWith y bytes maxL ret hh ∈ zw) (hini : Cond.initialized y.cls ∈ zw) (hlink : Cond.methodLink own index y ∈ zw) (hstat : Cond.static y ∈ zw)
    (hd : y.cls ≠ "java/lang/invoke/MethodHandle" ∧ y.cls ≠ "java/lang/invoke/VarHandle" ∧ (parseMethodDescriptor y.desc).map (fun d => d.parameters.length) = some n) (hrc : rm.cells = mc) (hrs : rm.slots = ms) (hR : rm.frames + 1 ≤ R.frames ∧ 8 + (maxL + 11) + rm.locals ≤ R.locals) (hp : PreS s H Pc As)
    (hg : g.method = m) (hn : As.length = n) (hsize : g.locals.size = nL) (hstack : g.stack = As.reverse ++ rest) (hW : 2 * g.monitorRoom + (rest.map fun v => v.category).sum ≤ 8) (hdg : decode cc g.pc = .ok (.invokestatic index, 3)) (hf : cells + mc ≤ R.cells ∧ slots + ms ≤ R.slots) :
    va_Run p l e R s m args below meth c H locs cells slots mc ms g rest (Qc As.toArray) free := by
  have hws : ∀ w ∈ (.codeWith y bytes maxL ret hh :: zw : List Cond), ∀ (a' : Array Value) (U : State), s.WarmedH U.vm → w.before a' U = true := by
    intro w hw a' U hWU
    rcases List.mem_cons.mp hw with rfl | hw
    · exact word_at hWU (zw_good _ hcode) (S.2.2.2.2 _ hcode)
    · exact word_at hWU (zw_good _ hw) (S.2.2.2.2 _ hw)
  have hK : Back l R p e below s args y 3 8 (PreOf R mc ms Pc) (PostOf Qc mc ms free) := va_backW (hh := hh) (bytes := bytes) (maxL := maxL) (ret := ret) hM hp.1 hrc hrs hR.1 hR.2 hws List.mem_cons_self (fun a' U hWU => hws _ (List.mem_cons_of_mem _ hini) a' U hWU)
  obtain ⟨hx, hb, hml, ho, hall⟩ := S
  intro T hT X
  obtain ⟨mk, methM, cM, hnamed, hmethM, -, -, -, -, -, -, hsigM⟩ := Cond.codeWith_spec (hall _ hcode)
  have hstatic : methM.isStatic = true := Cond.static_spec hnamed hmethM (hall _ hstat)
  obtain ⟨kP, hkP, -⟩ := className_of_methodNamed hnamed
  have hinitP : kP.init = .initialized := Cond.initialized_spec (findClass_of_methodNamed hnamed) hkP (hall _ hini)
  have hlen : As.length = methM.sig.parameters.length := by
    have h2 := hd.2.2
    rw [hsigM] at h2
    exact hn.trans (Option.some.inj h2).symm
  obtain ⟨vm₁, X₁, hstep₁⟩ := X.invokestatic hx ho (hall _ hlink) hnamed hmethM hstatic hkP hinitP ⟨hd.1, hd.2.1⟩ (g := g) hg (argsL := As) (rest := rest) hlen hstack (by rw [hb]; exact hdg)
  obtain ⟨v, ⟨U', l2, c2, s2⟩, X', ⟨g', mk', t, L, e1, e2, hq, h1, hL, h2, h3⟩, hsteps⟩ := hK m meth c ⟨T.setVm vm₁, locs, cells, slots⟩ { g with stack := rest } (.invokestatic index) mk As.toArray X₁ hg (hsize.trans hml.symm) (by rw [hb]; exact hdg) hW (X₁.named hnamed) ⟨hf.1, hf.2, hp.2 _ hT X₁.warmed⟩
  dsimp only [Pt.U, Pt.locs, Pt.cells, Pt.slots] at X' e1 e2 h1 h2 h3 hsteps
  subst h1; subst h2; subst h3
  exact ⟨v, (T.setVm vm₁).calling g' mk' As.toArray, t, U', L, hT, X', hL, e1, e2, hq, fun target h => hstep₁ _ fun acts => by rw [doInvoke_state]; exact hsteps.trans h⟩
end ZX
