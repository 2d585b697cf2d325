/-! What every contract takes as given: the classes, the links inside a nest, the statics; readers, calls, ends. -/
def bN (b : Bool) : Int := if b then 1 else 0
theorem bN_r (b : Bool) : r32 (bN b) := by cases b <;> exact ⟨by decide, by decide⟩
theorem bN_nar (b : Bool) : narrow .boolean (.int (iI (bN b))) = .int (iI (bN b)) := by cases b <;> decide +kernel
theorem bN_0 (b : Bool) : bN b = 0 ↔ b = false := by cases b <;> simp [bN]
theorem bN_d (p : Prop) (h : Decidable p) : bN (@decide p h) = if p then 1 else 0 := by
  by_cases q : p <;> simp [bN, q]
-- classes with their slots, array classes, addresses of statics, the heap's size at the law's entry
abbrev zP : Type := va_G × (Nat → ClassId) × (Nat → Nat) × Nat
abbrev zty (g : Nat → ClassId) : List (ClassId × FieldType) := [(g 0, .byte), (g 1, .boolean), (g 2, .int), (g 3, .long), (g 4, .object "ReplacementWriter$Row"), (g 5, .object "java/lang/Object"), (g 6, .array .int)]
def zOld (E : zP) : Nat → Prop := fun q => E.2.2.2 ≤ q
def zpairs : List Int := [65, 90, 1, 32, 0, 192, 214, 1, 32, 0, 216, 222, 1, 32, 0, 256, 302, 2, 1, 0, 306, 310, 2, 1, 0, 313, 327, 2, 1, 0, 330, 374, 2, 1, 0, 376, 376, 1, -121, 0, 377, 381, 2, 1, 0, 913, 929, 1, 32, 0, 931, 937, 1, 32, 0, 1024, 1039, 1, 80, 0, 1040, 1071, 1, 32, 0, 83, 83, 1, 300, 1, 924, 924, 1, -743, 1, 931, 931, 1, 31, 1, 8490, 8490, 1, -8383, 2, 8491, 8491, 1, -8262, 2]
-- the words that look at the heap as it was at the law's entry (statics, strings, faces): they hold wherever those cells are as they were
def zconj : Cond → List Cond
  | .and a b => zconj a ++ zconj b
  | c => [c]
def zisR : Cond → Bool
  | .isRef (.static _ _ _) => true
  | .laysStatic _ _ _ => true
  | _ => false
def zHW : List Cond := (tables_1 ++ zconj narrow_1).filter (fun w => w.keepsFace && (w.onTables || zisR w))
def zSX (E : zP) (U : State) (H : Heap) : Prop := ∀ (as : Array Value) (s' : State), s'.vm = U.vm → (∀ q : Nat, q < E.2.2.2 → s'.heap[q]? = H[q]?) → ∀ w ∈ zHW, w.before as s' = true
theorem zSX.moved {E : zP} {s U : State} {H : Heap} (hW : s.WarmedH U.vm) (h : zSX E s H) : zSX E U H := by
  intro as s' e1 e2 w hw
  have k := Cond.before_shiftedFace (s := { s' with vm := s.vm }) (vm' := U.vm) (State.Shifted.of_warmed hW) w (Bool.and_eq_true _ _ ▸ (List.mem_filter.mp hw).2).1 (h as { s' with vm := s.vm } rfl e2 w hw)
  have e3 : ({ s' with vm := s.vm } : State).setVm U.vm = s' := by rw [← e1]; rfl
  rwa [e3] at k
theorem zSX.kept {E : zP} {U : State} {H H1 : Heap} (h : zSX E U H) (hq : ∀ q : Nat, q < E.2.2.2 → H1[q]? = H[q]?) : zSX E U H1 := fun as s' e1 e2 w hw => h as s' e1 (fun q z => (e2 q z).trans (hq q z)) w hw
def zST (E : zP) (U : State) (H : Heap) : Prop :=
  va_Z "ReplacementWriter$Cases" "PAIRS" "[I" (.ref (E.2.2.1 0)) (zOld E) U H ∧ va_T .int (E.2.2.1 0) 90 (fun j => .int (iI (zpairs.getD j 0))) (zOld E) U H ∧
  va_Z "ReplacementWriter$Turn" "AS_IT_IS" "LReplacementWriter$Turn;" (.ref (E.2.2.1 1)) (zOld E) U H ∧ va_Z "ReplacementWriter$Turn" "UPPER" "LReplacementWriter$Turn;" (.ref (E.2.2.1 2)) (zOld E) U H ∧ va_Z "ReplacementWriter$Turn" "LOWER" "LReplacementWriter$Turn;" (.ref (E.2.2.1 3)) (zOld E) U H ∧
  E.2.2.1 1 ≠ E.2.2.1 2 ∧ E.2.2.1 1 ≠ E.2.2.1 3 ∧ E.2.2.1 2 ≠ E.2.2.1 3 ∧ zSX E U H ∧
  va_Z "java/util/ArrayList" "DEFAULTCAPACITY_EMPTY_ELEMENTDATA" "[Ljava/lang/Object;" (.ref (E.2.2.1 4)) (zOld E) U H ∧ E.2.2.1 4 < E.2.2.2
def zN (U : State) : Prop :=
  va_Nw (.fieldLinkNest "ReplacementWriter$Groups" 79 "ReplacementWriter$Name" "group" "I" "ReplacementWriter") U ∧
  va_Nw (.methodLinkNest "ReplacementWriter" 136 ⟨"ReplacementWriter$Writing", "writePart", "(III)V"⟩ "ReplacementWriter") U ∧
  va_Nw (.methodLinkNest "ReplacementWriterModel" 27 ⟨"ReplacementWriterModel$Holder", "<init>", "()V"⟩ "ReplacementWriterModel") U ∧
  va_Nw (.methodLinkNest "ReplacementWriterModel" 116 ⟨"ReplacementWriterModel$Template", "digit", "(I)Z"⟩ "ReplacementWriterModel") U ∧
  va_Nw (.methodLinkNest "ReplacementWriterModel" 120 ⟨"ReplacementWriterModel$Template", "wordly", "(I)Z"⟩ "ReplacementWriterModel") U ∧
  (∃ ca cb : ClassId, U.vm.findClass "java/lang/UnsupportedOperationException" = some ca ∧ U.vm.findClass "java/lang/IllegalArgumentException" = some cb ∧ U.vm.assignable ca cb = false) ∧
  va_AO "ReplacementWriter$Row" U ∧ va_AO "java/lang/Object" U ∧ (Cond.arrayOver (.array .int)).before #[] U = true
def zE (E : zP) (U : State) (H : Heap) : Prop := va_K E.1 zcl (zty E.2.1) U ∧ E.2.2.2 ≤ H.size ∧ zN U ∧ zST E U H
theorem zE.moved {E : zP} {s U : State} {H : Heap} (hW : s.WarmedH U.vm) (h : zE E s H) : zE E U H := by
  obtain ⟨h1, h2, ⟨n1, n2, n3, n4, n5, ⟨ca, cb, n6, n7, n8⟩, n9, n10, n11⟩, z1, z2, z3, z4, z5, z6, z7, z8, zx, zl, zm⟩ := h
  exact ⟨va_K.moved hW.alike h1, h2, ⟨va_Nw.warmF hW n1, va_Nw.warmM hW n2, va_Nw.warmM hW n3, va_Nw.warmM hW n4, va_Nw.warmM hW n5, ⟨ca, cb, by rw [hW.alike.findClass]; exact n6, by rw [hW.alike.findClass]; exact n7, by rw [hW.alike.assignable]; exact n8⟩, n9.moved hW.alike, n10.moved hW.alike, over_moved hW.alike n11⟩, z1.moved hW.alike, z2.moved hW.alike, z3.moved hW.alike, z4.moved hW.alike, z5.moved hW.alike, z6, z7, z8, zx.moved hW, zl.moved hW.alike, zm⟩
theorem zE.kept {E : zP} {U : State} {H H1 : Heap} (h : zE E U H) (hz : H.size ≤ H1.size) (hq : ∀ q : Nat, q < E.2.2.2 → H1[q]? = H[q]?) : zE E U H1 := by
  obtain ⟨h1, h2, h3, z1, z2, z3, z4, z5, z6, z7, z8, zx, zl, zm⟩ := h
  have k : ∀ a : Nat, a < H.size → ¬ zOld E a → H1[a]? = H[a]? := fun a _ na => hq a (Nat.not_le.mp na)
  exact ⟨h1, Nat.le_trans h2 hz, h3, z1.kept k, z2.kept k, z3.kept k, z4.kept k, z5.kept k, z6, z7, z8, zx.kept hq, zl.kept k, zm⟩
theorem zE.at {E : zP} {s : State} {H : Heap} {A : Nat → Prop} {locs : List Loc} (h : zE E s s.heap) (hS : va_S A s.heap H locs) (hA : ∀ q, A q → E.2.2.2 ≤ q) : zE E s H :=
  h.kept hS.1 (fun q hq => hS.2.1 q (Nat.lt_of_lt_of_le hq h.2.1) (fun z => Nat.not_le.mpr hq (hA q z)))
def zPc (E : zP) (av : List Value) (Pre : Heap → Prop) : Array Value → State → Prop := va_Pc av (fun U => zE E U U.heap ∧ Pre U.heap)
theorem zPc_blind (E : zP) (av : List Value) (Pre : Heap → Prop) : FrameBlind (zPc E av Pre) := fun a U g mk h => ⟨h.1, zE.moved (U := U.calling g mk a) (State.WarmedH.refl U) h.2.1, h.2.2⟩
theorem zPreS {E : zP} {s : State} {H : Heap} {As : List Value} {Pre : Heap → Prop} (hE : zE E s H) (hp : Pre H) : PreS s H (zPc E As Pre) As := ⟨zPc_blind E As Pre, fun U hU hW => ⟨rfl, by rw [hU]; exact hE.moved hW, by rw [hU]; exact hp⟩⟩
-- cells
abbrev zO (E : zP) (ci a : Nat) (fs : List Value) (H : Heap) : Prop := va_at E.1 zcl (a, .inr (ci, fs)) H
abbrev zA (E : zP) (k a n : Nat) (f : Nat → Int32) (H : Heap) : Prop := va_at E.1 zcl (a, .inl (E.2.1 k, n, .inl f)) H
abbrev zQ (E : zP) (k a n : Nat) (f : Nat → Option Nat) (H : Heap) : Prop := va_at E.1 zcl (a, .inl (E.2.1 k, n, .inr (.inr (.inr (.inr f))))) H
theorem zP1 {E : zP} {q : Nat × va_E} {H : Heap} (h : va_at E.1 zcl q H) : va_P E.1 zcl [q] H := fun k x hk => by
  cases k with
  | zero => cases hk; exact h
  | succ k => cases hk
theorem zPreV {E : zP} {s : State} {H : Heap} {b ci : Nat} {fs : List Value} {C : String} {T : u_T} {N : Nat} {As : List Value} {Pre : Heap → Prop} (hE : zE E s H) (hO : zO E ci b fs H) (hc : zcl[ci]? = some (C, T, N)) (hp : Pre H) : PreV s H C b (zPc E (.ref b :: As) Pre) As := by
  refine ⟨zPc_blind E _ Pre, ?_, fun U hU hW => ⟨rfl, by rw [hU]; exact hE.moved hW, by rw [hU]; exact hp⟩⟩
  obtain ⟨r, h1, cell, q1, q2, q3, -⟩ := hO
  obtain ⟨-, hfc, -⟩ := hE.1.1 ci _ hc
  exact ⟨cell, q1, by rw [q3]; rfl, by rw [q2]; exact hfc⟩
-- a method's contract out of a walk from its first instruction
theorem zMet {l : Launch} {y : MethodName} {cc : ByteArray} {maxL : Nat} {ret : Option FieldType} {rm : Room} {E : zP} {av : List Value} {Pre : Heap → Prop} {Qc : Array Value → State → Outcome → State → Prop} {mc ms : Nat} {free : Addr → Prop} (hy : plainName y.cls = true) (hn : (lg_sl av).length ≤ maxL)
    (body : ∀ (p : Program) (e : Env) (s : State) (m : MethodId) (below : List Frame) (meth : Method) (c : Code) (ls : Array Slot), CallFix p m c cc maxL s av.toArray zw y.cls → meth.sig.returnType = ret → meth.locks = false → meth.name = y.name → zE E s s.heap → Pre s.heap → lv_has ls maxL (lv_args 0 av) →
      W p l e rm s m av.toArray below meth c s.heap [] 0 0 (MQ below Qc av.toArray s mc ms free) (F0 m 0 ls [])) : Met l y (.code y cc maxL ret :: zw) rm (zPc E av Pre) Qc mc ms free := by
  refine Met.ofW (cc := cc) (maxL := maxL) (ret := ret) hy rfl ?_
  intro p e s m args below meth c s₁ B hml hv
  obtain ⟨rfl, hE, hp⟩ := hv
  have hts := atoms_spec (ws := .code y cc maxL ret :: zw) B.pre
  rw [lg_entry_eq]
  exact body p e s m below meth c _ ⟨B.exec, B.bytes, hml, findClass_of_methodNamed B.named, fun w h => hts w (List.mem_cons_of_mem _ h)⟩ B.returns B.notSynchronized (name_of_methodNamed B.named B.method).1 hE hp (lv_entry av hn)
theorem zMetF {l : Launch} {y : MethodName} {cc : ByteArray} {maxL : Nat} {ret : Option FieldType} {rm : Room} {E : zP} {av : List Value} {Pre : Heap → Prop} {Qc : Array Value → State → Outcome → State → Prop} {mc ms : Nat} {free : Addr → Prop} (hy : plainFor y = true) (hn : (lg_sl av).length ≤ maxL)
    (body : ∀ (p : Program) (e : Env) (s : State) (m : MethodId) (below : List Frame) (meth : Method) (c : Code) (ls : Array Slot), CallFix p m c cc maxL s av.toArray zw y.cls → meth.sig.returnType = ret → meth.locks = false → meth.name = y.name → zE E s s.heap → Pre s.heap → lv_has ls maxL (lv_args 0 av) →
      W p l e rm s m av.toArray below meth c s.heap [] 0 0 (MQ below Qc av.toArray s mc ms free) (F0 m 0 ls [])) : Met l y (.code y cc maxL ret :: zw) rm (zPc E av Pre) Qc mc ms free := by
  refine va_MetF (cc := cc) (maxL := maxL) (ret := ret) hy rfl ?_
  intro p e s m args below meth c s₁ B hml hv
  obtain ⟨rfl, hE, hp⟩ := hv
  have hts := atoms_spec (ws := .code y cc maxL ret :: zw) B.pre
  rw [lg_entry_eq]
  exact body p e s m below meth c _ ⟨B.exec, B.bytes, hml, findClass_of_methodNamed B.named, fun w h => hts w (List.mem_cons_of_mem _ h)⟩ B.returns B.notSynchronized (name_of_methodNamed B.named B.method).1 hE hp (lv_entry av hn)
-- readers: the heap stays as it is
def zR (v : Option Value) : Array Value → State → Outcome → State → Prop := fun _ st oc t => oc = .returned v ∧ t.heap = st.heap
section ZB
variable {p : Program} {l : Launch} {e : Env} {R : Room} {s : State} {m : MethodId} {args : Array Value} {below : List Frame} {meth : Method} {c : Code} {H : Heap} {locs : List Loc} {cells slots : Nat} {Q : State → Prop} {cc : ByteArray} {pc nL : Nat} {ls : Array Slot} {rest st0 : List Value} {a : Array Value} {own : String} {Ts : List Cond}
theorem zcR {v : Value} (hr : va_Run p l e R s m args below meth c H locs cells slots 0 0 (F0 m pc ls st0) rest (zR (some v) a) (fun _ => False)) (kk : W p l e R s m args below meth c H locs cells slots Q (F0 m (pc + 3) ls (v :: rest))) : W p l e R s m args below meth c H locs cells slots Q (F0 m pc ls st0) := by
  intro T hT X
  obtain ⟨v', st₀, t, T', L, h0, X', hL, e1, e2, ⟨hv, hh⟩, st⟩ := hr T hT X
  cases hv
  have hLn : L = [] := List.eq_nil_iff_forall_not_mem.mpr (fun q hq => hL q hq)
  subst hLn
  rw [List.append_nil] at X'
  obtain ⟨t2, a1, b1⟩ := kk T' (by rw [e1, hh, h0]) X'
  exact ⟨t2, st t2 a1, b1⟩
theorem zretI {v r : Int32} {free : Addr → Prop} (S : CallFix p m c cc nL s args Ts own) (hr : meth.sig.returnType = some .int) (hlk : meth.locks = false) (hd : decode cc pc = .ok (.ireturn, 1)) (hv : v = r) : W p l e R s m args below meth c s.heap [] cells slots (MQ below (zR (some (.int r))) args s cells slots free) (F0 m pc ls [.int v]) := by
  subst hv
  exact W.iret S.1 S.2.1 hr (fun t ht _ => ⟨rfl, ht⟩) (fun _ h => nomatch h) hd (hlocks := hlk)
theorem zretZ {b r : Bool} {free : Addr → Prop} (S : CallFix p m c cc nL s args Ts own) (hr : meth.sig.returnType = some .boolean) (hlk : meth.locks = false) (hd : decode cc pc = .ok (.ireturn, 1)) (hv : b = r) : W p l e R s m args below meth c s.heap [] cells slots (MQ below (zR (some (.int (iI (bN r))))) args s cells slots free) (F0 m pc ls [.int (iI (bN b))]) := by
  subst hv
  exact W.zret S.1 S.2.1 hr (bN_nar b) (fun t ht _ => ⟨rfl, ht⟩) (fun _ h => nomatch h) hd (hlocks := hlk)
theorem zretA {x r : Nat} {rt : FieldType} {free : Addr → Prop} (S : CallFix p m c cc nL s args Ts own) (hr : meth.sig.returnType = some rt) (hrt : (∃ n, rt = .object n) ∨ ∃ t, rt = .array t) (hlk : meth.locks = false) (hd : decode cc pc = .ok (.areturn, 1)) (hv : x = r) : W p l e R s m args below meth c s.heap [] cells slots (MQ below (zR (some (.ref r))) args s cells slots free) (F0 m pc ls [.ref x]) := by
  subst hv
  exact W.aret S.1 S.2.1 hr hrt (Or.inr ⟨_, rfl⟩) (fun t ht _ => ⟨rfl, ht⟩) (fun _ h => nomatch h) hd (hlocks := hlk)
theorem zb_ifeq (hx : p.tables.exec = Jvm.exec) (hb : c.code = cc) {b : Bool} {off : Int} {tgt : Nat} (hd : decode cc pc = .ok (.ifCond .eq off, 3)) (ht : (pc : Int) + off = (tgt : Int)) (kt : b = false → W p l e R s m args below meth c H locs cells slots Q (F0 m tgt ls rest)) (kf : b = true → W p l e R s m args below meth c H locs cells slots Q (F0 m (pc + 3) ls rest)) : W p l e R s m args below meth c H locs cells slots Q (F0 m pc ls (.int (iI (bN b)) :: rest)) :=
  zi_if_eq hx hb hd ht (bN_r b) (fun h => kt ((bN_0 b).mp h)) (fun h => kf (by cases b; exact absurd ((bN_0 false).mpr rfl) h; rfl))
theorem zb_ifne (hx : p.tables.exec = Jvm.exec) (hb : c.code = cc) {b : Bool} {off : Int} {tgt : Nat} (hd : decode cc pc = .ok (.ifCond .ne off, 3)) (ht : (pc : Int) + off = (tgt : Int)) (kt : b = true → W p l e R s m args below meth c H locs cells slots Q (F0 m tgt ls rest)) (kf : b = false → W p l e R s m args below meth c H locs cells slots Q (F0 m (pc + 3) ls rest)) : W p l e R s m args below meth c H locs cells slots Q (F0 m pc ls (.int (iI (bN b)) :: rest)) :=
  zi_if_ne hx hb hd ht (bN_r b) (fun h => kt (by cases b; exact absurd ((bN_0 false).mpr rfl) h; rfl)) (fun h => kf ((bN_0 b).mp h))
-- fields
theorem zgf {E : zP} {C : String} {T : u_T} {N ci index x : Nat} {fs : List Value} {v : Value} (S : CallFix p m c cc nL s args zw own) (hE : zE E s H) (hc : zcl[ci]? = some (C, T, N)) (hin : ∀ w ∈ u_ws C T N, w ∈ zw) (hO : zO E ci x fs H) (k : Nat) (hk : k < N) (hl : Cond.fieldLink own index (T k).1 (T k).2.1 (T k).2.2.1 ∈ zw) (hv : fs[k]? = some v) (hd : decode cc pc = .ok (.getfield index, 3))
    (kk : W p l e R s m args below meth c H locs cells slots Q (F0 m (pc + 3) ls (v :: rest))) : W p l e R s m args below meth c H locs cells slots Q (F0 m pc ls (.ref x :: rest)) :=
  va_get S.1 S.2.1 S.2.2.2.2 hin S.2.2.2.1 hE.1 (zP1 hO) 0 rfl hc k hk (S.2.2.2.2 _ hl) (fun _ h => h) hv hd kk
-- calls
theorem zcwB {y : MethodName} {bytes : ByteArray} {maxL n mc ms index : Nat} {ret : Option FieldType} {rm : Room} (S : CallFix p m c cc nL s args zw own) (hcode : Cond.code y bytes maxL ret ∈ zw) (hini : Cond.initialized y.cls ∈ zw) (hlink : Cond.methodLink own index y ∈ zw) (hd : y.cls ≠ "java/lang/invoke/MethodHandle" ∧ y.cls ≠ "java/lang/invoke/VarHandle" ∧ (parseMethodDescriptor y.desc).map (fun d => d.parameters.length) = some n) (hrc : rm.cells = mc) (hrs : rm.slots = ms) (hR : rm.frames + 1 ≤ R.frames ∧ 8 + (maxL + 11) + rm.locals ≤ R.locals) : CallB R s args own index y bytes maxL ret (Cond.code y bytes maxL ret :: zw) rm mc ms n :=
  callB_of n S.2.2.2.2 (zG hcode) rfl hrc hrs (S.2.2.2.2 _ hini) (S.2.2.2.2 _ hlink) hd hR
end ZB
section ZB2
variable {p : Program} {l : Launch} {e : Env} {R : Room} {s : State} {m : MethodId} {args : Array Value} {below : List Frame} {meth : Method} {c : Code} {H : Heap} {locs : List Loc} {cells slots : Nat} {Q : State → Prop} {cc : ByteArray} {pc nL : Nat} {ls : Array Slot} {rest st0 : List Value} {a : Array Value} {own : String} {Ts : List Cond}
theorem zldc {index : Nat} {v : Int32} {n : Int} (S : CallFix p m c cc nL s args zw own) (hk : Cond.constant own index v ∈ zw) (hv : v = iI n) (hd : decode cc pc = .ok (.ldc index, 2)) (kk : W p l e R s m args below meth c H locs cells slots Q (F0 m (pc + 2) ls (.int (iI n) :: rest))) : W p l e R s m args below meth c H locs cells slots Q (F0 m pc ls rest) := by
  subst hv
  exact lv_ldc S.1 S.2.1 S.2.2.2.1 (S.2.2.2.2 _ hk) hd kk
theorem zbald {E : zP} {x n : Nat} {f : Nat → Int32} {i : Int} (hx : p.tables.exec = Jvm.exec) (hb : c.code = cc) (hE : zE E s H) (hA : zA E 0 x n f H) (h0 : 0 ≤ i) (h1 : i < (n : Int)) (hn : n < 2147483648) (hd : decode cc pc = .ok (.baload, 1)) (kk : W p l e R s m args below meth c H locs cells slots Q (F0 m (pc + 1) ls (.int (f i.toNat) :: rest))) : W p l e R s m args below meth c H locs cells slots Q (F0 m pc ls (.int (iI i) :: .ref x :: rest)) :=
  va_bald hx hb hE.1 (zP1 hA) 0 0 rfl rfl (iI_in h0 h1 hn) hd (by rw [iI_clamp h0 (by omega)]; exact kk)
theorem zzald {E : zP} {x n : Nat} {f : Nat → Int32} {i : Int} (hx : p.tables.exec = Jvm.exec) (hb : c.code = cc) (hE : zE E s H) (hA : zA E 1 x n f H) (h0 : 0 ≤ i) (h1 : i < (n : Int)) (hn : n < 2147483648) (hd : decode cc pc = .ok (.baload, 1)) (kk : W p l e R s m args below meth c H locs cells slots Q (F0 m (pc + 1) ls (.int (f i.toNat) :: rest))) : W p l e R s m args below meth c H locs cells slots Q (F0 m pc ls (.int (iI i) :: .ref x :: rest)) :=
  va_zald hx hb hE.1 (zP1 hA) 0 1 rfl rfl (iI_in h0 h1 hn) hd (by rw [iI_clamp h0 (by omega)]; exact kk)
theorem ziald {E : zP} {x n : Nat} {f : Nat → Int32} {i : Int} (hx : p.tables.exec = Jvm.exec) (hb : c.code = cc) (hE : zE E s H) (hA : zA E 2 x n f H) (h0 : 0 ≤ i) (h1 : i < (n : Int)) (hn : n < 2147483648) (hd : decode cc pc = .ok (.iaload, 1)) (kk : W p l e R s m args below meth c H locs cells slots Q (F0 m (pc + 1) ls (.int (f i.toNat) :: rest))) : W p l e R s m args below meth c H locs cells slots Q (F0 m pc ls (.int (iI i) :: .ref x :: rest)) :=
  va_iald hx hb hE.1 (zP1 hA) 0 2 rfl rfl (iI_in h0 h1 hn) hd (by rw [iI_clamp h0 (by omega)]; exact kk)
end ZB2
-- bytes in a byte array
theorem sb_iI {n : Nat} (h : n < 256) : sb_b n &&& iI 255 = iI (n : Int) := by rw [show iI 255 = (255 : Int32) from rfl, (sb_byte n h).1, iI_nI]
def zbytes (b : List Nat) (cap : Nat) (f : Nat → Int32) : Prop := b.length ≤ cap ∧ cap < 2147483648 ∧ (∀ x ∈ b, x < 256) ∧ ∀ j, j < b.length → f j = sb_b (b.getD j 0)
def zrow (E : zP) (a : Nat) (b : List Nat) (H : Heap) : Prop := ∃ (most : Int) (q cap : Nat) (f : Nat → Int32), zO E 1 a [.int (iI most), .ref q, .int (iI (b.length : Nat))] H ∧ zA E 0 q cap f H ∧ zbytes b cap f
-- what a row says at an index
def sp_at (b : List Nat) (k : Int) : Int := if 0 ≤ k ∧ k < (b.length : Nat) then (b.getD k.toNat 0 : Nat) else -1
theorem getD_lt {b : List Nat} {j m : Nat} (h : ∀ x ∈ b, x < m) (hj : j < b.length) : b.getD j 0 < m := by
  rw [List.getD_eq_getElem?_getD, List.getElem?_eq_getElem hj]
  exact h _ (List.getElem_mem hj)
theorem sp_at_r (b : List Nat) (k : Int) (h : ∀ x ∈ b, x < 256) : -1 ≤ sp_at b k ∧ sp_at b k < 256 := by
  unfold sp_at
  split
  · have := getD_lt (m := 256) h (j := k.toNat) (by omega)
    omega
  · omega
theorem zrow.lt {E : zP} {a : Nat} {b : List Nat} {H : Heap} (h : zrow E a b H) : ∀ x ∈ b, x < 256 := by
  obtain ⟨_, _, _, _, _, _, hB⟩ := h
  exact hB.2.2.1
theorem zrow.len {E : zP} {a : Nat} {b : List Nat} {H : Heap} (h : zrow E a b H) : b.length < 2147483648 := by
  obtain ⟨_, _, _, _, _, _, hB⟩ := h
  exact Nat.lt_of_le_of_lt hB.1 hB.2.1
theorem zrow.kept {E : zP} {a : Nat} {b : List Nat} {H H1 : Heap} (h : zrow E a b H) (hq : ∀ q : Nat, q < H.size → H1[q]? = H[q]?) : zrow E a b H1 := by
  obtain ⟨most, q, cap, f, hO, hA, hB⟩ := h
  exact ⟨most, q, cap, f, hO.kept (hq _ hO.lt), hA.kept (hq _ hA.lt), hB⟩
theorem zPreVrow {E : zP} {s : State} {H : Heap} {b : Nat} {t : List Nat} {As : List Value} {Pre : Heap → Prop} (hE : zE E s H) (h : zrow E b t H) (hp : Pre H) : PreV s H "ReplacementWriter$Row" b (zPc E (.ref b :: As) Pre) As := by
  obtain ⟨most, q, cap, f, hO, -⟩ := h
  exact zPreV hE hO rfl hp
