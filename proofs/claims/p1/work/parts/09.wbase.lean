/-! Writers: a method that changes the cells of its world, and makes new ones. -/
def zW (post : Option Value → Heap → Prop) (A : Nat → Prop) : Array Value → State → Outcome → State → Prop := fun _ st oc t => ∃ v, oc = .returned v ∧ post v t.heap ∧ va_F A st t
theorem bN_fit (b : Bool) : fits .boolean (.int (iI (bN b))) = true := by cases b <;> decide +kernel
theorem zA0 {E : zP} {ws : va_W} {s : State} {A : Nat → Prop} (hE : zE E s s.heap) (hD : va_D (zOld E) ws) (hA : va_A ws s.heap.size = A) : ∀ q, A q → zOld E q := by
  subst hA
  intro q h
  rcases h with ⟨k, e, h⟩ | h
  · exact hD.2 k _ h
  · exact Nat.le_trans hE.2.1 h
section ZW
variable {p : Program} {l : Launch} {e : Env} {R : Room} {s : State} {m : MethodId} {args : Array Value} {below : List Frame} {meth : Method} {c : Code} {H : Heap} {locs : List Loc} {cells slots : Nat} {Q : State → Prop} {cc : ByteArray} {pc nL : Nat} {ls : Array Slot} {rest st0 : List Value} {a : Array Value} {own : String} {Ts : List Cond} {A A0 A1 : Nat → Prop} {H0 : Heap} {mc ms : Nat} {free : Addr → Prop} {ws : va_W}
theorem zcW {post : Option Value → Heap → Prop} (hr : va_Run p l e R s m args below meth c H locs cells slots mc ms (F0 m pc ls st0) rest (zW post A1 a) free) (hS : va_S A0 H0 H locs) (hA : ∀ q, q < H.size → A1 q → A0 q) (hf : ∀ q, free q → A0 q)
    (kk : ∀ (v : Option Value) (H1 : Heap) (locs1 : List Loc), post v H1 → H.size ≤ H1.size → (∀ q : Nat, q < H.size → ¬ A1 q → H1[q]? = H[q]?) → va_S A0 H0 H1 locs1 → W p l e R s m args below meth c H1 locs1 (cells + mc) (slots + ms) Q (F0 m (pc + 3) ls (v.toList ++ rest))) : W p l e R s m args below meth c H locs cells slots Q (F0 m pc ls st0) := by
  intro T hT X
  obtain ⟨v, st₀, t, T', L, h0, X', hL, e1, e2, ⟨v', hv, hp, hz, hk⟩, st⟩ := hr T hT X
  cases hv
  rw [h0] at hz hk
  obtain ⟨t2, a1, b1⟩ := kk v T'.heap (locs ++ L) (by rw [e1]; exact hp) (by rw [e1]; exact hz) (fun q h1 h2 => by rw [e1]; exact hk q h1 h2)
    ⟨Nat.le_trans hS.1 (by rw [e1]; exact hz), fun q h1 h2 => by rw [e1, hk q (Nat.lt_of_lt_of_le h1 hS.1) (fun z => h2 (hA q (Nat.lt_of_lt_of_le h1 hS.1) z))]; exact hS.2.1 q h1 h2, fun q hq => by
      rcases List.mem_append.mp hq with h | h
      · exact hS.2.2 q h
      · exact hf _ (hL q h)⟩ T' rfl X'
  exact ⟨t2, st t2 a1, b1⟩
theorem zwv {post : Option Value → Heap → Prop} (S : CallFix p m c cc nL s args Ts own) (hr : meth.sig.returnType = none) (hlk : meth.locks = false) (hS : va_S A s.heap H locs) (hp : post none H) (hc : cells ≤ mc) (hs : slots ≤ ms) (hd : decode cc pc = .ok (.return_, 1)) : W p l e R s m args below meth c H locs cells slots (MQ below (zW post A) args s mc ms A) (F0 m pc ls []) := by
  refine W.widen (k := mc) (n := ms) hc hs ?_
  exact W.vret S.1 S.2.1 hr (fun t ht _ => ⟨_, rfl, by rw [ht]; exact hp, hS.F ht⟩) hS.2.2 hd (hlocks := hlk)
theorem zwi {v : Int32} {post : Option Value → Heap → Prop} (S : CallFix p m c cc nL s args Ts own) (hr : meth.sig.returnType = some .int) (hlk : meth.locks = false) (hS : va_S A s.heap H locs) (hp : post (some (.int v)) H) (hc : cells ≤ mc) (hs : slots ≤ ms) (hd : decode cc pc = .ok (.ireturn, 1)) : W p l e R s m args below meth c H locs cells slots (MQ below (zW post A) args s mc ms A) (F0 m pc ls [.int v]) := by
  refine W.widen (k := mc) (n := ms) hc hs ?_
  exact W.iret S.1 S.2.1 hr (fun t ht _ => ⟨_, rfl, by rw [ht]; exact hp, hS.F ht⟩) hS.2.2 hd (hlocks := hlk)
theorem zwz {b : Bool} {post : Option Value → Heap → Prop} (S : CallFix p m c cc nL s args Ts own) (hr : meth.sig.returnType = some .boolean) (hlk : meth.locks = false) (hS : va_S A s.heap H locs) (hp : post (some (.int (iI (bN b)))) H) (hc : cells ≤ mc) (hs : slots ≤ ms) (hd : decode cc pc = .ok (.ireturn, 1)) : W p l e R s m args below meth c H locs cells slots (MQ below (zW post A) args s mc ms A) (F0 m pc ls [.int (iI (bN b))]) := by
  refine W.widen (k := mc) (n := ms) hc hs ?_
  exact W.zret S.1 S.2.1 hr (bN_nar b) (fun t ht _ => ⟨_, rfl, by rw [ht]; exact hp, hS.F ht⟩) hS.2.2 hd (hlocks := hlk)
theorem zwa {x : Nat} {rt : FieldType} {post : Option Value → Heap → Prop} (S : CallFix p m c cc nL s args Ts own) (hr : meth.sig.returnType = some rt) (hrt : (∃ n, rt = .object n) ∨ ∃ t, rt = .array t) (hlk : meth.locks = false) (hS : va_S A s.heap H locs) (hp : post (some (.ref x)) H) (hc : cells ≤ mc) (hs : slots ≤ ms) (hd : decode cc pc = .ok (.areturn, 1)) : W p l e R s m args below meth c H locs cells slots (MQ below (zW post A) args s mc ms A) (F0 m pc ls [.ref x]) := by
  refine W.widen (k := mc) (n := ms) hc hs ?_
  exact W.aret S.1 S.2.1 hr hrt (Or.inr ⟨_, rfl⟩) (fun t ht _ => ⟨_, rfl, by rw [ht]; exact hp, hS.F ht⟩) hS.2.2 hd (hlocks := hlk)
-- arrays
theorem zbast {E : zP} {x n : Nat} {f : Nat → Int32} {i : Int} {v : Int32} (hx : p.tables.exec = Jvm.exec) (hb : c.code = cc) (hE : zE E s H) (hP : va_P E.1 zcl ws H) (hD : va_D A ws) (hS : va_S A H0 H locs) (q0 : Nat) (ha : ws[q0]? = some (x, .inl (E.2.1 0, n, .inl f))) (h0 : 0 ≤ i) (h1 : i < (n : Int)) (hn : n < 2147483648) (hd : decode cc pc = .ok (.bastore, 1))
    (kk : ∀ (H1 : Heap) (locs1 : List Loc), va_P E.1 zcl (ws.set q0 (x, .inl (E.2.1 0, n, .inl (upd f i.toNat (vp_nar .byte v))))) H1 → va_D A (ws.set q0 (x, .inl (E.2.1 0, n, .inl (upd f i.toNat (vp_nar .byte v))))) → va_S A H0 H1 locs1 → W p l e R s m args below meth c H1 locs1 cells slots Q (F0 m (pc + 1) ls rest)) : W p l e R s m args below meth c H locs cells slots Q (F0 m pc ls (.int v :: .int (iI i) :: .ref x :: rest)) :=
  va_bast hx hb hE.1 hP hD hS q0 0 ha rfl (iI_in h0 h1 hn) hd (by rw [iI_clamp h0 (by omega)]; exact kk)
theorem zzast {E : zP} {x n : Nat} {f : Nat → Int32} {i : Int} {v : Int32} (hx : p.tables.exec = Jvm.exec) (hb : c.code = cc) (hE : zE E s H) (hP : va_P E.1 zcl ws H) (hD : va_D A ws) (hS : va_S A H0 H locs) (q0 : Nat) (ha : ws[q0]? = some (x, .inl (E.2.1 1, n, .inl f))) (h0 : 0 ≤ i) (h1 : i < (n : Int)) (hn : n < 2147483648) (hd : decode cc pc = .ok (.bastore, 1))
    (kk : ∀ (H1 : Heap) (locs1 : List Loc), va_P E.1 zcl (ws.set q0 (x, .inl (E.2.1 1, n, .inl (upd f i.toNat (vp_nar .boolean v))))) H1 → va_D A (ws.set q0 (x, .inl (E.2.1 1, n, .inl (upd f i.toNat (vp_nar .boolean v))))) → va_S A H0 H1 locs1 → W p l e R s m args below meth c H1 locs1 cells slots Q (F0 m (pc + 1) ls rest)) : W p l e R s m args below meth c H locs cells slots Q (F0 m pc ls (.int v :: .int (iI i) :: .ref x :: rest)) :=
  va_zast hx hb hE.1 hP hD hS q0 1 ha rfl (iI_in h0 h1 hn) hd (by rw [iI_clamp h0 (by omega)]; exact kk)
theorem ziast {E : zP} {x n : Nat} {f : Nat → Int32} {i : Int} {v : Int32} (hx : p.tables.exec = Jvm.exec) (hb : c.code = cc) (hE : zE E s H) (hP : va_P E.1 zcl ws H) (hD : va_D A ws) (hS : va_S A H0 H locs) (q0 : Nat) (ha : ws[q0]? = some (x, .inl (E.2.1 2, n, .inl f))) (h0 : 0 ≤ i) (h1 : i < (n : Int)) (hn : n < 2147483648) (hd : decode cc pc = .ok (.iastore, 1))
    (kk : ∀ (H1 : Heap) (locs1 : List Loc), va_P E.1 zcl (ws.set q0 (x, .inl (E.2.1 2, n, .inl (upd f i.toNat v)))) H1 → va_D A (ws.set q0 (x, .inl (E.2.1 2, n, .inl (upd f i.toNat v)))) → va_S A H0 H1 locs1 → W p l e R s m args below meth c H1 locs1 cells slots Q (F0 m (pc + 1) ls rest)) : W p l e R s m args below meth c H locs cells slots Q (F0 m pc ls (.int v :: .int (iI i) :: .ref x :: rest)) :=
  va_iast hx hb hE.1 hP hD hS q0 2 ha rfl (iI_in h0 h1 hn) hd (by rw [iI_clamp h0 (by omega)]; exact kk)
theorem zalen {E : zP} {x n : Nat} {y : vp_A} (hx : p.tables.exec = Jvm.exec) (hb : c.code = cc) (hE : zE E s H) (t0 : Nat) (ht : t0 < 7) (hA : va_at E.1 zcl (x, .inl (E.2.1 t0, y)) H) (hy : y.1 = n) (hd : decode cc pc = .ok (.arraylength, 1)) (kk : W p l e R s m args below meth c H locs cells slots Q (F0 m (pc + 1) ls (.int (iI ((n : Nat) : Int)) :: rest))) : W p l e R s m args below meth c H locs cells slots Q (F0 m pc ls (.ref x :: rest)) := by
  have h7 : ∃ ty, (zty E.2.1)[t0]? = some (E.2.1 t0, ty) := by
    rcases (show t0 = 0 ∨ t0 = 1 ∨ t0 = 2 ∨ t0 = 3 ∨ t0 = 4 ∨ t0 = 5 ∨ t0 = 6 by omega) with rfl | rfl | rfl | rfl | rfl | rfl | rfl <;> exact ⟨_, rfl⟩
  obtain ⟨ty, h7⟩ := h7
  exact va_alen hx hb hE.1 (zP1 hA) 0 t0 rfl h7 (by rw [hy, ← iI_nI]; rfl) hd kk
theorem znewa {E : zP} {k N : Nat} {i : Int} {atype : ArrayType} {ty : FieldType} {a0 : vp_A} (S : CallFix p m c cc nL s args zw own) (hE : zE E s H) (harr : Cond.arrayClass (newarray.typeOf atype) ∈ zw) (hty : newarray.typeOf atype = ty) (hfc : ∀ cA, va_RA s cA ty → cA = E.2.1 k) (hP : va_P E.1 zcl ws H) (hD : va_D A ws) (hS : va_S A H0 H locs) (hA : ∀ q, H0.size ≤ q → A q) (ha : ∀ cA : ClassId, vp_cell cA a0 = arrV cA N (fun _ => defaultValue ty)) (h0 : 0 ≤ i) (h1 : i < 2147483648) (hN : i.toNat = N) (hbytes : N * componentBytes ty ≤ 536870912) (hcells : cells + 1 ≤ R.cells) (hslots : slots + N ≤ R.slots) (hd : decode cc pc = .ok (.newarray atype, 2))
    (kk : ∀ (q : Nat) (H1 : Heap), va_P E.1 zcl (ws ++ [(q, .inl (E.2.1 k, a0))]) H1 → va_D A (ws ++ [(q, .inl (E.2.1 k, a0))]) → va_S A H0 H1 locs → W p l e R s m args below meth c H1 locs (cells + 1) (slots + N) Q (F0 m (pc + 2) ls (.ref q :: rest))) : W p l e R s m args below meth c H locs cells slots Q (F0 m pc ls (.int (iI i) :: rest)) := by
  refine va_newa S.1 S.2.1 (S.2.2.2.2 _ harr) hty hE.1 hP hD hS hA ha ?_ (by rw [iI_clamp h0 h1]; exact hN) hbytes hcells hslots hd (fun q cA H1 hK1 hP1 hD1 hS1 => ?_)
  · rw [iI_0, iI_lt ⟨by omega, by omega⟩ r32_0]
    omega
  · have e := hfc cA ((hK1.2 7 _ rfl).2)
    subst e
    exact kk q H1 hP1 hD1 hS1
end ZW
theorem zfc0 {E : zP} {s : State} {H : Heap} (hE : zE E s H) : ∀ cA, va_RA s cA .byte → cA = E.2.1 0 := fun cA h => Option.some.inj ((show _ = _ from h).symm.trans (hE.1.2 0 _ rfl).2)
theorem zfc1 {E : zP} {s : State} {H : Heap} (hE : zE E s H) : ∀ cA, va_RA s cA .boolean → cA = E.2.1 1 := fun cA h => Option.some.inj ((show _ = _ from h).symm.trans (hE.1.2 1 _ rfl).2)
theorem zfc2 {E : zP} {s : State} {H : Heap} (hE : zE E s H) : ∀ cA, va_RA s cA .int → cA = E.2.1 2 := fun cA h => Option.some.inj ((show _ = _ from h).symm.trans (hE.1.2 2 _ rfl).2)
theorem zfc3 {E : zP} {s : State} {H : Heap} (hE : zE E s H) : ∀ cA, va_RA s cA .long → cA = E.2.1 3 := fun cA h => Option.some.inj ((show _ = _ from h).symm.trans (hE.1.2 3 _ rfl).2)
