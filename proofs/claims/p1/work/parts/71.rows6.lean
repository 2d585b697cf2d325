/-! Arrays of int arrays: made, an int array or null laid in. -/
section ZR6
variable {p : Program} {l : Launch} {e : Env} {R : Room} {s : State} {m : MethodId} {args : Array Value} {below : List Frame} {meth : Method} {c : Code} {H : Heap} {locs : List Loc} {cells slots : Nat} {Q : State → Prop} {cc : ByteArray} {pc nL : Nat} {ls : Array Slot} {rest : List Value} {own : String} {A : Nat → Prop} {H0 : Heap} {ws : va_W}
theorem zAI_str : (FieldType.array .int).toString = "[I" := by decide
theorem znewA {E : zP} {N index : Nat} {i : Int} (S : CallFix p m c cc nL s args zw own) (hE : zE E s H) (hcl : Cond.classLink own index "[I" ∈ zw) (hP : va_P E.1 zcl ws H) (hD : va_D A ws) (hS : va_S A H0 H locs) (hA : ∀ q, H0.size ≤ q → A q) (h0 : 0 ≤ i) (h1 : i < 2147483648) (hN : i.toNat = N) (hbytes : N * 4 ≤ 536870912) (hcells : cells + 1 ≤ R.cells) (hslots : slots + N ≤ R.slots) (hd : decode cc pc = .ok (.anewarray index, 3))
    (kk : ∀ (q : Nat) (H1 : Heap), va_P E.1 zcl (ws ++ [(q, .inl (E.2.1 6, N, .inr (.inr (.inr (.inr (fun _ => none))))))]) H1 → va_D A (ws ++ [(q, .inl (E.2.1 6, N, .inr (.inr (.inr (.inr (fun _ => none))))))]) → va_S A H0 H1 locs → W p l e R s m args below meth c H1 locs (cells + 1) (slots + N) Q (F0 m (pc + 3) ls (.ref q :: rest))) : W p l e R s m args below meth c H locs cells slots Q (F0 m pc ls (.int (iI i) :: rest)) := by
  have hcn : (iI i).toNatClampNeg = N := by rw [iI_clamp h0 h1]; exact hN
  subst hcn
  have hlink := S.2.2.2.2 _ hcl
  rw [← zAI_str] at hlink
  refine W.anewA S.1 S.2.1 S.2.2.2.1 hlink (show (Cond.arrayOver (.array .int)).before args s = true from hE.2.2.1.2.2.2.2.2.2.2.2) rfl hd rfl ?_ hbytes hcells hslots fun cA kA comp f1 f2 f3 f4 => ?_
  · rw [iI_0, iI_lt ⟨by omega, by omega⟩ r32_0]
    omega
  · have e6 : cA = E.2.1 6 := Option.some.inj (f1.symm.trans (hE.1.2 6 _ rfl).2)
    subst e6
    generalize hH1 : H.push ({ cls := E.2.1 6, slots := Array.replicate (iI i).toNatClampNeg .null, vm := .none } : Cell) = H1
    have z1 : H1.size = H.size + 1 := by rw [← hH1, Array.size_push]
    have e1 : H1[H.size]? = some (arrV (E.2.1 6) (iI i).toNatClampNeg (fun _ => .null)) := by rw [← hH1, Array.getElem?_push_size, ← arrV_new]
    have o1 : ∀ q : Nat, q < H.size → H1[q]? = H[q]? := fun q hq => by rw [← hH1, Array.getElem?_push, if_neg (Nat.ne_of_lt hq)]
    have hk : ∀ (k : Nat) (x : Nat × va_E), ws[k]? = some x → H1[x.1]? = H[x.1]? := fun k x hx => o1 x.1 ((hP k x hx).lt)
    refine kk H.size H1 ((hP.kept hk).app (fun k x hx => ?_)) (hD.push hP rfl (hA _ hS.1)) ⟨Nat.le_trans hS.1 (by omega), fun x h1 h2 => (o1 x (Nat.lt_of_lt_of_le h1 hS.1)).trans (hS.2.1 x h1 h2), hS.2.2⟩
    have hz : k < 1 := (List.getElem?_eq_some_iff.mp hx).1
    rw [show k = 0 by omega] at hx
    cases hx
    show H1[H.size]? = some (vp_cell _ _)
    rw [vp_cell_q]
    exact e1
theorem zastA {E : zP} {x n v n2 : Nat} {f : Nat → Option Nat} {f2 : Nat → Int32} {i : Int} (hx : p.tables.exec = Jvm.exec) (hb : c.code = cc) (hE : zE E s H) (hP : va_P E.1 zcl ws H) (hD : va_D A ws) (hS : va_S A H0 H locs) (q0 qk : Nat) (ha : ws[q0]? = some (x, .inl (E.2.1 6, n, .inr (.inr (.inr (.inr f)))))) (hv : ws[qk]? = some (v, .inl (E.2.1 2, n2, .inl f2))) (h0 : 0 ≤ i) (h1 : i < (n : Int)) (hn : n < 2147483648) (hd : decode cc pc = .ok (.aastore, 1))
    (kk : ∀ (H1 : Heap) (locs1 : List Loc), va_P E.1 zcl (ws.set q0 (x, .inl (E.2.1 6, n, .inr (.inr (.inr (.inr (va_up f i.toNat (some v)))))))) H1 → va_D A (ws.set q0 (x, .inl (E.2.1 6, n, .inr (.inr (.inr (.inr (va_up f i.toNat (some v)))))))) → va_S A H0 H1 locs1 → W p l e R s m args below meth c H1 locs1 cells slots Q (F0 m (pc + 1) ls rest)) : W p l e R s m args below meth c H locs cells slots Q (F0 m pc ls (.ref v :: .int (iI i) :: .ref x :: rest)) := by
  obtain ⟨comp, cA, kA, g1, -, g3, g4, g5⟩ := arrayOverA_spec hE.2.2.1.2.2.2.2.2.2.2.2
  have e6 : cA = E.2.1 6 := Option.some.inj (g5.symm.trans (hE.1.2 6 _ rfl).2)
  have e2 : comp = E.2.1 2 := by
    rw [zAI_str] at g1
    exact Option.some.inj (g1.symm.trans (hE.1.2 2 _ rfl).2)
  subst e6
  subst e2
  obtain ⟨-, kC, hkC, -⟩ := (hE.1.2 2 _ rfl).1 0 (fun _ => .null)
  have hin := iI_in h0 h1 hn
  refine W.aast hx hb (hP q0 _ ha) (fun q h => by cases h) (fun h => by cases h) g3 g4 rfl hkC ⟨fun q => hin (Or.inl q), by show _ < (arrV _ _ _).slots.size; rw [arrV_size]; exact Nat.not_le.mp fun q => hin (Or.inr q)⟩ (hP qk _ hv) (fun q h => by cases h) hkC (by show Vm.assignableAux _ (255 + 1) (E.2.1 2) (E.2.1 2) = true; rw [Vm.assignableAux]; simp only [beq_self_eq_true, Bool.true_or]) rfl rfl hd fun H1 e z oq => ?_
  refine kk H1 _ (hP.set hD ha ?_ oq) (hD.set ha) (hS.put z oq (hD.2 q0 _ ha))
  show H1[x]? = some (vp_cell _ _)
  rw [e]
  rw [vp_cell_q, vp_cell_q, arrV_store, iI_clamp h0 (by omega)]
  congr 2
  funext q
  by_cases hq : q = i.toNat
  · subst hq
    simp [updV, va_up, va_rf]
  · simp [updV, va_up, hq]
theorem zaastN0 {T : State} (X : Stand p l e R s m args below meth c T locs cells slots) (hexec : p.tables.exec = Jvm.exec) {a : Addr} {cell : Cell} {j : Int32} (hcell : T.heap[a]? = some cell) (harr : s.isArrayOf cell (.array .int)) (hknown : cell.vm ≠ .unknown)
    (hin : ¬ (j < 0 ∨ cell.slots.size ≤ j.toNatClampNeg))
    {g : JFrame} (hg : g.method = m) {rest : List Value} (hstack : g.stack = .null :: .int j :: .ref a :: rest) (hdg : decode c.code g.pc = .ok (.aastore, 1)) :
    Stand p l e R s m args below meth c (T.setCell a (cell.setSlot j.toNatClampNeg .null)) (locs ++ [⟨a, j.toNatClampNeg⟩]) cells slots ∧
      ∀ target, Steps p.tables e below ((T.setCell a (cell.setSlot j.toNatClampNeg .null)).setTop { g with pc := g.pc + 1, stack := rest }) target → Steps p.tables e below (T.setTop g) target := by
  have hT := State.isArrayOf_alike X.warmed.alike harr
  have hfit : T.fitsSlot cell.cls cell.vm j.toNatClampNeg .null = true := by
    obtain ⟨hobj, k, hk, comp, hkind⟩ := hT
    cases hvm : cell.vm <;> first | exact absurd hvm (hobj _) | simp [State.fitsSlot, State.slotType?, hk, hkind, fits]
  refine ⟨X.stored hcell _ _, fun target hrest => ?_⟩
  subst hg
  jvm_step X.here [hexec, hdg]
  refine aastore.wp_of_null (c := cell) (t := .array .int) X.here.top hstack hcell hT hin hknown (Nat.not_le.mp fun q => hin (Or.inr q)) hfit ?_
  intro acts
  rw [afterInstr_ok]
  exact hrest
theorem zastAN {E : zP} {x n : Nat} {f : Nat → Option Nat} {i : Int} (hx : p.tables.exec = Jvm.exec) (hb : c.code = cc) (hE : zE E s H) (hP : va_P E.1 zcl ws H) (hD : va_D A ws) (hS : va_S A H0 H locs) (q0 : Nat) (ha : ws[q0]? = some (x, .inl (E.2.1 6, n, .inr (.inr (.inr (.inr f)))))) (h0 : 0 ≤ i) (h1 : i < (n : Int)) (hn : n < 2147483648) (hd : decode cc pc = .ok (.aastore, 1))
    (kk : ∀ (H1 : Heap) (locs1 : List Loc), va_P E.1 zcl (ws.set q0 (x, .inl (E.2.1 6, n, .inr (.inr (.inr (.inr (va_up f i.toNat none))))))) H1 → va_D A (ws.set q0 (x, .inl (E.2.1 6, n, .inr (.inr (.inr (.inr (va_up f i.toNat none))))))) → va_S A H0 H1 locs1 → W p l e R s m args below meth c H1 locs1 cells slots Q (F0 m (pc + 1) ls rest)) : W p l e R s m args below meth c H locs cells slots Q (F0 m pc ls (.null :: .int (iI i) :: .ref x :: rest)) := by
  have hin := iI_in h0 h1 hn
  intro T hT X
  have hT' : T.heap[x]? = some (vp_cell (E.2.1 6) (n, .inr (.inr (.inr (.inr f))))) := by rw [hT]; exact hP q0 _ ha
  obtain ⟨X', st⟩ := zaastN0 X hx hT' ((hE.1.2 6 _ rfl).1 n (fun j => va_rf (f j))) (fun h => by cases h) (by show ¬ (iI i < 0 ∨ (arrV _ _ _).slots.size ≤ _); rw [arrV_size]; exact hin) rfl (g := F0 m pc ls (.null :: .int (iI i) :: .ref x :: rest)) rfl (by rw [hb]; exact hd)
  have hlt : x < T.heap.size := (Array.getElem?_eq_some_iff.mp hT').1
  have oq : ∀ q : Nat, q ≠ x → (T.setCell x ((vp_cell (E.2.1 6) (n, .inr (.inr (.inr (.inr f))))).setSlot (iI i).toNatClampNeg .null)).heap[q]? = H[q]? := fun q hq => by rw [heapAt_setCell_ne _ (Ne.symm hq), hT]
  have z : (T.setCell x ((vp_cell (E.2.1 6) (n, .inr (.inr (.inr (.inr f))))).setSlot (iI i).toNatClampNeg .null)).heap.size = H.size := by rw [size_setCell, hT]
  have e := heapAt_setCell_self ((vp_cell (E.2.1 6) (n, .inr (.inr (.inr (.inr f))))).setSlot (iI i).toNatClampNeg .null) hlt
  have K := kk _ (locs ++ [⟨x, (iI i).toNatClampNeg⟩]) (hP.set hD ha (by
    show (T.setCell x _).heap[x]? = some (vp_cell _ _)
    rw [e]
    rw [vp_cell_q, vp_cell_q, arrV_store, iI_clamp h0 (by omega)]
    congr 2
    funext q
    by_cases hq : q = i.toNat
    · subst hq
      simp [updV, va_up, va_rf]
    · simp [updV, va_up, hq]) oq) (hD.set ha) (hS.put z oq (hD.2 q0 _ ha))
  obtain ⟨t', a1, b1⟩ := K _ rfl X'
  exact ⟨t', st t' a1, b1⟩
end ZR6
