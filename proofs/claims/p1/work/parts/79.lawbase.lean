theorem zw_372 : (Jvm.Cond.codeWith ({ cls := "ReplacementWriterLaw", name := "end", desc := "(LReplacementWriter;I[J)I" } : Jvm.MethodName) method_4_code (4 : Nat) (Option.some Jvm.ClassFile.FieldType.int) [((0 : Nat), (9 : Nat), (12 : Nat), (19 : Nat))]) ∈ zw := zw_of (List.mem_of_getElem? (i := 372) (by decide +kernel)) (by decide +kernel)
theorem zw_859 : (Jvm.Cond.codeWith ({ cls := "ReplacementWriterLaw", name := "fault", desc := "(LReplacementWriter;I[J)I" } : Jvm.MethodName) method_12_code (4 : Nat) (Option.some Jvm.ClassFile.FieldType.int) [((0 : Nat), (9 : Nat), (12 : Nat), (19 : Nat))]) ∈ zw := zw_of (List.mem_of_getElem? (i := 859) (by decide +kernel)) (by decide +kernel)
theorem zw_276 : (Jvm.Cond.codeWith ({ cls := "ReplacementWriterLaw", name := "feed", desc := "(LReplacementWriter;IIIII[J)I" } : Jvm.MethodName) method_3_code (8 : Nat) (Option.some Jvm.ClassFile.FieldType.int) [((0 : Nat), (16 : Nat), (19 : Nat), (13 : Nat))]) ∈ zw := zw_of (List.mem_of_getElem? (i := 276) (by decide +kernel)) (by decide +kernel)
theorem zw_399 : (Jvm.Cond.codeWith ({ cls := "ReplacementWriterLaw", name := "groups", desc := "(LReplacementWriter;I)I" } : Jvm.MethodName) method_5_code (3 : Nat) (Option.some Jvm.ClassFile.FieldType.int) [((0 : Nat), (5 : Nat), (8 : Nat), (19 : Nat))]) ∈ zw := zw_of (List.mem_of_getElem? (i := 399) (by decide +kernel)) (by decide +kernel)
theorem zw_633 : (Jvm.Cond.codeWith ({ cls := "ReplacementWriterLaw", name := "mark", desc := "(LReplacementWriter;[J)I" } : Jvm.MethodName) method_9_code (3 : Nat) (Option.some Jvm.ClassFile.FieldType.int) [((0 : Nat), (8 : Nat), (11 : Nat), (28 : Nat))]) ∈ zw := zw_of (List.mem_of_getElem? (i := 633) (by decide +kernel)) (by decide +kernel)
theorem zw_507 : (Jvm.Cond.codeWith ({ cls := "ReplacementWriterLaw", name := "name", desc := "(LReplacementWriter;I[J)I" } : Jvm.MethodName) method_8_code (4 : Nat) (Option.some Jvm.ClassFile.FieldType.int) [((0 : Nat), (9 : Nat), (12 : Nat), (19 : Nat)), ((0 : Nat), (9 : Nat), (15 : Nat), (28 : Nat))]) ∈ zw := zw_of (List.mem_of_getElem? (i := 507) (by decide +kernel)) (by decide +kernel)
theorem zw_835 : (Jvm.Cond.codeWith ({ cls := "ReplacementWriterLaw", name := "result", desc := "(LReplacementWriter;I[J)I" } : Jvm.MethodName) method_11_code (4 : Nat) (Option.some Jvm.ClassFile.FieldType.int) [((0 : Nat), (9 : Nat), (12 : Nat), (46 : Nat))]) ∈ zw := zw_of (List.mem_of_getElem? (i := 835) (by decide +kernel)) (by decide +kernel)
theorem zw_415 : (Jvm.Cond.codeWith ({ cls := "ReplacementWriterLaw", name := "set", desc := "(LReplacementWriter;I[J)I" } : Jvm.MethodName) method_6_code (4 : Nat) (Option.some Jvm.ClassFile.FieldType.int) [((0 : Nat), (9 : Nat), (12 : Nat), (19 : Nat)), ((0 : Nat), (9 : Nat), (15 : Nat), (28 : Nat))]) ∈ zw := zw_of (List.mem_of_getElem? (i := 415) (by decide +kernel)) (by decide +kernel)
theorem zw_496 : (Jvm.Cond.codeWith ({ cls := "ReplacementWriterLaw", name := "unset", desc := "(LReplacementWriter;I)I" } : Jvm.MethodName) method_7_code (3 : Nat) (Option.some Jvm.ClassFile.FieldType.int) [((0 : Nat), (5 : Nat), (8 : Nat), (19 : Nat))]) ∈ zw := zw_of (List.mem_of_getElem? (i := 496) (by decide +kernel)) (by decide +kernel)
theorem zw_644 : (Jvm.Cond.codeWith ({ cls := "ReplacementWriterLaw", name := "write", desc := "(LReplacementWriter;I[J)I" } : Jvm.MethodName) method_10_code (4 : Nat) (Option.some Jvm.ClassFile.FieldType.int) [((0 : Nat), (9 : Nat), (12 : Nat), (19 : Nat))]) ∈ zw := zw_of (List.mem_of_getElem? (i := 644) (by decide +kernel)) (by decide +kernel)
/-! The law's walk: what it rests on. -/
def zS0 (u p : Bool) : zSp := ((u, p), [], ((0, fun _ => none, [], []), 0), [], 0, -1)
def zC0 : zCp := (16, 16, 16, fun _ => 16)
def zWM (E : zP) (mo tb kq mq te tq oq ho hq nl ul mk xq cq pq : Nat) (u p2 : Bool) (la : Int) (f9 : Nat → Int32) : va_W := [(mo, .inr (10, [.ref tb, .ref te, .ref ho, .ref xq, .int (iI 0), .int (iI 0), .int (iI 0), .int (iI (bN false)), .ref cq, .ref pq, .int (iI 0), .int (iI (-1))])), (tb, .inr (11, [.ref kq, .int (iI (bN u)), .int (iI (bN p2)), .int (iI la), .ref mq, .int (iI 0)])), (kq, .inl (E.2.1 0, 12544, .inl f9)), (mq, .inl (E.2.1 2, 4, .inl (fun _ => 0))), (te, .inr (12, [.ref tb, .null, .int (iI (bN false)), .int (iI (bN false)), .int (iI (bN false)), .ref tq, .int (iI 0), .ref oq, .int (iI 0), .int (iI 0), .int (iI 0), .int (iI (-1)), .int (iI 0)])), (tq, .inl (E.2.1 2, 64, .inl (fun _ => 0))), (oq, .inl (E.2.1 0, 256, .inl (fun _ => 0))), (ho, .inr (13, [.int (iI 0), .ref hq, .ref nl, .ref ul, .ref mk])), (hq, .inl (E.2.1 6, 100, .inr (.inr (.inr (.inr (fun _ => none)))))), (nl, .inr (9, [.ref (E.2.2.1 4), .int (iI 0), .int (iI 0)])), (ul, .inr (9, [.ref (E.2.2.1 4), .int (iI 0), .int (iI 0)])), (mk, .inl (E.2.1 2, 0, .inl (fun _ => 0))), (xq, .inl (E.2.1 0, 65536, .inl (fun _ => 0))), (cq, .inl (E.2.1 2, 65536, .inl (fun _ => 0))), (pq, .inl (E.2.1 2, 65537, .inl (fun _ => 0)))]
theorem zwr0 (u p : Bool) (ov : Nat) : sp_ans (sp_wr (zS0 u p) ov) = 0 := by
  unfold sp_wr sp_write
  cases decide (8 ≤ ov) <;> rfl
theorem zcnt0 (k : Int) : r32 (sp_count k 0 0 0 0) := by
  unfold sp_count
  repeat' split
  all_goals exact ⟨by decide, by decide⟩
theorem zpc0 (M : sp_Md) (G : sp_Src) : sp_pcap 16 (sp_part M G [] 20 0 0 ([], 0, 0)) = 16 := by
  show (if (0 : Int) = -48 then 262144 else max 16 (sp_up 0)) = 16
  decide
theorem zchr0 (u p : Bool) : r32 ((sp_chars (zS0 u p).1.1 (zS0 u p).2.1).length : Nat) := by cases u <;> cases p <;> exact ⟨by decide, by decide⟩
theorem zflt0 (u p : Bool) : r32 (if (0 : Int) = 0 then (zS0 u p).2.2.2.2.1 else (zS0 u p).2.2.2.2.2) := by cases u <;> cases p <;> exact ⟨by decide, by decide⟩
theorem zflt1 (u p : Bool) : r32 (if (1 : Int) = 0 then (zS0 u p).2.2.2.2.1 else (zS0 u p).2.2.2.2.2) := by cases u <;> cases p <;> exact ⟨by decide, by decide⟩
theorem zft0 (u : Bool) : sp_fault u [] < 0 := by cases u <;> decide
theorem zMetG {l : Launch} {y : MethodName} {cc : ByteArray} {maxL : Nat} {ret : Option FieldType} {rm : Room} {av : List Value} {PU : State → Prop} {Qc : Array Value → State → Outcome → State → Prop} {mc ms : Nat} {free : Addr → Prop} (hy : plainName y.cls = true) (hn : (lg_sl av).length ≤ maxL)
    (body : ∀ (p : Program) (e : Env) (s : State) (m : MethodId) (below : List Frame) (meth : Method) (c : Code) (ls : Array Slot), CallFix p m c cc maxL s av.toArray zw y.cls → meth.sig.returnType = ret → meth.locks = false → PU s → lv_has ls maxL (lv_args 0 av) →
      W p l e rm s m av.toArray below meth c s.heap [] 0 0 (MQ below Qc av.toArray s mc ms free) (F0 m 0 ls [])) : Met l y (.code y cc maxL ret :: zw) rm (va_Pc av PU) Qc mc ms free := by
  refine Met.ofW (cc := cc) (maxL := maxL) (ret := ret) hy rfl ?_
  intro p e s m args below meth c s₁ B hml hv
  obtain ⟨rfl, hp⟩ := hv
  have hts := atoms_spec (ws := .code y cc maxL ret :: zw) B.pre
  rw [lg_entry_eq]
  exact body p e s m below meth c _ ⟨B.exec, B.bytes, hml, findClass_of_methodNamed B.named, fun w h => hts w (List.mem_cons_of_mem _ h)⟩ B.returns B.notSynchronized hp (lv_entry av hn)

theorem zofNat {n : Nat} : Int32.ofNat n = iI ((n : Nat) : Int) := (Int32.ofInt_eq_ofNat).symm
set_option maxRecDepth 100000 in
set_option maxHeartbeats 4000000 in
theorem c_Law_cell (l : Launch) (b L : Nat) (xs : Nat → Int32) (hL : L ≤ 7) : Met l y_Law_cell (.code y_Law_cell b_Law_cell 2 ( some FieldType.int ) :: zw) { frames := 0, cells := 0, slots := 0, locals := 0 } (va_Pc [.ref b, .int (iI 0)] (fun U => va_X b L xs U U.heap ∧ b < U.heap.size)) (zR (some (.int (if 0 < L then xs 0 else 0)))) 0 0 (fun _ => False) := by
  refine zMetG (by decide) (Nat.le_of_ble_eq_true rfl) ?_
  intro p e s m below meth c ls S hr hlk ⟨hX, hbl⟩ hl
  have hx := S.1
  have hb := S.2.1
  have hl : lv_has ls 2 [(0, .ref b), (1, .int (iI 0))] := hl
  have hS : va_S (fun _ => False) s.heap s.heap [] := va_S.rf
  refine lv_iload_n hx hb d_Law_cell_0 rfl (lv_at hl 1 rfl) ?_
  refine lv_aload_n hx hb d_Law_cell_1 rfl (lv_at hl 0 rfl) ?_
  refine va_slen hx hb hX hbl (fun h => h) hS d_Law_cell_2 ?_
  refine W.eq (g2 := F0 m 3 ls [.int (iI ((L : Nat) : Int)), .int (iI 0)]) (by rw [zofNat]) ?_
  refine zi_icmp_ge hx hb d_Law_cell_3 rfl ⟨by omega, by omega⟩ ⟨by omega, by omega⟩ (fun h3 => ?_) (fun h3 => ?_)
  · refine zi_iconst hx hb d_Law_cell_12 ?_
    exact zretI S hr hlk d_Law_cell_13 (by rw [if_neg (by omega)]; rfl)
  · refine lv_aload_n hx hb d_Law_cell_6 rfl (lv_at hl 0 rfl) ?_
    refine lv_iload_n hx hb d_Law_cell_7 rfl (lv_at hl 1 rfl) ?_
    refine va_sld hx hb hX hbl (fun h => h) hS (iI_in (by omega) (by omega) (by omega)) d_Law_cell_8 ?_
    refine lv_goto hx hb d_Law_cell_9 rfl ?_
    exact zretI S hr hlk d_Law_cell_13 (by rw [if_pos (by omega)]; rfl)

section ZLR
variable {p : Program} {l : Launch} {e : Env} {R : Room} {s : State} {m : MethodId} {args : Array Value} {below : List Frame} {meth : Method} {c : Code} {H : Heap} {locs : List Loc} {cells slots : Nat} {Q : State → Prop} {cc : ByteArray} {pc nL : Nat} {ls : Array Slot} {rest : List Value} {own : String} {A : Nat → Prop} {H0 : Heap}
theorem zlald0 {E : zP} {ou : Nat} {z : Int64} (hx : p.tables.exec = Jvm.exec) (hb : c.code = cc) (hE : zE E s H) (hO : zOu E ou z H) (hd : decode cc pc = .ok (.laload, 1)) (kk : W p l e R s m args below meth c H locs cells slots Q (F0 m (pc + 1) ls (.long z :: rest))) : W p l e R s m args below meth c H locs cells slots Q (F0 m pc ls (.int (iI 0) :: .ref ou :: rest)) :=
  va_lald hx hb hE.1 (zP1 hO) 0 3 rfl rfl (iI_in (n := 1) (by decide) (by decide) (by decide)) hd kk
end ZLR
theorem zA_kept {E : zP} {ws wc : va_W} {A : Nat → Prop} {H H1 : Heap} (hP : va_P E.1 zcl ws H) (hk : ∀ q : Nat, q < H.size → ¬ A q → H1[q]? = H[q]?) (hn : ∀ (k : Nat) (q : Nat × va_E), ws[k]? = some q → ¬ A q.1) : va_P E.1 zcl ws H1 := hP.kept (fun k q h => hk q.1 (hP k q h).lt (hn k q h))

theorem zlaw_out {p : Program} {l : Launch} {e : Env} {s : State} {m : MethodId} {below : List Frame} {meth : Method} {c : Code} {b L : Nat} {xs : Nat → Int32} {E : zP} {H : Heap} {locs : List Loc} {cells slots : Nat} {ls : Array Slot} (S : CallFix p m c code 7 s #[Value.ref b] zw "ReplacementWriterLaw") (hr : meth.sig.returnType = ret) (hlk : meth.locks = false) (hEs : E.2.2.2 = s.heap.size) (hX : va_X b L xs s s.heap) (hbl : b < s.heap.size) (hS : va_S (zOld E) s.heap H locs) (hc : cells ≤ 600002) (hsl : slots ≤ 7302198) : W p l e room_1 s m #[Value.ref b] below meth c H locs cells slots (lw_Z below #[Value.ref b] s) (F0 m 695 ls []) := by
  have hx := S.1
  have hb := S.2.1
  have hbA : ¬ zOld E b := by unfold zOld; omega
  refine zi_iconst hx hb d_law_695 ?_
  refine W.eq (g2 := F0 m 696 ls [.int 1]) rfl ?_
  refine va_forget (fun q hq => by have := hS.2.2 q hq; unfold zOld at this; omega) ?_
  refine W.widen hc hsl ?_
  exact lw_ret hx hb hr hlk d_law_696

theorem zlaw_tail {p : Program} {l : Launch} {e : Env} {s : State} {m : MethodId} {below : List Frame} {meth : Method} {c : Code} {b L : Nat} {xs : Nat → Int32} {E : zP} {H : Heap} {locs : List Loc} {cells slots : Nat} {ls : Array Slot} (S : CallFix p m c code 7 s #[Value.ref b] zw "ReplacementWriterLaw") (hr : meth.sig.returnType = ret) (hlk : meth.locks = false) (hEs : E.2.2.2 = s.heap.size) (hX : va_X b L xs s s.heap) (hbl : b < s.heap.size) (hS : va_S (zOld E) s.heap H locs) (hc : cells ≤ 600002) (hsl : slots ≤ 7302198) (hL : L ≤ 7) (hl : lv_has ls 7 [(4, .int (iI 1)), (0, .ref b)]) : W p l e room_1 s m #[Value.ref b] below meth c H locs cells slots (lw_Z below #[Value.ref b] s) (F0 m 689 ls []) := by
  have hx := S.1
  have hb := S.2.1
  have hbA : ¬ zOld E b := by unfold zOld; omega
  refine lv_iinc (k := 0) (v := iI 7) (lv' := [(4, .int (iI 7)), (0, .ref b)]) hx hb d_law_689 hl rfl (by decide) (by decide) rfl (fun ls hl => ?_)
  refine lv_goto hx hb d_law_692 rfl ?_
  refine lv_iload hx hb d_law_33 (lv_at hl 0 rfl) ?_
  refine lv_aload_n hx hb d_law_35 rfl (lv_at hl 1 rfl) ?_
  refine va_slen hx hb hX hbl hbA hS d_law_36 ?_
  refine W.eq (g2 := F0 m 37 ls [.int (iI ((L : Nat) : Int)), .int (iI 7)]) (by rw [zofNat]) ?_
  refine zi_bipush hx hb d_law_37 (by decide) ?_
  refine zi_isub hx hb d_law_39 ?_
  refine zi_icmp_gt hx hb d_law_40 rfl ⟨by omega, by omega⟩ ⟨by omega, by omega⟩ (fun h40 => ?_) (fun h40 => absurd h40 (by omega))
  exact zlaw_out S hr hlk hEs hX hbl hS hc hsl

theorem zsub_mem {ws ws' : va_W} {k : Nat} {q : Nat × va_E} (is : List Nat) (hs : is.filterMap (fun i => ws[i]?) = ws') (h : ws'[k]? = some q) : ∃ i : Nat, ws[i]? = some q := by
  subst hs
  obtain ⟨i, -, hi⟩ := List.mem_filterMap.mp (List.mem_of_getElem? h)
  exact ⟨i, hi⟩
