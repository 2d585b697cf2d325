/-! What holds at the law's entry. -/
theorem zmemT {w : Cond} (i : Nat) (h : tables_1[i]? = some w) : w ∈ lw_tbl := List.mem_append_right _ (List.mem_of_getElem? h)
theorem zmemF {w : Cond} (i : Nat) (h : (flatC (Jvm.Cond.and given_1 narrow_1))[i]? = some w) : w ∈ flatC (Jvm.Cond.and given_1 narrow_1) := List.mem_of_getElem? h
theorem zst_eval {s s' : State} {A0 as : Array Value} {C n d : String} {v : Value} (e1 : s'.vm = s.vm) (e2 : ∀ q : Nat, q < s.heap.size → s'.heap[q]? = s.heap[q]?) (h : (Term.static C n d).eval A0 s none [] s = some v) : (Term.static C n d).eval as s' none [] s' = some v := by
  have hf : s'.fieldNamed? C n d true = s.fieldNamed? C n d true := by simp only [State.fieldNamed?, State.fieldFound?, e1]
  simp only [Term.eval, Option.bind_eq_bind] at h ⊢
  rw [hf]
  cases hx : s.fieldNamed? C n d true with
  | none => rw [hx] at h; cases h
  | some x =>
    obtain ⟨c, k, sl⟩ := x
    rw [hx] at h
    simp only [Option.bind_some] at h ⊢
    cases hk : k.statics with
    | none => rw [hk] at h; cases h
    | some q =>
      rw [hk] at h
      simp only [Option.bind_some] at h ⊢
      cases hc : s.heap[q]? with
      | none => rw [hc] at h; cases h
      | some cell =>
        rw [hc] at h
        rw [e2 q (Array.getElem?_eq_some_iff.mp hc).1, hc]
        exact h
theorem zst_isRef {s s' : State} {A0 as : Array Value} {C n d : String} (e1 : s'.vm = s.vm) (e2 : ∀ q : Nat, q < s.heap.size → s'.heap[q]? = s.heap[q]?) (h : (Cond.isRef (.static C n d)).before A0 s = true) : (Cond.isRef (.static C n d)).before as s' = true := by
  obtain ⟨v, h1, h2⟩ := Cond.isRef_spec h
  have k := zst_eval (as := as) e1 e2 h1
  simp only [Cond.before, Cond.holds, Cond.value, k]
  cases v <;> first | rfl | cases h2
theorem zst_lays {s s' : State} {A0 as : Array Value} {C n d : String} (e1 : s'.vm = s.vm) (e2 : ∀ q : Nat, q < s.heap.size → s'.heap[q]? = s.heap[q]?) (h : (Cond.laysStatic C n d).before A0 s = true) : (Cond.laysStatic C n d).before as s' = true := by
  have hf : s'.fieldFound? C n d = s.fieldFound? C n d := by simp only [State.fieldFound?, e1]
  simp only [Cond.before, Cond.holds, Cond.value, beq_iff_eq] at h ⊢
  rw [hf, e1]
  cases ha : s.vm.findClass C with
  | none => rw [ha] at h; cases h
  | some c =>
    rw [ha] at h
    cases hx : s.fieldFound? C n d with
    | none => rw [hx] at h; cases h
    | some x =>
      obtain ⟨c', k, j, f⟩ := x
      rw [hx] at h
      dsimp only at h ⊢
      cases hk : k.statics with
      | none => rw [hk] at h; cases h
      | some q =>
        rw [hk] at h
        simp only [Option.bind_some] at h ⊢
        cases hc : s.heap[q]? with
        | none => rw [hc] at h; cases h
        | some cell =>
          rw [hc] at h
          rw [e2 q (Array.getElem?_eq_some_iff.mp hc).1, hc]
          exact h
theorem zSX_start {E : zP} {s : State} {A0 : Array Value} (hE : E.2.2.2 = s.heap.size) (h : ∀ w ∈ tables_1 ++ zconj narrow_1, w.before A0 s = true) : zSX E s s.heap := by
  intro as s' e1 e2 w hw
  rw [hE] at e2
  obtain ⟨hm, hk⟩ := List.mem_filter.mp hw
  rw [Bool.and_eq_true, Bool.or_eq_true] at hk
  have h0 := h w hm
  rcases hk.2 with ht | hr
  · have k := Cond.onTables_vm (A := as) (A' := A0) (U := s') (U' := s) s.vm w ht
    have e3 : s'.setVm s.vm = s' := by rw [← e1]; rfl
    have e4 : s.setVm s.vm = s := rfl
    rw [e3, e4] at k
    rw [k]
    exact h0
  · clear hw hm hk
    unfold zisR at hr
    split at hr
    · exact zst_isRef e1 e2 h0
    · exact zst_lays e1 e2 h0
    · cases hr
theorem zconj_flat : ∀ c : Cond, zconj c = flatC c := by
  intro c
  induction c with
  | and a b ha hb => simp only [zconj, flatC, ha, hb]
  | _ => rfl
theorem znotcast {s : State} {args : Array Value} {a b : String} (h : (Cond.not (.castable a b)).before args s = true) : ∃ ca cb : ClassId, s.vm.findClass a = some ca ∧ s.vm.findClass b = some cb ∧ s.vm.assignable ca cb = false := by
  simp only [Cond.before, Cond.holds, Cond.value] at h
  cases ha : s.vm.findClass a with
  | none => simp [ha] at h
  | some ca =>
    cases hb : s.vm.findClass b with
    | none => simp [ha, hb] at h
    | some cb => exact ⟨ca, cb, rfl, rfl, by simpa [ha, hb] using h⟩
theorem zneq {s : State} {args : Array Value} {t u : Term} {x y : Nat} (h : (Cond.not (.eq t u)).before args s = true) (ht : t.eval args s none [] s = some (.ref x)) (hu : u.eval args s none [] s = some (.ref y)) : x ≠ y := by
  intro e
  subst e
  simp [Cond.before, Cond.holds, Cond.value, ht, hu] at h

set_option maxRecDepth 100000 in
set_option maxHeartbeats 4000000 in
theorem zstart {s : State} {b : Nat} (hts : ∀ w ∈ lw_tbl, w.before #[Value.ref b] s = true) (hgv : (Jvm.Cond.and given_1 narrow_1).before #[Value.ref b] s = true) : ∃ E : zP, E.2.2.2 = s.heap.size ∧ zE E s s.heap := by
  have hs := flat_of_before _ hgv
  have hz : ∀ w ∈ zw, w.before #[Value.ref b] s = true := fun w hw => hts w (List.mem_filter.mp hw).1
  have hA : ∀ a : Nat, a < s.heap.size → ¬ (s.heap.size ≤ a) := fun a h q => Nat.not_le.mpr h q
  obtain ⟨c0, i0, k0⟩ := u_known hz i_RW (hz _ zw_40)
  obtain ⟨c1, i1, k1⟩ := u_known hz i_Row (hz _ zw_48)
  obtain ⟨c2, i2, k2⟩ := u_known hz i_Encoding (hz _ zw_122)
  obtain ⟨c3, i3, k3⟩ := u_known hz i_Cases (hz _ zw_134)
  obtain ⟨c4, i4, k4⟩ := u_known hz i_Name (hz _ zw_555)
  obtain ⟨c5, i5, k5⟩ := u_known hz i_Groups (hz _ zw_66)
  obtain ⟨c6, i6, k6⟩ := u_known hz i_Output (hz _ zw_132)
  obtain ⟨c7, i7, k7⟩ := u_known hz i_Escape (hz _ zw_180)
  obtain ⟨c8, i8, k8⟩ := u_known hz i_Writing (hz _ zw_174)
  obtain ⟨c9, i9, k9⟩ := u_known hz i_ArrayList (hz _ zw_74)
  obtain ⟨c10, i10, k10⟩ := u_known hz i_Mod (hz _ zw_865)
  obtain ⟨c11, i11, k11⟩ := u_known hz i_Table (hz _ zw_871)
  obtain ⟨c12, i12, k12⟩ := u_known hz i_Template (hz _ zw_919)
  obtain ⟨c13, i13, k13⟩ := u_known hz i_Holder (hz _ zw_970)
  obtain ⟨a0, ka0, cp0, fa0, fb0, fc0⟩ := Cond.arrayClass_spec (hts (.arrayClass .byte) (zmemT 64 (by decide +kernel)))
  obtain ⟨a1, ka1, cp1, fa1, fb1, fc1⟩ := Cond.arrayClass_spec (hts (.arrayClass .boolean) (zmemT 99 (by decide +kernel)))
  obtain ⟨a2, ka2, cp2, fa2, fb2, fc2⟩ := Cond.arrayClass_spec (hts (.arrayClass .int) (zmemT 917 (by decide +kernel)))
  obtain ⟨a3, ka3, cp3, fa3, fb3, fc3⟩ := Cond.arrayClass_spec (hts (.arrayClass .long) (zmemT 1392 (by decide +kernel)))
  have ho4 := hts (.arrayOver (.object "ReplacementWriter$Row")) (zmemT 72 (by decide +kernel))
  have ho5 := hts (.arrayOver (.object "java/lang/Object")) (zmemT 627 (by decide +kernel))
  have ho6 := hts (.arrayOver (.array .int)) (zmemT 976 (by decide +kernel))
  obtain ⟨cp4, a4, ka4, fd4, -, fb4, fc4, fa4⟩ := Cond.arrayOver_spec ho4
  obtain ⟨cp5, a5, ka5, fd5, -, fb5, fc5, fa5⟩ := Cond.arrayOver_spec ho5
  obtain ⟨cp6, a6, ka6, fd6, -, fb6, fc6, fa6⟩ := arrayOverA_spec ho6
  have harr := hs (.arrayOf (.static "ReplacementWriter$Cases" "PAIRS" "[I") .int) (zmemF 9 (by decide +kernel))
  have hlen : (Term.length (.static "ReplacementWriter$Cases" "PAIRS" "[I")).eval #[Value.ref b] s none [] s = some (.int (Int32.ofNat 90)) := by
    obtain ⟨y, h1, h2⟩ := Cond.eq_one (hs (.eq (.length (.static "ReplacementWriter$Cases" "PAIRS" "[I")) (.int 90)) (zmemF 10 (by decide +kernel)))
    cases h2
    exact h1
  have hrun : (List.range 90).map (fun j => Cond.eq (.elem (.static "ReplacementWriter$Cases" "PAIRS" "[I") (.int (Int32.ofNat j))) (.int (iI (zpairs.getD j 0)))) = ((flatC (Jvm.Cond.and given_1 narrow_1)).drop 11).take 90 := by decide +kernel
  have hel : ∀ j : Nat, j < 90 → (Term.elem (.static "ReplacementWriter$Cases" "PAIRS" "[I") (.int (Int32.ofNat j))).eval #[Value.ref b] s none [] s = some (.int (iI (zpairs.getD j 0))) := by
    intro j hj
    obtain ⟨y, h1, h2⟩ := Cond.eq_one (hs _ (va_run hrun j hj))
    cases h2
    exact h1
  obtain ⟨t0, ht0, hT⟩ := va_Tof (A := fun q => s.heap.size ≤ q) (f := fun j => .int (iI (zpairs.getD j 0))) (by decide) harr hlen hel hA
  obtain ⟨t1, -, -, -, ht1, -⟩ := Cond.exactly_spec (hs (.exactly (.static "ReplacementWriter$Turn" "AS_IT_IS" "LReplacementWriter$Turn;") "ReplacementWriter$Turn") (zmemF 101 (by decide +kernel)))
  obtain ⟨t2, -, -, -, ht2, -⟩ := Cond.exactly_spec (hs (.exactly (.static "ReplacementWriter$Turn" "UPPER" "LReplacementWriter$Turn;") "ReplacementWriter$Turn") (zmemF 105 (by decide +kernel)))
  obtain ⟨t3, -, -, -, ht3, -⟩ := Cond.exactly_spec (hs (.exactly (.static "ReplacementWriter$Turn" "LOWER" "LReplacementWriter$Turn;") "ReplacementWriter$Turn") (zmemF 108 (by decide +kernel)))
  have hn12 := zneq (hs (.not (.eq (.static "ReplacementWriter$Turn" "AS_IT_IS" "LReplacementWriter$Turn;") (.static "ReplacementWriter$Turn" "UPPER" "LReplacementWriter$Turn;"))) (zmemF 107 (by decide +kernel))) ht1 ht2
  have hn13 := zneq (hs (.not (.eq (.static "ReplacementWriter$Turn" "AS_IT_IS" "LReplacementWriter$Turn;") (.static "ReplacementWriter$Turn" "LOWER" "LReplacementWriter$Turn;"))) (zmemF 110 (by decide +kernel))) ht1 ht3
  have hn23 := zneq (hs (.not (.eq (.static "ReplacementWriter$Turn" "UPPER" "LReplacementWriter$Turn;") (.static "ReplacementWriter$Turn" "LOWER" "LReplacementWriter$Turn;"))) (zmemF 111 (by decide +kernel))) ht2 ht3
  obtain ⟨t4, -, cell4, -, ht4, -, hc4, -⟩ := Cond.exactly_spec (hs (.exactly (.static "java/util/ArrayList" "DEFAULTCAPACITY_EMPTY_ELEMENTDATA" "[Ljava/lang/Object;") "[Ljava/lang/Object;") (zmemF 6 (by decide +kernel)))
  have hnc := znotcast (hs (.not (.castable "java/lang/UnsupportedOperationException" "java/lang/IllegalArgumentException")) (zmemF 156 (by decide +kernel)))
  refine ⟨((fun c => [c0, c1, c2, c3, c4, c5, c6, c7, c8, c9, c10, c11, c12, c13].getD c 0, fun c => [i0, i1, i2, i3, i4, i5, i6, i7, i8, i9, i10, i11, i12, i13].getD c (fun _ => 0)), (fun k => [a0, a1, a2, a3, a4, a5, a6].getD k 0), (fun k => [t0, t1, t2, t3, t4].getD k 0), s.heap.size), rfl, ⟨?_, ?_⟩, Nat.le_refl _, ⟨?_, ?_, ?_, ?_, ?_, hnc, va_AO.of ho4, va_AO.of ho5, ho6⟩, ?_, hT, ?_, ?_, ?_, hn12, hn13, hn23, ?_, ?_, ?_⟩
  · intro c q hq
    match c, hq with
    | 0, h => obtain rfl := Option.some.inj h; exact k0
    | 1, h => obtain rfl := Option.some.inj h; exact k1
    | 2, h => obtain rfl := Option.some.inj h; exact k2
    | 3, h => obtain rfl := Option.some.inj h; exact k3
    | 4, h => obtain rfl := Option.some.inj h; exact k4
    | 5, h => obtain rfl := Option.some.inj h; exact k5
    | 6, h => obtain rfl := Option.some.inj h; exact k6
    | 7, h => obtain rfl := Option.some.inj h; exact k7
    | 8, h => obtain rfl := Option.some.inj h; exact k8
    | 9, h => obtain rfl := Option.some.inj h; exact k9
    | 10, h => obtain rfl := Option.some.inj h; exact k10
    | 11, h => obtain rfl := Option.some.inj h; exact k11
    | 12, h => obtain rfl := Option.some.inj h; exact k12
    | 13, h => obtain rfl := Option.some.inj h; exact k13
    | (n + 14), h => exact absurd h (by simp [zcl])
  · intro k q hq
    match k, hq with
    | 0, h => obtain rfl := Option.some.inj h; exact ⟨fun N z => ⟨(fun k h => by cases h), ka0, fb0, cp0, fc0⟩, fa0⟩
    | 1, h => obtain rfl := Option.some.inj h; exact ⟨fun N z => ⟨(fun k h => by cases h), ka1, fb1, cp1, fc1⟩, fa1⟩
    | 2, h => obtain rfl := Option.some.inj h; exact ⟨fun N z => ⟨(fun k h => by cases h), ka2, fb2, cp2, fc2⟩, fa2⟩
    | 3, h => obtain rfl := Option.some.inj h; exact ⟨fun N z => ⟨(fun k h => by cases h), ka3, fb3, cp3, fc3⟩, fa3⟩
    | 4, h => obtain rfl := Option.some.inj h; exact ⟨fun N z => ⟨(fun k h => by cases h), ka4, fb4, cp4, fc4⟩, ⟨ka4, cp4, fb4, fc4, fd4, fa4⟩⟩
    | 5, h => obtain rfl := Option.some.inj h; exact ⟨fun N z => ⟨(fun k h => by cases h), ka5, fb5, cp5, fc5⟩, ⟨ka5, cp5, fb5, fc5, fd5, fa5⟩⟩
    | 6, h => obtain rfl := Option.some.inj h; exact ⟨fun N z => ⟨(fun k h => by cases h), ka6, fb6, cp6, fc6⟩, fa6⟩
    | (n + 7), h => exact absurd h (by simp)
  · exact va_Nw.of rfl (hts (.fieldLinkNest "ReplacementWriter$Groups" 79 "ReplacementWriter$Name" "group" "I" "ReplacementWriter") (zmemT 566 (by decide +kernel)))
  · exact va_Nw.of rfl (hts (.methodLinkNest "ReplacementWriter" 136 ⟨"ReplacementWriter$Writing", "writePart", "(III)V"⟩ "ReplacementWriter") (zmemT 688 (by decide +kernel)))
  · exact va_Nw.of rfl (hts (.methodLinkNest "ReplacementWriterModel" 27 ⟨"ReplacementWriterModel$Holder", "<init>", "()V"⟩ "ReplacementWriterModel") (zmemT 971 (by decide +kernel)))
  · exact va_Nw.of rfl (hts (.methodLinkNest "ReplacementWriterModel" 116 ⟨"ReplacementWriterModel$Template", "digit", "(I)Z"⟩ "ReplacementWriterModel") (zmemT 1090 (by decide +kernel)))
  · exact va_Nw.of rfl (hts (.methodLinkNest "ReplacementWriterModel" 120 ⟨"ReplacementWriterModel$Template", "wordly", "(I)Z"⟩ "ReplacementWriterModel") (zmemT 1093 (by decide +kernel)))
  · exact va_Zof (hts (.laysStatic "ReplacementWriter$Cases" "PAIRS" "[I") (zmemT 140 (by decide +kernel))) (hts (.initialized "ReplacementWriter$Cases") (zmemT 9 (by decide +kernel))) ht0 hA
  · exact va_Zof (hts (.laysStatic "ReplacementWriter$Turn" "AS_IT_IS" "LReplacementWriter$Turn;") (zmemT 153 (by decide +kernel))) (hts (.initialized "ReplacementWriter$Turn") (zmemT 11 (by decide +kernel))) ht1 hA
  · exact va_Zof (hts (.laysStatic "ReplacementWriter$Turn" "UPPER" "LReplacementWriter$Turn;") (zmemT 678 (by decide +kernel))) (hts (.initialized "ReplacementWriter$Turn") (zmemT 11 (by decide +kernel))) ht2 hA
  · exact va_Zof (hts (.laysStatic "ReplacementWriter$Turn" "LOWER" "LReplacementWriter$Turn;") (zmemT 766 (by decide +kernel))) (hts (.initialized "ReplacementWriter$Turn") (zmemT 11 (by decide +kernel))) ht3 hA
  · exact zSX_start rfl (fun w hw => by
      rcases List.mem_append.mp hw with h | h
      · exact hts w (List.mem_append_right _ h)
      · rw [zconj_flat] at h
        exact hs w (List.mem_append_right _ h))
  · exact va_Zof (hts (.laysStatic "java/util/ArrayList" "DEFAULTCAPACITY_EMPTY_ELEMENTDATA" "[Ljava/lang/Object;") (zmemT 86 (by decide +kernel))) (hts (.initialized "java/util/ArrayList") (zmemT 6 (by decide +kernel))) ht4 hA
  · exact (Array.getElem?_eq_some_iff.mp hc4).1