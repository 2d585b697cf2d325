/-! The law's own calls: the array that takes an answer; what is caught. -/
def zOu (E : zP) (ou : Nat) (z : Int64) (H : Heap) : Prop := va_at E.1 zcl (ou, .inl (E.2.1 3, 1, .inr (.inl (fun _ => z)))) H
def zAw (R : Nat → Prop) (ad : Nat → Nat) (sz ou : Nat) : Nat → Prop := fun q => zAo R ad sz q ∨ q = ou
theorem zAo_old {E : zP} {R : Nat → Prop} {ad : Nat → Nat} {en : Nat → va_E} {H : Heap} (hL : zL E R ad en H) (hE : E.2.2.2 ≤ H.size) : ∀ q, zAo R ad H.size q → zOld E q := by
  rintro q (⟨i, hi, rfl⟩ | hz)
  · exact hL.2.1 i hi
  · exact Nat.le_trans hE hz
theorem zAw_old {E : zP} {R : Nat → Prop} {ad : Nat → Nat} {en : Nat → va_E} {H : Heap} {ou : Nat} (hL : zL E R ad en H) (hE : E.2.2.2 ≤ H.size) (ho : zOld E ou) : ∀ q, zAw R ad H.size ou q → zOld E q := by
  rintro q (h | rfl)
  · exact zAo_old hL hE q h
  · exact ho
theorem zFr_ne {R R' : Nat → Prop} {ad ad' : Nat → Nat} {sz ou : Nat} (hfr : zFr R ad sz R' ad') (hne : ∀ i, R i → ad i ≠ ou) (hlt : ou < sz) : ∀ i, R' i → ad' i ≠ ou := by
  intro i hi e
  rcases hfr i hi with ⟨j, hj, e1⟩ | hz
  · exact hne j hj (e1.symm.trans e)
  · omega
theorem zAo_no {R : Nat → Prop} {ad : Nat → Nat} {sz ou : Nat} (hne : ∀ i, R i → ad i ≠ ou) (hlt : ou < sz) : ¬ zAo R ad sz ou := by
  rintro (⟨i, hi, e⟩ | hz)
  · exact hne i hi e.symm
  · omega
section ZWR
variable {p : Program} {l : Launch} {e : Env} {R : Room} {s : State} {m : MethodId} {args : Array Value} {below : List Frame} {meth : Method} {c : Code} {H : Heap} {locs : List Loc} {cells slots : Nat} {Q : State → Prop} {cc : ByteArray} {pc nL : Nat} {ls : Array Slot} {rest : List Value} {own : String} {A : Nat → Prop} {H0 : Heap}
theorem zlast0 {E : zP} {ou : Nat} {z x : Int64} (hx : p.tables.exec = Jvm.exec) (hb : c.code = cc) (hE : zE E s H) (hO : zOu E ou z H) (hS : va_S A H0 H locs) (hA : A ou) (hd : decode cc pc = .ok (.lastore, 1))
    (kk : ∀ (H1 : Heap) (locs1 : List Loc), zOu E ou x H1 → H1.size = H.size → (∀ q : Nat, q ≠ ou → H1[q]? = H[q]?) → va_S A H0 H1 locs1 → W p l e R s m args below meth c H1 locs1 cells slots Q (F0 m (pc + 1) ls rest)) : W p l e R s m args below meth c H locs cells slots Q (F0 m pc ls (.long x :: .int (iI 0) :: .ref ou :: rest)) := by
  refine W.last hx hb hO ((hE.1.2 3 _ rfl).1 1 (fun _ => .long z)) (fun q => by cases q) (by show ¬ (iI 0 < 0 ∨ (arrV _ _ _).slots.size ≤ _); rw [arrV_size]; exact (show ¬ (iI 0 < 0 ∨ 1 ≤ (iI 0).toNatClampNeg) by decide)) rfl rfl hd fun H1 e1 z1 oq => ?_
  refine kk H1 _ ?_ z1 oq (hS.put z1 oq hA)
  show H1[ou]? = some (vp_cell _ _)
  rw [e1]
  congr 1
-- a handler of another class is passed
theorem zpass {E : zP} {Ts : List Cond} (S : CallFix p m c cc nL s args Ts own) (hE : zE E s H) (hadm : l.admits e) {y : ExceptionTableEntry} (h0 : y.catchType ≠ 0) (hl : Cond.classLink own y.catchType "java/lang/IllegalArgumentException" ∈ Ts) : ∀ cX, s.vm.findClass "java/lang/UnsupportedOperationException" = some cX → RowPassed e.platform s m.cls pc cX y := by
  intro cX hc
  have hpl : e.platform.magicAccessors = ({} : Platform).magicAccessors := by rw [hadm.platform]
  obtain ⟨c', hc', hcl⟩ := Cond.classLink_spec S.2.2.2.1 (S.2.2.2.2 _ hl) e.platform hpl
  obtain ⟨ca, cb, n1, n2, n3⟩ := hE.2.2.1.2.2.2.2.2.1
  cases n1.symm.trans hc
  cases n2.symm.trans hc'
  exact Or.inr ⟨h0, _, hcl, n3⟩
end ZWR

-- what a call of the law finds and leaves
def zLp (E : zP) (own : Bool) (nn : Nat) (ad : Nat → Nat) (en : Nat → va_E) (St : zSp) (C : zCp) (sz ou : Nat) (z0 : Int64) (H : Heap) : Prop := H.size = sz ∧ zSt E own nn ad en St C H ∧ zOu E ou z0 H ∧ (∀ i, zRo own nn i → ad i ≠ ou) ∧ zOld E ou
def zLq (E : zP) (own : Bool) (nn : Nat) (ad : Nat → Nat) (sz ou : Nat) (c : Int) (z : Int64) (own' : Bool) (nn' : Nat) (St' : zSp) (C' : zCp) (v : Option Value) (H : Heap) : Prop := v = some (.int (iI c)) ∧ zOu E ou z H ∧ ∃ (ad' : Nat → Nat) (en' : Nat → va_E), ad' 0 = ad 0 ∧ zFr (zRo own nn) ad sz (zRo own' nn') ad' ∧ zSt E own' nn' ad' en' St' C' H

theorem zcast_IllegalStateException {E : zP} {s : State} {args : Array Value} (hE : zE E s s.heap) : (Cond.castable "java/lang/IllegalStateException" "java/lang/IllegalStateException").before args s = true := hE.more args s rfl (fun _ _ => rfl) _ (List.mem_filter.mpr ⟨List.mem_append_left _ (List.mem_of_getElem? (i := 284) (by decide +kernel)), by decide +kernel⟩)
theorem zcast_IllegalArgumentException {E : zP} {s : State} {args : Array Value} (hE : zE E s s.heap) : (Cond.castable "java/lang/IllegalArgumentException" "java/lang/IllegalArgumentException").before args s = true := hE.more args s rfl (fun _ _ => rfl) _ (List.mem_filter.mpr ⟨List.mem_append_left _ (List.mem_of_getElem? (i := 380) (by decide +kernel)), by decide +kernel⟩)
theorem zcast_UnsupportedOperationException {E : zP} {s : State} {args : Array Value} (hE : zE E s s.heap) : (Cond.castable "java/lang/UnsupportedOperationException" "java/lang/UnsupportedOperationException").before args s = true := hE.more args s rfl (fun _ _ => rfl) _ (List.mem_filter.mpr ⟨List.mem_append_left _ (List.mem_of_getElem? (i := 464) (by decide +kernel)), by decide +kernel⟩)
theorem zcast_IndexOutOfBoundsException {E : zP} {s : State} {args : Array Value} (hE : zE E s s.heap) : (Cond.castable "java/lang/IndexOutOfBoundsException" "java/lang/IndexOutOfBoundsException").before args s = true := hE.more args s rfl (fun _ _ => rfl) _ (List.mem_filter.mpr ⟨List.mem_append_left _ (List.mem_of_getElem? (i := 844) (by decide +kernel)), by decide +kernel⟩)
set_option maxRecDepth 100000 in
set_option maxHeartbeats 4000000 in
theorem w_Law_feed (l : Launch) (E : zP) (own : Bool) (nn : Nat) (ad : Nat → Nat) (en : Nat → va_E) (St : zSp) (C : zCp) (sz ou : Nat) (z0 : Int64) (v1 v2 v3 v4 v5 : Int32) (h20 : St.2.1.length + 20 ≤ 65536) (hz9 : r32 (((St.2.1 ++ sp_four v1 ++ sp_four v2 ++ sp_four v3 ++ sp_four v4 ++ sp_four v5).length : Nat) : Int)) : Met l y_Law_feed (.codeWith y_Law_feed b_Law_feed 8 ( some FieldType.int ) [(0, 16, 19, 13)] :: zw) { frames := 5, cells := ((max C.1 (sp_up (St.2.1.length + 20))) - C.1) / 16, slots := 2 * ((max C.1 (sp_up (St.2.1.length + 20))) - C.1), locals := 128 } (zPc E [.ref (ad 0), .int v1, .int v2, .int v3, .int v4, .int v5, .ref ou] (zLp E own nn ad en St C sz ou z0)) (zW (zLq E own nn ad sz ou 0 (jL (((St.2.1 ++ sp_four v1 ++ sp_four v2 ++ sp_four v3 ++ sp_four v4 ++ sp_four v5).length : Nat) : Int)) own nn (St.1, St.2.1 ++ sp_four v1 ++ sp_four v2 ++ sp_four v3 ++ sp_four v4 ++ sp_four v5, St.2.2) ((max C.1 (sp_up (St.2.1.length + 20))), C.2)) (zAw (zRo own nn) ad sz ou)) (((max C.1 (sp_up (St.2.1.length + 20))) - C.1) / 16) (2 * ((max C.1 (sp_up (St.2.1.length + 20))) - C.1)) (zAw (zRo own nn) ad sz ou) := by
  refine zMetW (by decide) (Nat.le_of_ble_eq_true rfl) ?_
  intro p e s m below meth c ls S hr hlk hnm htab hadm hE ⟨hsz, hst, hou, hne, hoo⟩ hl
  have hx := S.1
  have hb := S.2.1
  have hE0 := hE
  have hl : lv_has ls 8 [(0, .ref (ad 0)), (1, .int v1), (2, .int v2), (3, .int v3), (4, .int v4), (5, .int v5), (6, .ref ou)] := hl
  subst hsz
  have hA0 := zAw_old hst.1 hE.2.1 hoo
  have hS : va_S (zAw (zRo own nn) ad s.heap.size ou) s.heap s.heap [] := va_S.rf
  have a0 := hst.1.2.2 0 (zRo.lo (by decide) (by decide))
  rw [hst.2.2.1] at a0
  refine lv_aload hx hb d_Law_feed_0 (lv_at hl 6 rfl) ?_
  refine zi_iconst hx hb d_Law_feed_2 ?_
  refine lv_aload_n hx hb d_Law_feed_3 rfl (lv_at hl 0 rfl) ?_
  refine lv_iload_n hx hb d_Law_feed_4 rfl (lv_at hl 1 rfl) ?_
  refine lv_iload_n hx hb d_Law_feed_5 rfl (lv_at hl 2 rfl) ?_
  refine lv_iload_n hx hb d_Law_feed_6 rfl (lv_at hl 3 rfl) ?_
  refine lv_iload hx hb d_Law_feed_7 (lv_at hl 4 rfl) ?_
  refine lv_iload hx hb d_Law_feed_9 (lv_at hl 5 rfl) ?_
  refine zcW (va_runV (As := [.int v1, .int v2, .int v3, .int v4, .int v5]) (rest := [.int (iI 0), .ref ou]) S (c2_RW_feed l E own nn ad en St C _ v1 v2 v3 v4 v5 h20) ⟨zcwB (n := 5) S zw_281 zw_1 zw_278 (by decide +kernel) rfl rfl ⟨Nat.le_of_ble_eq_true rfl, Nat.le_of_ble_eq_true rfl⟩, S.2.2.2.2 _ zw_279, S.2.2.2.2 _ zw_280⟩ (zPreV hE a0 rfl ⟨rfl, hst⟩) rfl rfl hl.1 rfl (lv_room (Nat.le_of_ble_eq_true rfl)) d_Law_feed_11 ⟨by (try dsimp only); omega, by (try dsimp only); omega⟩) hS (fun q _ h => Or.inl h) (fun q h => Or.inl h) (fun v H locs hq hz1 hk1 hS => ?_)
  obtain ⟨ad', en', h00, hfr, rfl, hst1⟩ := hq
  have hou1 := hou.kept (hk1 ou hou.lt (zAo_no hne hou.lt))
  refine zl_i2l hx hb d_Law_feed_14 hz9 ?_
  refine zlast0 hx hb (hE0.at hS hA0) hou1 hS (Or.inr rfl) d_Law_feed_15 (fun H locs ho hz2 hk2 hS => ?_)
  have hst1 := hst1.kept (fun i hi => hk2 _ (zFr_ne hfr hne hou.lt i hi)) (fun q9 hq9 => hk2 _ (fun e9 => absurd hoo (by rw [← e9]; unfold zOld; omega)))
  refine lv_goto hx hb d_Law_feed_16 rfl ?_
  refine zi_iconst hx hb d_Law_feed_23 ?_
  exact zwi S hr hlk hS (⟨rfl, ho, ad', en', h00, hfr, hst1⟩) (by (try dsimp only); omega) (by (try dsimp only); omega) d_Law_feed_24

set_option maxRecDepth 100000 in
set_option maxHeartbeats 4000000 in
theorem wx_Law_feed (l : Launch) (htl : ∀ e : Env, l.admits e → e.platform.stackTraces = false) (E : zP) (own : Bool) (nn : Nat) (ad : Nat → Nat) (en : Nat → va_E) (St : zSp) (C : zCp) (sz ou : Nat) (z0 : Int64) (v1 v2 v3 v4 v5 : Int32) (h20 : 65536 < St.2.1.length + 20) : Met l y_Law_feed (.codeWith y_Law_feed b_Law_feed 8 ( some FieldType.int ) [(0, 16, 19, 13)] :: zw) { frames := 8, cells := 1, slots := 6, locals := 106 } (zPc E [.ref (ad 0), .int v1, .int v2, .int v3, .int v4, .int v5, .ref ou] (zLp E own nn ad en St C sz ou z0)) (zW (zLq E own nn ad sz ou 1 z0 own nn St C) (zAw (zRo own nn) ad sz ou)) (1) (6) (zAw (zRo own nn) ad sz ou) := by
  refine zMetW (by decide) (Nat.le_of_ble_eq_true rfl) ?_
  intro p e s m below meth c ls S hr hlk hnm htab hadm hE ⟨hsz, hst, hou, hne, hoo⟩ hl
  have hx := S.1
  have hb := S.2.1
  have hE0 := hE
  have hl : lv_has ls 8 [(0, .ref (ad 0)), (1, .int v1), (2, .int v2), (3, .int v3), (4, .int v4), (5, .int v5), (6, .ref ou)] := hl
  subst hsz
  have hA0 := zAw_old hst.1 hE.2.1 hoo
  have hS : va_S (zAw (zRo own nn) ad s.heap.size ou) s.heap s.heap [] := va_S.rf
  have a0 := hst.1.2.2 0 (zRo.lo (by decide) (by decide))
  rw [hst.2.2.1] at a0
  refine lv_aload hx hb d_Law_feed_0 (lv_at hl 6 rfl) ?_
  refine zi_iconst hx hb d_Law_feed_2 ?_
  refine lv_aload_n hx hb d_Law_feed_3 rfl (lv_at hl 0 rfl) ?_
  refine lv_iload_n hx hb d_Law_feed_4 rfl (lv_at hl 1 rfl) ?_
  refine lv_iload_n hx hb d_Law_feed_5 rfl (lv_at hl 2 rfl) ?_
  refine lv_iload_n hx hb d_Law_feed_6 rfl (lv_at hl 3 rfl) ?_
  refine lv_iload hx hb d_Law_feed_7 (lv_at hl 4 rfl) ?_
  refine lv_iload hx hb d_Law_feed_9 (lv_at hl 5 rfl) ?_
  refine zcX (As := [.int v1, .int v2, .int v3, .int v4, .int v5]) (rest := [.int (iI 0), .ref ou]) (pre := []) (rst := []) (xe := ⟨0, 16, 19, 13⟩) (name := "java/lang/IllegalStateException") S (cx2_RW_feed l htl E own nn ad en St C _ v1 v2 v3 v4 v5 h20) ⟨zcwB (n := 5) S zw_281 zw_1 zw_278 (by decide +kernel) rfl rfl ⟨Nat.le_of_ble_eq_true rfl, Nat.le_of_ble_eq_true rfl⟩, S.2.2.2.2 _ zw_279, S.2.2.2.2 _ zw_280⟩ (zPreV hE a0 rfl ⟨rfl, hst⟩) rfl hl.1 rfl (lv_room (Nat.le_of_ble_eq_true rfl)) d_Law_feed_11 ⟨by (try dsimp only); omega, by (try dsimp only); omega⟩ (by rw [htab]; rfl) (fun _ _ z hz => nomatch hz) rfl (by decide) (S.2.2.2.2 _ zw_277) (zcast_IllegalStateException hE) hS (fun q _ h => Or.inl h) (fun q h => Or.inl h) (fun x9 H locs hq hz1 hk1 hS => ?_)
  have hou1 := hou.kept (hk1 ou hou.lt (zAo_no hne hou.lt))
  refine lv_astore (lv' := [(7, .ref x9), (0, .ref (ad 0)), (1, .int v1), (2, .int v2), (3, .int v3), (4, .int v4), (5, .int v5), (6, .ref ou)]) hx hb d_Law_feed_19 hl (by decide) rfl (fun ls hl => ?_)
  refine zi_iconst hx hb d_Law_feed_21 ?_
  exact zwi S hr hlk hS (⟨rfl, hou1, ad, en, rfl, zFr_rfl, hq⟩) (by (try dsimp only); omega) (by (try dsimp only); omega) d_Law_feed_22

set_option maxRecDepth 100000 in
set_option maxHeartbeats 4000000 in
theorem w_Law_end (l : Launch) (E : zP) (own : Bool) (nn : Nat) (ad : Nat → Nat) (en : Nat → va_E) (St : zSp) (C : zCp) (sz ou : Nat) (z0 : Int64) (n0 : Nat) (hn : n0 ≤ St.2.1.length) (hz9 : r32 ((n0 : Nat) : Int)) : Met l y_Law_end (.codeWith y_Law_end b_Law_end 4 ( some FieldType.int ) [(0, 9, 12, 19)] :: zw) { frames := 2, cells := 0, slots := 0, locals := 42 } (zPc E [.ref (ad 0), .int (iI ((n0 : Nat) : Int)), .ref ou] (zLp E own nn ad en St C sz ou z0)) (zW (zLq E own nn ad sz ou 0 (jL ((n0 : Nat) : Int)) own nn (St.1, St.2.1.take n0, St.2.2) C) (zAw (zRo own nn) ad sz ou)) (0) (0) (zAw (zRo own nn) ad sz ou) := by
  refine zMetW (by decide) (Nat.le_of_ble_eq_true rfl) ?_
  intro p e s m below meth c ls S hr hlk hnm htab hadm hE ⟨hsz, hst, hou, hne, hoo⟩ hl
  have hx := S.1
  have hb := S.2.1
  have hE0 := hE
  have hl : lv_has ls 4 [(0, .ref (ad 0)), (1, .int (iI ((n0 : Nat) : Int))), (2, .ref ou)] := hl
  subst hsz
  have hA0 := zAw_old hst.1 hE.2.1 hoo
  have hS : va_S (zAw (zRo own nn) ad s.heap.size ou) s.heap s.heap [] := va_S.rf
  have a0 := hst.1.2.2 0 (zRo.lo (by decide) (by decide))
  rw [hst.2.2.1] at a0
  refine lv_aload_n hx hb d_Law_end_0 rfl (lv_at hl 2 rfl) ?_
  refine zi_iconst hx hb d_Law_end_1 ?_
  refine lv_aload_n hx hb d_Law_end_2 rfl (lv_at hl 0 rfl) ?_
  refine lv_iload_n hx hb d_Law_end_3 rfl (lv_at hl 1 rfl) ?_
  refine zcW (va_runV (As := [.int (iI ((n0 : Nat) : Int))]) (rest := [.int (iI 0), .ref ou]) S (c2_RW_end l E own nn ad en St C _ n0 hn) ⟨zcwB (n := 1) S zw_377 zw_1 zw_374 (by decide +kernel) rfl rfl ⟨Nat.le_of_ble_eq_true rfl, Nat.le_of_ble_eq_true rfl⟩, S.2.2.2.2 _ zw_375, S.2.2.2.2 _ zw_376⟩ (zPreV hE a0 rfl ⟨rfl, hst⟩) rfl rfl hl.1 rfl (lv_room (Nat.le_of_ble_eq_true rfl)) d_Law_end_4 ⟨by (try dsimp only); omega, by (try dsimp only); omega⟩) hS (fun q _ h => Or.inl h) (fun q h => Or.inl h) (fun v H locs hq hz1 hk1 hS => ?_)
  obtain ⟨ad', en', h00, hfr, rfl, hst1⟩ := hq
  have hou1 := hou.kept (hk1 ou hou.lt (zAo_no hne hou.lt))
  refine zl_i2l hx hb d_Law_end_7 hz9 ?_
  refine zlast0 hx hb (hE0.at hS hA0) hou1 hS (Or.inr rfl) d_Law_end_8 (fun H locs ho hz2 hk2 hS => ?_)
  have hst1 := hst1.kept (fun i hi => hk2 _ (zFr_ne hfr hne hou.lt i hi)) (fun q9 hq9 => hk2 _ (fun e9 => absurd hoo (by rw [← e9]; unfold zOld; omega)))
  refine lv_goto hx hb d_Law_end_9 rfl ?_
  refine zi_iconst hx hb d_Law_end_15 ?_
  exact zwi S hr hlk hS (⟨rfl, ho, ad', en', h00, hfr, hst1⟩) (by (try dsimp only); omega) (by (try dsimp only); omega) d_Law_end_16

set_option maxRecDepth 100000 in
set_option maxHeartbeats 4000000 in
theorem wx_Law_end (l : Launch) (htl : ∀ e : Env, l.admits e → e.platform.stackTraces = false) (E : zP) (own : Bool) (nn : Nat) (ad : Nat → Nat) (en : Nat → va_E) (St : zSp) (C : zCp) (sz ou : Nat) (z0 : Int64) (k0 : Int) (hk0 : r32 k0) (hn : k0 < 0 ∨ ((St.2.1.length : Nat) : Int) < k0) : Met l y_Law_end (.codeWith y_Law_end b_Law_end 4 ( some FieldType.int ) [(0, 9, 12, 19)] :: zw) { frames := 8, cells := 1, slots := 6, locals := 102 } (zPc E [.ref (ad 0), .int (iI k0), .ref ou] (zLp E own nn ad en St C sz ou z0)) (zW (zLq E own nn ad sz ou 1 z0 own nn St C) (zAw (zRo own nn) ad sz ou)) (1) (6) (zAw (zRo own nn) ad sz ou) := by
  refine zMetW (by decide) (Nat.le_of_ble_eq_true rfl) ?_
  intro p e s m below meth c ls S hr hlk hnm htab hadm hE ⟨hsz, hst, hou, hne, hoo⟩ hl
  have hx := S.1
  have hb := S.2.1
  have hE0 := hE
  have hl : lv_has ls 4 [(0, .ref (ad 0)), (1, .int (iI k0)), (2, .ref ou)] := hl
  subst hsz
  have hA0 := zAw_old hst.1 hE.2.1 hoo
  have hS : va_S (zAw (zRo own nn) ad s.heap.size ou) s.heap s.heap [] := va_S.rf
  have a0 := hst.1.2.2 0 (zRo.lo (by decide) (by decide))
  rw [hst.2.2.1] at a0
  refine lv_aload_n hx hb d_Law_end_0 rfl (lv_at hl 2 rfl) ?_
  refine zi_iconst hx hb d_Law_end_1 ?_
  refine lv_aload_n hx hb d_Law_end_2 rfl (lv_at hl 0 rfl) ?_
  refine lv_iload_n hx hb d_Law_end_3 rfl (lv_at hl 1 rfl) ?_
  refine zcX (As := [.int (iI k0)]) (rest := [.int (iI 0), .ref ou]) (pre := []) (rst := []) (xe := ⟨0, 9, 12, 19⟩) (name := "java/lang/IllegalArgumentException") S (cx2_RW_end l htl E own nn ad en St C _ k0 hk0 hn) ⟨zcwB (n := 1) S zw_377 zw_1 zw_374 (by decide +kernel) rfl rfl ⟨Nat.le_of_ble_eq_true rfl, Nat.le_of_ble_eq_true rfl⟩, S.2.2.2.2 _ zw_375, S.2.2.2.2 _ zw_376⟩ (zPreV hE a0 rfl ⟨rfl, hst⟩) rfl hl.1 rfl (lv_room (Nat.le_of_ble_eq_true rfl)) d_Law_end_4 ⟨by (try dsimp only); omega, by (try dsimp only); omega⟩ (by rw [htab]; rfl) (fun _ _ z hz => nomatch hz) rfl (by decide) (S.2.2.2.2 _ zw_373) (zcast_IllegalArgumentException hE) hS (fun q _ h => Or.inl h) (fun q h => Or.inl h) (fun x9 H locs hq hz1 hk1 hS => ?_)
  have hou1 := hou.kept (hk1 ou hou.lt (zAo_no hne hou.lt))
  refine lv_astore_n (lv' := [(3, .ref x9), (0, .ref (ad 0)), (1, .int (iI k0)), (2, .ref ou)]) hx hb d_Law_end_12 rfl hl (by decide) rfl (fun ls hl => ?_)
  refine zi_iconst hx hb d_Law_end_13 ?_
  exact zwi S hr hlk hS (⟨rfl, hou1, ad, en, rfl, zFr_rfl, hq⟩) (by (try dsimp only); omega) (by (try dsimp only); omega) d_Law_end_14

set_option maxRecDepth 100000 in
set_option maxHeartbeats 4000000 in
theorem w_Law_groups (l : Launch) (E : zP) (own : Bool) (nn : Nat) (ad : Nat → Nat) (en : Nat → va_E) (St : zSp) (C : zCp) (sz ou : Nat) (z0 : Int64) (n0 : Nat) (hn : n0 ≤ 99) : Met l y_Law_groups (.codeWith y_Law_groups b_Law_groups 3 ( some FieldType.int ) [(0, 5, 8, 19)] :: zw) { frames := 3, cells := 0, slots := 0, locals := 66 } (zPc E [.ref (ad 0), .int (iI ((n0 : Nat) : Int))] (zLp E own nn ad en St C sz ou z0)) (zW (zLq E own nn ad sz ou 0 z0 own 0 (St.1, St.2.1, ((n0, fun _ => none, [], []), 0), St.2.2.2) C) (zAw (zRo own nn) ad sz ou)) (0) (0) (zAw (zRo own nn) ad sz ou) := by
  refine zMetW (by decide) (Nat.le_of_ble_eq_true rfl) ?_
  intro p e s m below meth c ls S hr hlk hnm htab hadm hE ⟨hsz, hst, hou, hne, hoo⟩ hl
  have hx := S.1
  have hb := S.2.1
  have hE0 := hE
  have hl : lv_has ls 3 [(0, .ref (ad 0)), (1, .int (iI ((n0 : Nat) : Int)))] := hl
  subst hsz
  have hA0 := zAw_old hst.1 hE.2.1 hoo
  have hS : va_S (zAw (zRo own nn) ad s.heap.size ou) s.heap s.heap [] := va_S.rf
  have a0 := hst.1.2.2 0 (zRo.lo (by decide) (by decide))
  rw [hst.2.2.1] at a0
  refine lv_aload_n hx hb d_Law_groups_0 rfl (lv_at hl 0 rfl) ?_
  refine lv_iload_n hx hb d_Law_groups_1 rfl (lv_at hl 1 rfl) ?_
  refine zcW (va_runV (As := [.int (iI ((n0 : Nat) : Int))]) (rest := []) S (c2_RW_groups l E own nn ad en St C _ n0 hn) ⟨zcwB (n := 1) S zw_403 zw_1 zw_400 (by decide +kernel) rfl rfl ⟨Nat.le_of_ble_eq_true rfl, Nat.le_of_ble_eq_true rfl⟩, S.2.2.2.2 _ zw_401, S.2.2.2.2 _ zw_402⟩ (zPreV hE a0 rfl ⟨rfl, hst⟩) rfl rfl hl.1 rfl (lv_room (Nat.le_of_ble_eq_true rfl)) d_Law_groups_2 ⟨by (try dsimp only); omega, by (try dsimp only); omega⟩) hS (fun q _ h => Or.inl h) (fun q h => Or.inl h) (fun v H locs hq hz1 hk1 hS => ?_)
  obtain ⟨ad', en', h00, hfr, rfl, hst1⟩ := hq
  have hou1 := hou.kept (hk1 ou hou.lt (zAo_no hne hou.lt))
  refine lv_goto hx hb d_Law_groups_5 rfl ?_
  refine zi_iconst hx hb d_Law_groups_11 ?_
  exact zwi S hr hlk hS (⟨rfl, hou1, ad', en', h00, hfr, hst1⟩) (by (try dsimp only); omega) (by (try dsimp only); omega) d_Law_groups_12

set_option maxRecDepth 100000 in
set_option maxHeartbeats 4000000 in
theorem wx_Law_groups (l : Launch) (htl : ∀ e : Env, l.admits e → e.platform.stackTraces = false) (E : zP) (own : Bool) (nn : Nat) (ad : Nat → Nat) (en : Nat → va_E) (St : zSp) (C : zCp) (sz ou : Nat) (z0 : Int64) (k0 : Int) (hk0 : r32 k0) (hk : k0 < 0 ∨ 99 < k0) : Met l y_Law_groups (.codeWith y_Law_groups b_Law_groups 3 ( some FieldType.int ) [(0, 5, 8, 19)] :: zw) { frames := 8, cells := 1, slots := 6, locals := 102 } (zPc E [.ref (ad 0), .int (iI k0)] (zLp E own nn ad en St C sz ou z0)) (zW (zLq E own nn ad sz ou 1 z0 own nn St C) (zAw (zRo own nn) ad sz ou)) (1) (6) (zAw (zRo own nn) ad sz ou) := by
  refine zMetW (by decide) (Nat.le_of_ble_eq_true rfl) ?_
  intro p e s m below meth c ls S hr hlk hnm htab hadm hE ⟨hsz, hst, hou, hne, hoo⟩ hl
  have hx := S.1
  have hb := S.2.1
  have hE0 := hE
  have hl : lv_has ls 3 [(0, .ref (ad 0)), (1, .int (iI k0))] := hl
  subst hsz
  have hA0 := zAw_old hst.1 hE.2.1 hoo
  have hS : va_S (zAw (zRo own nn) ad s.heap.size ou) s.heap s.heap [] := va_S.rf
  have a0 := hst.1.2.2 0 (zRo.lo (by decide) (by decide))
  rw [hst.2.2.1] at a0
  refine lv_aload_n hx hb d_Law_groups_0 rfl (lv_at hl 0 rfl) ?_
  refine lv_iload_n hx hb d_Law_groups_1 rfl (lv_at hl 1 rfl) ?_
  refine zcX (As := [.int (iI k0)]) (rest := []) (pre := []) (rst := []) (xe := ⟨0, 5, 8, 19⟩) (name := "java/lang/IllegalArgumentException") S (cx2_RW_groups l htl E own nn ad en St C _ k0 hk0 hk) ⟨zcwB (n := 1) S zw_403 zw_1 zw_400 (by decide +kernel) rfl rfl ⟨Nat.le_of_ble_eq_true rfl, Nat.le_of_ble_eq_true rfl⟩, S.2.2.2.2 _ zw_401, S.2.2.2.2 _ zw_402⟩ (zPreV hE a0 rfl ⟨rfl, hst⟩) rfl hl.1 rfl (lv_room (Nat.le_of_ble_eq_true rfl)) d_Law_groups_2 ⟨by (try dsimp only); omega, by (try dsimp only); omega⟩ (by rw [htab]; rfl) (fun _ _ z hz => nomatch hz) rfl (by decide) (S.2.2.2.2 _ zw_373) (zcast_IllegalArgumentException hE) hS (fun q _ h => Or.inl h) (fun q h => Or.inl h) (fun x9 H locs hq hz1 hk1 hS => ?_)
  have hou1 := hou.kept (hk1 ou hou.lt (zAo_no hne hou.lt))
  refine lv_astore_n (lv' := [(2, .ref x9), (0, .ref (ad 0)), (1, .int (iI k0))]) hx hb d_Law_groups_8 rfl hl (by decide) rfl (fun ls hl => ?_)
  refine zi_iconst hx hb d_Law_groups_9 ?_
  exact zwi S hr hlk hS (⟨rfl, hou1, ad, en, rfl, zFr_rfl, hq⟩) (by (try dsimp only); omega) (by (try dsimp only); omega) d_Law_groups_10

set_option maxRecDepth 100000 in
set_option maxHeartbeats 4000000 in
theorem w_Law_unset (l : Launch) (E : zP) (own : Bool) (nn : Nat) (ad : Nat → Nat) (en : Nat → va_E) (St : zSp) (C : zCp) (sz ou : Nat) (z0 : Int64) (n0 : Nat) (hn : n0 < 100) (hG : n0 ≤ St.2.2.1.1.1) : Met l y_Law_unset (.codeWith y_Law_unset b_Law_unset 3 ( some FieldType.int ) [(0, 5, 8, 19)] :: zw) { frames := 2, cells := 0, slots := 0, locals := 42 } (zPc E [.ref (ad 0), .int (iI ((n0 : Nat) : Int))] (zLp E own nn ad en St C sz ou z0)) (zW (zLq E own nn ad sz ou 0 z0 own nn (St.1, St.2.1, ((St.2.2.1.1.1, fun i => if i = n0 then none else St.2.2.1.1.2.1 i, St.2.2.1.1.2.2), St.2.2.1.2), St.2.2.2) C) (zAw (zRo own nn) ad sz ou)) (0) (0) (zAw (zRo own nn) ad sz ou) := by
  refine zMetW (by decide) (Nat.le_of_ble_eq_true rfl) ?_
  intro p e s m below meth c ls S hr hlk hnm htab hadm hE ⟨hsz, hst, hou, hne, hoo⟩ hl
  have hx := S.1
  have hb := S.2.1
  have hE0 := hE
  have hl : lv_has ls 3 [(0, .ref (ad 0)), (1, .int (iI ((n0 : Nat) : Int)))] := hl
  subst hsz
  have hA0 := zAw_old hst.1 hE.2.1 hoo
  have hS : va_S (zAw (zRo own nn) ad s.heap.size ou) s.heap s.heap [] := va_S.rf
  have a0 := hst.1.2.2 0 (zRo.lo (by decide) (by decide))
  rw [hst.2.2.1] at a0
  refine lv_aload_n hx hb d_Law_unset_0 rfl (lv_at hl 0 rfl) ?_
  refine lv_iload_n hx hb d_Law_unset_1 rfl (lv_at hl 1 rfl) ?_
  refine zcW (va_runV (As := [.int (iI ((n0 : Nat) : Int))]) (rest := []) S (c2_RW_unset l E own nn ad en St C _ n0 hn hG) ⟨zcwB (n := 1) S zw_500 zw_1 zw_497 (by decide +kernel) rfl rfl ⟨Nat.le_of_ble_eq_true rfl, Nat.le_of_ble_eq_true rfl⟩, S.2.2.2.2 _ zw_498, S.2.2.2.2 _ zw_499⟩ (zPreV hE a0 rfl ⟨rfl, hst⟩) rfl rfl hl.1 rfl (lv_room (Nat.le_of_ble_eq_true rfl)) d_Law_unset_2 ⟨by (try dsimp only); omega, by (try dsimp only); omega⟩) hS (fun q _ h => Or.inl h) (fun q h => Or.inl h) (fun v H locs hq hz1 hk1 hS => ?_)
  obtain ⟨ad', en', h00, hfr, rfl, hst1⟩ := hq
  have hou1 := hou.kept (hk1 ou hou.lt (zAo_no hne hou.lt))
  refine lv_goto hx hb d_Law_unset_5 rfl ?_
  refine zi_iconst hx hb d_Law_unset_11 ?_
  exact zwi S hr hlk hS (⟨rfl, hou1, ad', en', h00, hfr, hst1⟩) (by (try dsimp only); omega) (by (try dsimp only); omega) d_Law_unset_12

set_option maxRecDepth 100000 in
set_option maxHeartbeats 4000000 in
theorem wx_Law_unset (l : Launch) (htl : ∀ e : Env, l.admits e → e.platform.stackTraces = false) (E : zP) (own : Bool) (nn : Nat) (ad : Nat → Nat) (en : Nat → va_E) (St : zSp) (C : zCp) (sz ou : Nat) (z0 : Int64) (k0 : Int) (hk0 : r32 k0) (hk : k0 < 0 ∨ ((St.2.2.1.1.1 : Nat) : Int) < k0) : Met l y_Law_unset (.codeWith y_Law_unset b_Law_unset 3 ( some FieldType.int ) [(0, 5, 8, 19)] :: zw) { frames := 8, cells := 1, slots := 6, locals := 102 } (zPc E [.ref (ad 0), .int (iI k0)] (zLp E own nn ad en St C sz ou z0)) (zW (zLq E own nn ad sz ou 1 z0 own nn St C) (zAw (zRo own nn) ad sz ou)) (1) (6) (zAw (zRo own nn) ad sz ou) := by
  refine zMetW (by decide) (Nat.le_of_ble_eq_true rfl) ?_
  intro p e s m below meth c ls S hr hlk hnm htab hadm hE ⟨hsz, hst, hou, hne, hoo⟩ hl
  have hx := S.1
  have hb := S.2.1
  have hE0 := hE
  have hl : lv_has ls 3 [(0, .ref (ad 0)), (1, .int (iI k0))] := hl
  subst hsz
  have hA0 := zAw_old hst.1 hE.2.1 hoo
  have hS : va_S (zAw (zRo own nn) ad s.heap.size ou) s.heap s.heap [] := va_S.rf
  have a0 := hst.1.2.2 0 (zRo.lo (by decide) (by decide))
  rw [hst.2.2.1] at a0
  refine lv_aload_n hx hb d_Law_unset_0 rfl (lv_at hl 0 rfl) ?_
  refine lv_iload_n hx hb d_Law_unset_1 rfl (lv_at hl 1 rfl) ?_
  refine zcX (As := [.int (iI k0)]) (rest := []) (pre := []) (rst := []) (xe := ⟨0, 5, 8, 19⟩) (name := "java/lang/IllegalArgumentException") S (cx2_RW_unset l htl E own nn ad en St C _ k0 hk0 hk) ⟨zcwB (n := 1) S zw_500 zw_1 zw_497 (by decide +kernel) rfl rfl ⟨Nat.le_of_ble_eq_true rfl, Nat.le_of_ble_eq_true rfl⟩, S.2.2.2.2 _ zw_498, S.2.2.2.2 _ zw_499⟩ (zPreV hE a0 rfl ⟨rfl, hst⟩) rfl hl.1 rfl (lv_room (Nat.le_of_ble_eq_true rfl)) d_Law_unset_2 ⟨by (try dsimp only); omega, by (try dsimp only); omega⟩ (by rw [htab]; rfl) (fun _ _ z hz => nomatch hz) rfl (by decide) (S.2.2.2.2 _ zw_373) (zcast_IllegalArgumentException hE) hS (fun q _ h => Or.inl h) (fun q h => Or.inl h) (fun x9 H locs hq hz1 hk1 hS => ?_)
  have hou1 := hou.kept (hk1 ou hou.lt (zAo_no hne hou.lt))
  refine lv_astore_n (lv' := [(2, .ref x9), (0, .ref (ad 0)), (1, .int (iI k0))]) hx hb d_Law_unset_8 rfl hl (by decide) rfl (fun ls hl => ?_)
  refine zi_iconst hx hb d_Law_unset_9 ?_
  exact zwi S hr hlk hS (⟨rfl, hou1, ad, en, rfl, zFr_rfl, hq⟩) (by (try dsimp only); omega) (by (try dsimp only); omega) d_Law_unset_10

set_option maxRecDepth 100000 in
set_option maxHeartbeats 4000000 in
theorem w_Law_set (l : Launch) (E : zP) (own : Bool) (nn : Nat) (ad : Nat → Nat) (en : Nat → va_E) (St : zSp) (C : zCp) (sz ou : Nat) (z0 : Int64) (n0 : Nat) (hn : n0 < 100) (hG : n0 ≤ St.2.2.1.1.1) (hok : sp_fault St.1.1 St.2.1 < 0) (hz9 : r32 (((sp_chars St.1.1 St.2.1).length : Nat) : Int)) : Met l y_Law_set (.codeWith y_Law_set b_Law_set 4 ( some FieldType.int ) [(0, 9, 12, 19), (0, 9, 15, 28)] :: zw) { frames := 5, cells := 1, slots := St.2.1.length, locals := 114 } (zPc E [.ref (ad 0), .int (iI ((n0 : Nat) : Int)), .ref ou] (zLp E own nn ad en St C sz ou z0)) (zW (zLq E own nn ad sz ou 0 (jL (((sp_chars St.1.1 St.2.1).length : Nat) : Int)) own nn (St.1, [], ((St.2.2.1.1.1, fun i => if i = n0 then some (sp_chars St.1.1 St.2.1) else St.2.2.1.1.2.1 i, St.2.2.1.1.2.2), St.2.2.1.2), St.2.2.2) (C.1, C.2.1, C.2.2.1, fun i => if i = n0 then max (C.2.2.2 n0) St.2.1.length else C.2.2.2 i)) (zAw (zRo own nn) ad sz ou)) (1) (St.2.1.length) (zAw (zRo own nn) ad sz ou) := by
  refine zMetW (by decide) (Nat.le_of_ble_eq_true rfl) ?_
  intro p e s m below meth c ls S hr hlk hnm htab hadm hE ⟨hsz, hst, hou, hne, hoo⟩ hl
  have hx := S.1
  have hb := S.2.1
  have hE0 := hE
  have hl : lv_has ls 4 [(0, .ref (ad 0)), (1, .int (iI ((n0 : Nat) : Int))), (2, .ref ou)] := hl
  subst hsz
  have hA0 := zAw_old hst.1 hE.2.1 hoo
  have hS : va_S (zAw (zRo own nn) ad s.heap.size ou) s.heap s.heap [] := va_S.rf
  have a0 := hst.1.2.2 0 (zRo.lo (by decide) (by decide))
  rw [hst.2.2.1] at a0
  refine lv_aload_n hx hb d_Law_set_0 rfl (lv_at hl 2 rfl) ?_
  refine zi_iconst hx hb d_Law_set_1 ?_
  refine lv_aload_n hx hb d_Law_set_2 rfl (lv_at hl 0 rfl) ?_
  refine lv_iload_n hx hb d_Law_set_3 rfl (lv_at hl 1 rfl) ?_
  refine zcW (va_runV (As := [.int (iI ((n0 : Nat) : Int))]) (rest := [.int (iI 0), .ref ou]) S (c2_RW_set l E own nn ad en St C _ n0 hn hG hok) ⟨zcwB (n := 1) S zw_420 zw_1 zw_417 (by decide +kernel) rfl rfl ⟨Nat.le_of_ble_eq_true rfl, Nat.le_of_ble_eq_true rfl⟩, S.2.2.2.2 _ zw_418, S.2.2.2.2 _ zw_419⟩ (zPreV hE a0 rfl ⟨rfl, hst⟩) rfl rfl hl.1 rfl (lv_room (Nat.le_of_ble_eq_true rfl)) d_Law_set_4 ⟨by (try dsimp only); omega, by (try dsimp only); omega⟩) hS (fun q _ h => Or.inl h) (fun q h => Or.inl h) (fun v H locs hq hz1 hk1 hS => ?_)
  obtain ⟨ad', en', h00, hfr, rfl, _, rfl, hst1⟩ := hq
  have hou1 := hou.kept (hk1 ou hou.lt (zAo_no hne hou.lt))
  refine zl_i2l hx hb d_Law_set_7 hz9 ?_
  refine zlast0 hx hb (hE0.at hS hA0) hou1 hS (Or.inr rfl) d_Law_set_8 (fun H locs ho hz2 hk2 hS => ?_)
  have hst1 := hst1.kept (fun i hi => hk2 _ (zFr_ne hfr hne hou.lt i hi)) (fun q9 hq9 => hk2 _ (fun e9 => absurd hoo (by rw [← e9]; unfold zOld; omega)))
  refine lv_goto hx hb d_Law_set_9 rfl ?_
  refine zi_iconst hx hb d_Law_set_18 ?_
  exact zwi S hr hlk hS (⟨rfl, ho, ad', en', h00, hfr, hst1⟩) (by (try dsimp only); omega) (by (try dsimp only); omega) d_Law_set_19

set_option maxRecDepth 100000 in
set_option maxHeartbeats 4000000 in
theorem wx_Law_set (l : Launch) (htl : ∀ e : Env, l.admits e → e.platform.stackTraces = false) (E : zP) (own : Bool) (nn : Nat) (ad : Nat → Nat) (en : Nat → va_E) (St : zSp) (C : zCp) (sz ou : Nat) (z0 : Int64) (k0 : Int) (hk0 : r32 k0) (hk : k0 < 0 ∨ ((St.2.2.1.1.1 : Nat) : Int) < k0) : Met l y_Law_set (.codeWith y_Law_set b_Law_set 4 ( some FieldType.int ) [(0, 9, 12, 19), (0, 9, 15, 28)] :: zw) { frames := 8, cells := 1, slots := 6, locals := 102 } (zPc E [.ref (ad 0), .int (iI k0), .ref ou] (zLp E own nn ad en St C sz ou z0)) (zW (zLq E own nn ad sz ou 1 z0 own nn St C) (zAw (zRo own nn) ad sz ou)) (1) (6) (zAw (zRo own nn) ad sz ou) := by
  refine zMetW (by decide) (Nat.le_of_ble_eq_true rfl) ?_
  intro p e s m below meth c ls S hr hlk hnm htab hadm hE ⟨hsz, hst, hou, hne, hoo⟩ hl
  have hx := S.1
  have hb := S.2.1
  have hE0 := hE
  have hl : lv_has ls 4 [(0, .ref (ad 0)), (1, .int (iI k0)), (2, .ref ou)] := hl
  subst hsz
  have hA0 := zAw_old hst.1 hE.2.1 hoo
  have hS : va_S (zAw (zRo own nn) ad s.heap.size ou) s.heap s.heap [] := va_S.rf
  have a0 := hst.1.2.2 0 (zRo.lo (by decide) (by decide))
  rw [hst.2.2.1] at a0
  refine lv_aload_n hx hb d_Law_set_0 rfl (lv_at hl 2 rfl) ?_
  refine zi_iconst hx hb d_Law_set_1 ?_
  refine lv_aload_n hx hb d_Law_set_2 rfl (lv_at hl 0 rfl) ?_
  refine lv_iload_n hx hb d_Law_set_3 rfl (lv_at hl 1 rfl) ?_
  refine zcX (As := [.int (iI k0)]) (rest := [.int (iI 0), .ref ou]) (pre := []) (rst := [⟨0, 9, 15, 28⟩]) (xe := ⟨0, 9, 12, 19⟩) (name := "java/lang/IllegalArgumentException") S (cx2_RW_set l htl E own nn ad en St C _ k0 hk0 hk) ⟨zcwB (n := 1) S zw_420 zw_1 zw_417 (by decide +kernel) rfl rfl ⟨Nat.le_of_ble_eq_true rfl, Nat.le_of_ble_eq_true rfl⟩, S.2.2.2.2 _ zw_418, S.2.2.2.2 _ zw_419⟩ (zPreV hE a0 rfl ⟨rfl, hst⟩) rfl hl.1 rfl (lv_room (Nat.le_of_ble_eq_true rfl)) d_Law_set_4 ⟨by (try dsimp only); omega, by (try dsimp only); omega⟩ (by rw [htab]; rfl) (fun _ _ z hz => nomatch hz) rfl (by decide) (S.2.2.2.2 _ zw_373) (zcast_IllegalArgumentException hE) hS (fun q _ h => Or.inl h) (fun q h => Or.inl h) (fun x9 H locs hq hz1 hk1 hS => ?_)
  have hou1 := hou.kept (hk1 ou hou.lt (zAo_no hne hou.lt))
  refine lv_astore_n (lv' := [(3, .ref x9), (0, .ref (ad 0)), (1, .int (iI k0)), (2, .ref ou)]) hx hb d_Law_set_12 rfl hl (by decide) rfl (fun ls hl => ?_)
  refine zi_iconst hx hb d_Law_set_13 ?_
  exact zwi S hr hlk hS (⟨rfl, hou1, ad, en, rfl, zFr_rfl, hq⟩) (by (try dsimp only); omega) (by (try dsimp only); omega) d_Law_set_14

set_option maxRecDepth 100000 in
set_option maxHeartbeats 4000000 in
theorem wx_Law_set2 (l : Launch) (htl : ∀ e : Env, l.admits e → e.platform.stackTraces = false) (E : zP) (own : Bool) (nn : Nat) (ad : Nat → Nat) (en : Nat → va_E) (St : zSp) (C : zCp) (sz ou : Nat) (z0 : Int64) (n0 : Nat) (hn : n0 < 100) (hG : n0 ≤ St.2.2.1.1.1) (hbad : 0 ≤ sp_fault St.1.1 St.2.1) : Met l y_Law_set (.codeWith y_Law_set b_Law_set 4 ( some FieldType.int ) [(0, 9, 12, 19), (0, 9, 15, 28)] :: zw) { frames := 8, cells := 1, slots := 6, locals := 114 } (zPc E [.ref (ad 0), .int (iI ((n0 : Nat) : Int)), .ref ou] (zLp E own nn ad en St C sz ou z0)) (zW (zLq E own nn ad sz ou 2 z0 own nn (St.1, [], St.2.2) C) (zAw (zRo own nn) ad sz ou)) (1) (6) (zAw (zRo own nn) ad sz ou) := by
  refine zMetW (by decide) (Nat.le_of_ble_eq_true rfl) ?_
  intro p e s m below meth c ls S hr hlk hnm htab hadm hE ⟨hsz, hst, hou, hne, hoo⟩ hl
  have hx := S.1
  have hb := S.2.1
  have hE0 := hE
  have hl : lv_has ls 4 [(0, .ref (ad 0)), (1, .int (iI ((n0 : Nat) : Int))), (2, .ref ou)] := hl
  subst hsz
  have hA0 := zAw_old hst.1 hE.2.1 hoo
  have hS : va_S (zAw (zRo own nn) ad s.heap.size ou) s.heap s.heap [] := va_S.rf
  have a0 := hst.1.2.2 0 (zRo.lo (by decide) (by decide))
  rw [hst.2.2.1] at a0
  refine lv_aload_n hx hb d_Law_set_0 rfl (lv_at hl 2 rfl) ?_
  refine zi_iconst hx hb d_Law_set_1 ?_
  refine lv_aload_n hx hb d_Law_set_2 rfl (lv_at hl 0 rfl) ?_
  refine lv_iload_n hx hb d_Law_set_3 rfl (lv_at hl 1 rfl) ?_
  refine zcX (As := [.int (iI ((n0 : Nat) : Int))]) (rest := [.int (iI 0), .ref ou]) (pre := [⟨0, 9, 12, 19⟩]) (rst := []) (xe := ⟨0, 9, 15, 28⟩) (name := "java/lang/UnsupportedOperationException") S (cx2_RW_set2 l htl E own nn ad en St C _ n0 hn hG hbad) ⟨zcwB (n := 1) S zw_420 zw_1 zw_417 (by decide +kernel) rfl rfl ⟨Nat.le_of_ble_eq_true rfl, Nat.le_of_ble_eq_true rfl⟩, S.2.2.2.2 _ zw_418, S.2.2.2.2 _ zw_419⟩ (zPreV hE a0 rfl ⟨rfl, hst⟩) rfl hl.1 rfl (lv_room (Nat.le_of_ble_eq_true rfl)) d_Law_set_4 ⟨by (try dsimp only); omega, by (try dsimp only); omega⟩ (by rw [htab]; rfl) (fun cX hc z hz => by rw [List.mem_singleton.mp hz]; exact zpass (y := ⟨0, 9, 12, 19⟩) S hE hadm (by decide) zw_373 cX hc) rfl (by decide) (S.2.2.2.2 _ zw_416) (zcast_UnsupportedOperationException hE) hS (fun q _ h => Or.inl h) (fun q h => Or.inl h) (fun x9 H locs hq hz1 hk1 hS => ?_)
  have hou1 := hou.kept (hk1 ou hou.lt (zAo_no hne hou.lt))
  obtain ⟨ad', en', h00, hfr, hst1⟩ := hq
  refine lv_astore_n (lv' := [(3, .ref x9), (0, .ref (ad 0)), (1, .int (iI ((n0 : Nat) : Int))), (2, .ref ou)]) hx hb d_Law_set_15 rfl hl (by decide) rfl (fun ls hl => ?_)
  refine zi_iconst hx hb d_Law_set_16 ?_
  exact zwi S hr hlk hS (⟨rfl, hou1, ad', en', h00, hfr, hst1⟩) (by (try dsimp only); omega) (by (try dsimp only); omega) d_Law_set_17

set_option maxRecDepth 100000 in
set_option maxHeartbeats 4000000 in
theorem w_Law_mark (l : Launch) (E : zP) (own : Bool) (nn : Nat) (ad : Nat → Nat) (en : Nat → va_E) (St : zSp) (C : zCp) (sz ou : Nat) (z0 : Int64) (hok : sp_fault St.1.1 St.2.1 < 0) (hz9 : r32 (((sp_chars St.1.1 St.2.1).length : Nat) : Int)) : Met l y_Law_mark (.codeWith y_Law_mark b_Law_mark 3 ( some FieldType.int ) [(0, 8, 11, 28)] :: zw) { frames := 5, cells := 1, slots := St.2.1.length, locals := 113 } (zPc E [.ref (ad 0), .ref ou] (zLp E own nn ad en St C sz ou z0)) (zW (zLq E own nn ad sz ou 0 (jL (((sp_chars St.1.1 St.2.1).length : Nat) : Int)) own nn (St.1, [], ((St.2.2.1.1.1, St.2.2.1.1.2.1, St.2.2.1.1.2.2.1, (sp_chars St.1.1 St.2.1)), St.2.2.1.2), St.2.2.2) (C.1, C.2.1, max C.2.2.1 St.2.1.length, C.2.2.2)) (zAw (zRo own nn) ad sz ou)) (1) (St.2.1.length) (zAw (zRo own nn) ad sz ou) := by
  refine zMetW (by decide) (Nat.le_of_ble_eq_true rfl) ?_
  intro p e s m below meth c ls S hr hlk hnm htab hadm hE ⟨hsz, hst, hou, hne, hoo⟩ hl
  have hx := S.1
  have hb := S.2.1
  have hE0 := hE
  have hl : lv_has ls 3 [(0, .ref (ad 0)), (1, .ref ou)] := hl
  subst hsz
  have hA0 := zAw_old hst.1 hE.2.1 hoo
  have hS : va_S (zAw (zRo own nn) ad s.heap.size ou) s.heap s.heap [] := va_S.rf
  have a0 := hst.1.2.2 0 (zRo.lo (by decide) (by decide))
  rw [hst.2.2.1] at a0
  refine lv_aload_n hx hb d_Law_mark_0 rfl (lv_at hl 1 rfl) ?_
  refine zi_iconst hx hb d_Law_mark_1 ?_
  refine lv_aload_n hx hb d_Law_mark_2 rfl (lv_at hl 0 rfl) ?_
  refine zcW (va_runV (As := []) (rest := [.int (iI 0), .ref ou]) S (c2_RW_mark l E own nn ad en St C _ hok) ⟨zcwB (n := 0) S zw_637 zw_1 zw_634 (by decide +kernel) rfl rfl ⟨Nat.le_of_ble_eq_true rfl, Nat.le_of_ble_eq_true rfl⟩, S.2.2.2.2 _ zw_635, S.2.2.2.2 _ zw_636⟩ (zPreV hE a0 rfl ⟨rfl, hst⟩) rfl rfl hl.1 rfl (lv_room (Nat.le_of_ble_eq_true rfl)) d_Law_mark_3 ⟨by (try dsimp only); omega, by (try dsimp only); omega⟩) hS (fun q _ h => Or.inl h) (fun q h => Or.inl h) (fun v H locs hq hz1 hk1 hS => ?_)
  obtain ⟨ad', en', h00, hfr, rfl, _, rfl, hst1⟩ := hq
  have hou1 := hou.kept (hk1 ou hou.lt (zAo_no hne hou.lt))
  refine zl_i2l hx hb d_Law_mark_6 hz9 ?_
  refine zlast0 hx hb (hE0.at hS hA0) hou1 hS (Or.inr rfl) d_Law_mark_7 (fun H locs ho hz2 hk2 hS => ?_)
  have hst1 := hst1.kept (fun i hi => hk2 _ (zFr_ne hfr hne hou.lt i hi)) (fun q9 hq9 => hk2 _ (fun e9 => absurd hoo (by rw [← e9]; unfold zOld; omega)))
  refine lv_goto hx hb d_Law_mark_8 rfl ?_
  refine zi_iconst hx hb d_Law_mark_14 ?_
  exact zwi S hr hlk hS (⟨rfl, ho, ad', en', h00, hfr, hst1⟩) (by (try dsimp only); omega) (by (try dsimp only); omega) d_Law_mark_15

set_option maxRecDepth 100000 in
set_option maxHeartbeats 4000000 in
theorem wx_Law_mark (l : Launch) (htl : ∀ e : Env, l.admits e → e.platform.stackTraces = false) (E : zP) (own : Bool) (nn : Nat) (ad : Nat → Nat) (en : Nat → va_E) (St : zSp) (C : zCp) (sz ou : Nat) (z0 : Int64) (hbad : 0 ≤ sp_fault St.1.1 St.2.1) : Met l y_Law_mark (.codeWith y_Law_mark b_Law_mark 3 ( some FieldType.int ) [(0, 8, 11, 28)] :: zw) { frames := 8, cells := 1, slots := 6, locals := 113 } (zPc E [.ref (ad 0), .ref ou] (zLp E own nn ad en St C sz ou z0)) (zW (zLq E own nn ad sz ou 1 z0 own nn (St.1, [], St.2.2) C) (zAw (zRo own nn) ad sz ou)) (1) (6) (zAw (zRo own nn) ad sz ou) := by
  refine zMetW (by decide) (Nat.le_of_ble_eq_true rfl) ?_
  intro p e s m below meth c ls S hr hlk hnm htab hadm hE ⟨hsz, hst, hou, hne, hoo⟩ hl
  have hx := S.1
  have hb := S.2.1
  have hE0 := hE
  have hl : lv_has ls 3 [(0, .ref (ad 0)), (1, .ref ou)] := hl
  subst hsz
  have hA0 := zAw_old hst.1 hE.2.1 hoo
  have hS : va_S (zAw (zRo own nn) ad s.heap.size ou) s.heap s.heap [] := va_S.rf
  have a0 := hst.1.2.2 0 (zRo.lo (by decide) (by decide))
  rw [hst.2.2.1] at a0
  refine lv_aload_n hx hb d_Law_mark_0 rfl (lv_at hl 1 rfl) ?_
  refine zi_iconst hx hb d_Law_mark_1 ?_
  refine lv_aload_n hx hb d_Law_mark_2 rfl (lv_at hl 0 rfl) ?_
  refine zcX (As := []) (rest := [.int (iI 0), .ref ou]) (pre := []) (rst := []) (xe := ⟨0, 8, 11, 28⟩) (name := "java/lang/UnsupportedOperationException") S (cx2_RW_mark l htl E own nn ad en St C _ hbad) ⟨zcwB (n := 0) S zw_637 zw_1 zw_634 (by decide +kernel) rfl rfl ⟨Nat.le_of_ble_eq_true rfl, Nat.le_of_ble_eq_true rfl⟩, S.2.2.2.2 _ zw_635, S.2.2.2.2 _ zw_636⟩ (zPreV hE a0 rfl ⟨rfl, hst⟩) rfl hl.1 rfl (lv_room (Nat.le_of_ble_eq_true rfl)) d_Law_mark_3 ⟨by (try dsimp only); omega, by (try dsimp only); omega⟩ (by rw [htab]; rfl) (fun _ _ z hz => nomatch hz) rfl (by decide) (S.2.2.2.2 _ zw_416) (zcast_UnsupportedOperationException hE) hS (fun q _ h => Or.inl h) (fun q h => Or.inl h) (fun x9 H locs hq hz1 hk1 hS => ?_)
  have hou1 := hou.kept (hk1 ou hou.lt (zAo_no hne hou.lt))
  obtain ⟨ad', en', h00, hfr, hst1⟩ := hq
  refine lv_astore_n (lv' := [(2, .ref x9), (0, .ref (ad 0)), (1, .ref ou)]) hx hb d_Law_mark_11 rfl hl (by decide) rfl (fun ls hl => ?_)
  refine zi_iconst hx hb d_Law_mark_12 ?_
  exact zwi S hr hlk hS (⟨rfl, hou1, ad', en', h00, hfr, hst1⟩) (by (try dsimp only); omega) (by (try dsimp only); omega) d_Law_mark_13

set_option maxRecDepth 100000 in
set_option maxHeartbeats 4000000 in
theorem w_Law_result (l : Launch) (E : zP) (own : Bool) (nn : Nat) (ad : Nat → Nat) (en : Nat → va_E) (St : zSp) (C : zCp) (sz ou : Nat) (z0 : Int64) (n0 : Nat) (hn : n0 < St.2.2.2.1.length) (hz9 : r32 ((sp_b St.2.2.2.1 n0 : Nat) : Int)) : Met l y_Law_result (.codeWith y_Law_result b_Law_result 4 ( some FieldType.int ) [(0, 9, 12, 46)] :: zw) { frames := 2, cells := 0, slots := 0, locals := 43 } (zPc E [.ref (ad 0), .int (iI ((n0 : Nat) : Int)), .ref ou] (zLp E own nn ad en St C sz ou z0)) (zW (zLq E own nn ad sz ou 0 (jL ((sp_b St.2.2.2.1 n0 : Nat) : Int)) own nn St C) (zAw (zRo own nn) ad sz ou)) (0) (0) (zAw (zRo own nn) ad sz ou) := by
  refine zMetW (by decide) (Nat.le_of_ble_eq_true rfl) ?_
  intro p e s m below meth c ls S hr hlk hnm htab hadm hE ⟨hsz, hst, hou, hne, hoo⟩ hl
  have hx := S.1
  have hb := S.2.1
  have hE0 := hE
  have hl : lv_has ls 4 [(0, .ref (ad 0)), (1, .int (iI ((n0 : Nat) : Int))), (2, .ref ou)] := hl
  subst hsz
  have hA0 := zAw_old hst.1 hE.2.1 hoo
  have hS : va_S (zAw (zRo own nn) ad s.heap.size ou) s.heap s.heap [] := va_S.rf
  have a0 := hst.1.2.2 0 (zRo.lo (by decide) (by decide))
  rw [hst.2.2.1] at a0
  refine lv_aload_n hx hb d_Law_result_0 rfl (lv_at hl 2 rfl) ?_
  refine zi_iconst hx hb d_Law_result_1 ?_
  refine lv_aload_n hx hb d_Law_result_2 rfl (lv_at hl 0 rfl) ?_
  refine lv_iload_n hx hb d_Law_result_3 rfl (lv_at hl 1 rfl) ?_
  refine zcR (va_runV (As := [.int (iI ((n0 : Nat) : Int))]) (rest := [.int (iI 0), .ref ou]) S (c2_RW_result l E own nn ad en St C n0 hn) ⟨zcwB (n := 1) S zw_840 zw_1 zw_837 (by decide +kernel) rfl rfl ⟨Nat.le_of_ble_eq_true rfl, Nat.le_of_ble_eq_true rfl⟩, S.2.2.2.2 _ zw_838, S.2.2.2.2 _ zw_839⟩ (zPreV hE a0 rfl hst) rfl rfl hl.1 rfl (lv_room (Nat.le_of_ble_eq_true rfl)) d_Law_result_4 ⟨by (try dsimp only); omega, by (try dsimp only); omega⟩) ?_
  refine zl_i2l hx hb d_Law_result_7 hz9 ?_
  refine zlast0 hx hb hE hou hS (Or.inr rfl) d_Law_result_8 (fun H locs ho hz2 hk2 hS => ?_)
  have hst1 := hst.kept (fun i hi => hk2 _ (hne i hi)) (fun q9 hq9 => hk2 _ (fun e9 => absurd hoo (by rw [← e9]; unfold zOld; omega)))
  refine lv_goto hx hb d_Law_result_9 rfl ?_
  refine zi_iconst hx hb d_Law_result_15 ?_
  exact zwi S hr hlk hS (⟨rfl, ho, ad, en, rfl, zFr_rfl, hst1⟩) (by (try dsimp only); omega) (by (try dsimp only); omega) d_Law_result_16

set_option maxRecDepth 100000 in
set_option maxHeartbeats 4000000 in
theorem wx_Law_result (l : Launch) (htl : ∀ e : Env, l.admits e → e.platform.stackTraces = false) (E : zP) (own : Bool) (nn : Nat) (ad : Nat → Nat) (en : Nat → va_E) (St : zSp) (C : zCp) (sz ou : Nat) (z0 : Int64) (k0 : Int) (hk0 : r32 k0) (hk : k0 < 0 ∨ ((St.2.2.2.1.length : Nat) : Int) ≤ k0) : Met l y_Law_result (.codeWith y_Law_result b_Law_result 4 ( some FieldType.int ) [(0, 9, 12, 46)] :: zw) { frames := 8, cells := 1, slots := 6, locals := 103 } (zPc E [.ref (ad 0), .int (iI k0), .ref ou] (zLp E own nn ad en St C sz ou z0)) (zW (zLq E own nn ad sz ou 1 z0 own nn St C) (zAw (zRo own nn) ad sz ou)) (1) (6) (zAw (zRo own nn) ad sz ou) := by
  refine zMetW (by decide) (Nat.le_of_ble_eq_true rfl) ?_
  intro p e s m below meth c ls S hr hlk hnm htab hadm hE ⟨hsz, hst, hou, hne, hoo⟩ hl
  have hx := S.1
  have hb := S.2.1
  have hE0 := hE
  have hl : lv_has ls 4 [(0, .ref (ad 0)), (1, .int (iI k0)), (2, .ref ou)] := hl
  subst hsz
  have hA0 := zAw_old hst.1 hE.2.1 hoo
  have hS : va_S (zAw (zRo own nn) ad s.heap.size ou) s.heap s.heap [] := va_S.rf
  have a0 := hst.1.2.2 0 (zRo.lo (by decide) (by decide))
  rw [hst.2.2.1] at a0
  refine lv_aload_n hx hb d_Law_result_0 rfl (lv_at hl 2 rfl) ?_
  refine zi_iconst hx hb d_Law_result_1 ?_
  refine lv_aload_n hx hb d_Law_result_2 rfl (lv_at hl 0 rfl) ?_
  refine lv_iload_n hx hb d_Law_result_3 rfl (lv_at hl 1 rfl) ?_
  refine zcX (As := [.int (iI k0)]) (rest := [.int (iI 0), .ref ou]) (pre := []) (rst := []) (xe := ⟨0, 9, 12, 46⟩) (name := "java/lang/IndexOutOfBoundsException") S (cx2_RW_result l htl E own nn ad en St C _ k0 hk0 hk) ⟨zcwB (n := 1) S zw_840 zw_1 zw_837 (by decide +kernel) rfl rfl ⟨Nat.le_of_ble_eq_true rfl, Nat.le_of_ble_eq_true rfl⟩, S.2.2.2.2 _ zw_838, S.2.2.2.2 _ zw_839⟩ (zPreV hE a0 rfl ⟨rfl, hst⟩) rfl hl.1 rfl (lv_room (Nat.le_of_ble_eq_true rfl)) d_Law_result_4 ⟨by (try dsimp only); omega, by (try dsimp only); omega⟩ (by rw [htab]; rfl) (fun _ _ z hz => nomatch hz) rfl (by decide) (S.2.2.2.2 _ zw_836) (zcast_IndexOutOfBoundsException hE) hS (fun q _ h => Or.inl h) (fun q h => Or.inl h) (fun x9 H locs hq hz1 hk1 hS => ?_)
  have hou1 := hou.kept (hk1 ou hou.lt (zAo_no hne hou.lt))
  refine lv_astore_n (lv' := [(3, .ref x9), (0, .ref (ad 0)), (1, .int (iI k0)), (2, .ref ou)]) hx hb d_Law_result_12 rfl hl (by decide) rfl (fun ls hl => ?_)
  refine zi_iconst hx hb d_Law_result_13 ?_
  exact zwi S hr hlk hS (⟨rfl, hou1, ad, en, rfl, zFr_rfl, hq⟩) (by (try dsimp only); omega) (by (try dsimp only); omega) d_Law_result_14

set_option maxRecDepth 100000 in
set_option maxHeartbeats 4000000 in
theorem w_Law_fault (l : Launch) (E : zP) (own : Bool) (nn : Nat) (ad : Nat → Nat) (en : Nat → va_E) (St : zSp) (C : zCp) (sz ou : Nat) (z0 : Int64) (k0 : Int) (hk : k0 = 0 ∨ k0 = 1) (hz9 : r32 (if k0 = 0 then St.2.2.2.2.1 else St.2.2.2.2.2)) : Met l y_Law_fault (.codeWith y_Law_fault b_Law_fault 4 ( some FieldType.int ) [(0, 9, 12, 19)] :: zw) { frames := 1, cells := 0, slots := 0, locals := 21 } (zPc E [.ref (ad 0), .int (iI k0), .ref ou] (zLp E own nn ad en St C sz ou z0)) (zW (zLq E own nn ad sz ou 0 (jL (if k0 = 0 then St.2.2.2.2.1 else St.2.2.2.2.2)) own nn St C) (zAw (zRo own nn) ad sz ou)) (0) (0) (zAw (zRo own nn) ad sz ou) := by
  refine zMetW (by decide) (Nat.le_of_ble_eq_true rfl) ?_
  intro p e s m below meth c ls S hr hlk hnm htab hadm hE ⟨hsz, hst, hou, hne, hoo⟩ hl
  have hx := S.1
  have hb := S.2.1
  have hE0 := hE
  have hl : lv_has ls 4 [(0, .ref (ad 0)), (1, .int (iI k0)), (2, .ref ou)] := hl
  subst hsz
  have hA0 := zAw_old hst.1 hE.2.1 hoo
  have hS : va_S (zAw (zRo own nn) ad s.heap.size ou) s.heap s.heap [] := va_S.rf
  have a0 := hst.1.2.2 0 (zRo.lo (by decide) (by decide))
  rw [hst.2.2.1] at a0
  refine lv_aload_n hx hb d_Law_fault_0 rfl (lv_at hl 2 rfl) ?_
  refine zi_iconst hx hb d_Law_fault_1 ?_
  refine lv_aload_n hx hb d_Law_fault_2 rfl (lv_at hl 0 rfl) ?_
  refine lv_iload_n hx hb d_Law_fault_3 rfl (lv_at hl 1 rfl) ?_
  refine zcR (va_runV (As := [.int (iI k0)]) (rest := [.int (iI 0), .ref ou]) S (c2_RW_fault l E own nn ad en St C k0 hk) ⟨zcwB (n := 1) S zw_863 zw_1 zw_860 (by decide +kernel) rfl rfl ⟨Nat.le_of_ble_eq_true rfl, Nat.le_of_ble_eq_true rfl⟩, S.2.2.2.2 _ zw_861, S.2.2.2.2 _ zw_862⟩ (zPreV hE a0 rfl hst) rfl rfl hl.1 rfl (lv_room (Nat.le_of_ble_eq_true rfl)) d_Law_fault_4 ⟨by (try dsimp only); omega, by (try dsimp only); omega⟩) ?_
  refine zl_i2l hx hb d_Law_fault_7 hz9 ?_
  refine zlast0 hx hb hE hou hS (Or.inr rfl) d_Law_fault_8 (fun H locs ho hz2 hk2 hS => ?_)
  have hst1 := hst.kept (fun i hi => hk2 _ (hne i hi)) (fun q9 hq9 => hk2 _ (fun e9 => absurd hoo (by rw [← e9]; unfold zOld; omega)))
  refine lv_goto hx hb d_Law_fault_9 rfl ?_
  refine zi_iconst hx hb d_Law_fault_15 ?_
  exact zwi S hr hlk hS (⟨rfl, ho, ad, en, rfl, zFr_rfl, hst1⟩) (by (try dsimp only); omega) (by (try dsimp only); omega) d_Law_fault_16

set_option maxRecDepth 100000 in
set_option maxHeartbeats 4000000 in
theorem wx_Law_fault (l : Launch) (htl : ∀ e : Env, l.admits e → e.platform.stackTraces = false) (E : zP) (own : Bool) (nn : Nat) (ad : Nat → Nat) (en : Nat → va_E) (St : zSp) (C : zCp) (sz ou : Nat) (z0 : Int64) (k0 : Int) (hk0 : r32 k0) (hk : k0 ≠ 0 ∧ k0 ≠ 1) : Met l y_Law_fault (.codeWith y_Law_fault b_Law_fault 4 ( some FieldType.int ) [(0, 9, 12, 19)] :: zw) { frames := 8, cells := 1, slots := 6, locals := 102 } (zPc E [.ref (ad 0), .int (iI k0), .ref ou] (zLp E own nn ad en St C sz ou z0)) (zW (zLq E own nn ad sz ou 1 z0 own nn St C) (zAw (zRo own nn) ad sz ou)) (1) (6) (zAw (zRo own nn) ad sz ou) := by
  refine zMetW (by decide) (Nat.le_of_ble_eq_true rfl) ?_
  intro p e s m below meth c ls S hr hlk hnm htab hadm hE ⟨hsz, hst, hou, hne, hoo⟩ hl
  have hx := S.1
  have hb := S.2.1
  have hE0 := hE
  have hl : lv_has ls 4 [(0, .ref (ad 0)), (1, .int (iI k0)), (2, .ref ou)] := hl
  subst hsz
  have hA0 := zAw_old hst.1 hE.2.1 hoo
  have hS : va_S (zAw (zRo own nn) ad s.heap.size ou) s.heap s.heap [] := va_S.rf
  have a0 := hst.1.2.2 0 (zRo.lo (by decide) (by decide))
  rw [hst.2.2.1] at a0
  refine lv_aload_n hx hb d_Law_fault_0 rfl (lv_at hl 2 rfl) ?_
  refine zi_iconst hx hb d_Law_fault_1 ?_
  refine lv_aload_n hx hb d_Law_fault_2 rfl (lv_at hl 0 rfl) ?_
  refine lv_iload_n hx hb d_Law_fault_3 rfl (lv_at hl 1 rfl) ?_
  refine zcX (As := [.int (iI k0)]) (rest := [.int (iI 0), .ref ou]) (pre := []) (rst := []) (xe := ⟨0, 9, 12, 19⟩) (name := "java/lang/IllegalArgumentException") S (cx2_RW_fault l htl E own nn ad en St C _ k0 hk0 hk) ⟨zcwB (n := 1) S zw_863 zw_1 zw_860 (by decide +kernel) rfl rfl ⟨Nat.le_of_ble_eq_true rfl, Nat.le_of_ble_eq_true rfl⟩, S.2.2.2.2 _ zw_861, S.2.2.2.2 _ zw_862⟩ (zPreV hE a0 rfl ⟨rfl, hst⟩) rfl hl.1 rfl (lv_room (Nat.le_of_ble_eq_true rfl)) d_Law_fault_4 ⟨by (try dsimp only); omega, by (try dsimp only); omega⟩ (by rw [htab]; rfl) (fun _ _ z hz => nomatch hz) rfl (by decide) (S.2.2.2.2 _ zw_373) (zcast_IllegalArgumentException hE) hS (fun q _ h => Or.inl h) (fun q h => Or.inl h) (fun x9 H locs hq hz1 hk1 hS => ?_)
  have hou1 := hou.kept (hk1 ou hou.lt (zAo_no hne hou.lt))
  refine lv_astore_n (lv' := [(3, .ref x9), (0, .ref (ad 0)), (1, .int (iI k0)), (2, .ref ou)]) hx hb d_Law_fault_12 rfl hl (by decide) rfl (fun ls hl => ?_)
  refine zi_iconst hx hb d_Law_fault_13 ?_
  exact zwi S hr hlk hS (⟨rfl, hou1, ad, en, rfl, zFr_rfl, hq⟩) (by (try dsimp only); omega) (by (try dsimp only); omega) d_Law_fault_14
