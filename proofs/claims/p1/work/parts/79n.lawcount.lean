set_option maxRecDepth 100000 in
set_option maxHeartbeats 4000000 in
theorem zlaw_count0 {p : Program} {l : Launch} {e : Env} {s : State} {m : MethodId} {below : List Frame} {meth : Method} {c : Code} {b : Nat} {xs : Nat → Int32} {E : zP} {H : Heap} {locs : List Loc} {ls : Array Slot} (htl : ∀ e : Env, l.admits e → e.platform.stackTraces = false) (S : CallFix p m c code 7 s #[Value.ref b] zw "ReplacementWriterLaw") (hr : meth.sig.returnType = ret) (hlk : meth.locks = false) (hEs : E.2.2.2 = s.heap.size) (hX : va_X b 7 xs s s.heap) (hbl : b < s.heap.size) (hE0 : zE E s s.heap) (hS : va_S (zOld E) s.heap H locs) {ad : Nat → Nat} {en : Nat → va_E} {ou : Nat} {u p1 : Bool} (hst : zSt E false 0 ad en (zS0 u p1) zC0 H) (hou : zOu E ou 0 H) (hne : ∀ i, zRo false 0 i → ad i ≠ ou) (hoo : zOld E ou) {mo tb kq mq te tq oq ho hq nl ul mk xq cq pq : Nat} {u2 p2 : Bool} {la : Int} {f9 : Nat → Int32} (hM : va_P E.1 zcl (zWM E mo tb kq mq te tq oq ho hq nl ul mk xq cq pq u2 p2 la f9) H) (hMD : va_D (zOld E) (zWM E mo tb kq mq te tq oq ho hq nl ul mk xq cq pq u2 p2 la f9)) (hMn : ∀ (k : Nat) (q : Nat × va_E), (zWM E mo tb kq mq te tq oq ho hq nl ul mk xq cq pq u2 p2 la f9)[k]? = some q → q.1 ≠ ou ∧ ∀ i, zRo false 0 i → ad i ≠ q.1) (hl : lv_has ls 7 [(4, .int (iI 1)), (3, .ref ou), (2, .ref mo), (1, .ref (ad 0)), (0, .ref b)]) (k0 : Int) (hk0 : r32 k0) (ek : iI k0 = xs 2) : W p l e room_1 s m #[Value.ref b] below meth c H locs 1000 300000 (lw_Z below #[Value.ref b] s) (F0 m 664 ls []) := by
  have hx := S.1
  have hb := S.2.1
  have hbA : ¬ zOld E b := by unfold zOld; omega
  have hA0 : ∀ q, zOld E q → zOld E q := fun q h => h
  have hE := hE0.at hS hA0
  have hMw : ∀ (k : Nat) (q : Nat × va_E), (zWM E mo tb kq mq te tq oq ho hq nl ul mk xq cq pq u2 p2 la f9)[k]? = some q → ¬ zAw (zRo false 0) ad H.size ou q.1 := fun k q hq h => h.elim (fun h => h.elim (fun ⟨i, hi, e9⟩ => (hMn k q hq).2 i hi e9.symm) (fun h => Nat.not_le.mpr (hM k q hq).lt h)) (hMn k q hq).1
  have hAw : ∀ q, zAw (zRo false 0) ad H.size ou q → zOld E q := zAw_old hst.1 hE.2.1 hoo
  have a0 := hst.1.2.2 0 (zRo.lo (by decide) (by decide))
  rw [hst.2.2.1] at a0
  refine lv_aload_n hx hb d_law_664 rfl (lv_at hl 3 rfl) ?_
  refine lv_aload_n hx hb d_law_665 rfl (lv_at hl 4 rfl) ?_
  refine lv_iload hx hb d_law_666 (lv_at hl 0 rfl) ?_
  refine zi_iconst hx hb d_law_668 ?_
  refine zi_iadd hx hb d_law_669 ?_
  refine W.eq (g2 := F0 m 670 ls ([.int (iI 2), .ref b, .ref (ad 0)])) rfl ?_
  refine va_sld hx hb hX hbl hbA hS (iI_in (by decide) (by decide) (by decide)) d_law_670 ?_
  refine W.eq (g2 := F0 m 671 ls [.int (iI k0), .ref (ad 0)]) (by rw [ek] <;> rfl) ?_
  refine zcR (va_runV (As := [.int (iI k0)]) (rest := []) S (c2_RW_count l E false 0 ad en (zS0 u p1) zC0 k0 hk0) ⟨zcwB (n := 1) S zw_254 zw_1 zw_251 (by decide +kernel) rfl rfl ⟨Nat.le_of_ble_eq_true rfl, Nat.le_of_ble_eq_true rfl⟩, S.2.2.2.2 _ zw_252, S.2.2.2.2 _ zw_253⟩ (zPreV hE a0 rfl hst) rfl rfl hl.1 rfl (lv_room (Nat.le_of_ble_eq_true rfl)) d_law_671 ⟨by show _ ≤ (600002 : Nat); omega, by show _ ≤ (7302198 : Nat); omega⟩) ?_
  refine W.eq (g2 := F0 m 674 ls [.int (iI (sp_count k0 0 0 0 0))]) rfl ?_
  refine lv_aload_n hx hb d_law_674 rfl (lv_at hl 2 rfl) ?_
  refine lv_aload_n hx hb d_law_675 rfl (lv_at hl 4 rfl) ?_
  refine lv_iload hx hb d_law_676 (lv_at hl 0 rfl) ?_
  refine zi_iconst hx hb d_law_678 ?_
  refine zi_iadd hx hb d_law_679 ?_
  refine W.eq (g2 := F0 m 680 ls ([.int (iI 2), .ref b, .ref mo, .int (iI (sp_count k0 0 0 0 0))])) rfl ?_
  refine va_sld hx hb hX hbl hbA hS (iI_in (by decide) (by decide) (by decide)) d_law_680 ?_
  refine W.eq (g2 := F0 m 681 ls [.int (iI k0), .ref mo, .int (iI (sp_count k0 0 0 0 0))]) (by rw [ek] <;> rfl) ?_
  have hPc := hM.sub (ws' := [(mo, .inr (10, [.ref tb, .ref te, .ref ho, .ref xq, .int (iI 0), .int (iI 0), .int (iI 0), .int (iI (bN false)), .ref cq, .ref pq, .int (iI 0), .int (iI (-1))])), (ho, .inr (13, [.int (iI 0), .ref hq, .ref nl, .ref ul, .ref mk])), (te, .inr (12, [.ref tb, .null, .int (iI (bN false)), .int (iI (bN false)), .int (iI (bN false)), .ref tq, .int (iI 0), .ref oq, .int (iI 0), .int (iI 0), .int (iI 0), .int (iI (-1)), .int (iI 0)])), (nl, .inr (9, [.ref (E.2.2.1 4), .int (iI 0), .int (iI 0)]))]) [0, 7, 4, 9] rfl
  have hDc := hMD.sub (ws' := [(mo, .inr (10, [.ref tb, .ref te, .ref ho, .ref xq, .int (iI 0), .int (iI 0), .int (iI 0), .int (iI (bN false)), .ref cq, .ref pq, .int (iI 0), .int (iI (-1))])), (ho, .inr (13, [.int (iI 0), .ref hq, .ref nl, .ref ul, .ref mk])), (te, .inr (12, [.ref tb, .null, .int (iI (bN false)), .int (iI (bN false)), .int (iI (bN false)), .ref tq, .int (iI 0), .ref oq, .int (iI 0), .int (iI 0), .int (iI 0), .int (iI (-1)), .int (iI 0)])), (nl, .inr (9, [.ref (E.2.2.1 4), .int (iI 0), .int (iI 0)]))]) [0, 7, 4, 9] (by decide) rfl
  have hFc : ∀ q, va_A [(mo, .inr (10, [.ref tb, .ref te, .ref ho, .ref xq, .int (iI 0), .int (iI 0), .int (iI 0), .int (iI (bN false)), .ref cq, .ref pq, .int (iI 0), .int (iI (-1))])), (ho, .inr (13, [.int (iI 0), .ref hq, .ref nl, .ref ul, .ref mk])), (te, .inr (12, [.ref tb, .null, .int (iI (bN false)), .int (iI (bN false)), .int (iI (bN false)), .ref tq, .int (iI 0), .ref oq, .int (iI 0), .int (iI 0), .int (iI 0), .int (iI (-1)), .int (iI 0)])), (nl, .inr (9, [.ref (E.2.2.1 4), .int (iI 0), .int (iI 0)]))] H.size q → zOld E q := fun q h => h.elim (fun ⟨k, e9, h9⟩ => hDc.2 k _ h9) (fun h => by have := hE.2.1; unfold zOld; omega)
  refine zcW (va_runV (As := [.int (iI k0)]) (rest := [.int (iI (sp_count k0 0 0 0 0))]) S (c_Mod_count l E _ mo tb te ho xq cq pq hq nl ul mk oq tq k0 hk0) ⟨zcwB (n := 1) S zw_1391 zw_14 zw_1388 (by decide +kernel) rfl rfl ⟨Nat.le_of_ble_eq_true rfl, Nat.le_of_ble_eq_true rfl⟩, S.2.2.2.2 _ zw_1389, S.2.2.2.2 _ zw_1390⟩ (zPreV hE (hM 0 _ rfl) rfl ⟨rfl, hPc, hDc, trivial⟩) rfl rfl hl.1 rfl (lv_room (Nat.le_of_ble_eq_true rfl)) d_law_681 ⟨by show _ ≤ (600002 : Nat); omega, by show _ ≤ (7302198 : Nat); omega⟩) hS (fun q _ h => hFc q h) hFc (fun v H2 locs hq hz2 hk2 hS => ?_)
  obtain rfl := hq
  refine W.eq (g2 := F0 m 684 ls [.int (iI (sp_count k0 0 0 0 0)), .int (iI (sp_count k0 0 0 0 0))]) rfl ?_
  refine zi_icmp_eq hx hb d_law_684 rfl (zcnt0 k0) (zcnt0 k0) (fun _ => ?_) (fun h9 => absurd rfl h9)
  exact zlaw_tail S hr hlk hEs hX hbl hS (by omega) (by omega) (by decide) (lv_sub hl [0, 4] rfl)
