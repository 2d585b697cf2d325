set_option maxRecDepth 100000 in
set_option maxHeartbeats 4000000 in
theorem zlaw_name0 {p : Program} {l : Launch} {e : Env} {s : State} {m : MethodId} {below : List Frame} {meth : Method} {c : Code} {b : Nat} {xs : Nat → Int32} {E : zP} {H : Heap} {locs : List Loc} {ls : Array Slot} (htl : ∀ e : Env, l.admits e → e.platform.stackTraces = false) (S : CallFix p m c code 7 s #[Value.ref b] zw "ReplacementWriterLaw") (hr : meth.sig.returnType = ret) (hlk : meth.locks = false) (hEs : E.2.2.2 = s.heap.size) (hX : va_X b 7 xs s s.heap) (hbl : b < s.heap.size) (hE0 : zE E s s.heap) (hS : va_S (zOld E) s.heap H locs) {ad : Nat → Nat} {en : Nat → va_E} {ou : Nat} {u p1 : Bool} (hst : zSt E false 0 ad en (zS0 u p1) zC0 H) (hou : zOu E ou 0 H) (hne : ∀ i, zRo false 0 i → ad i ≠ ou) (hoo : zOld E ou) {mo tb kq mq te tq oq ho hq nl ul mk xq cq pq : Nat} {u2 p2 : Bool} {la : Int} {f9 : Nat → Int32} (hM : va_P E.1 zcl (zWM E mo tb kq mq te tq oq ho hq nl ul mk xq cq pq u2 p2 la f9) H) (hMD : va_D (zOld E) (zWM E mo tb kq mq te tq oq ho hq nl ul mk xq cq pq u2 p2 la f9)) (hMn : ∀ (k : Nat) (q : Nat × va_E), (zWM E mo tb kq mq te tq oq ho hq nl ul mk xq cq pq u2 p2 la f9)[k]? = some q → q.1 ≠ ou ∧ ∀ i, zRo false 0 i → ad i ≠ q.1) (hl : lv_has ls 7 [(4, .int (iI 1)), (3, .ref ou), (2, .ref mo), (1, .ref (ad 0)), (0, .ref b)]) (k0 : Int) (hk0 : r32 k0) (ek : iI k0 = xs 2)  : W p l e room_1 s m #[Value.ref b] below meth c H locs 1000 300000 (lw_Z below #[Value.ref b] s) (F0 m 396 ls []) := by
  have hx := S.1
  have hb := S.2.1
  have hbA : ¬ zOld E b := by unfold zOld; omega
  have hA0 : ∀ q, zOld E q → zOld E q := fun q h => h
  have hE := hE0.at hS hA0
  have hMw : ∀ (k : Nat) (q : Nat × va_E), (zWM E mo tb kq mq te tq oq ho hq nl ul mk xq cq pq u2 p2 la f9)[k]? = some q → ¬ zAw (zRo false 0) ad H.size ou q.1 := fun k q hq h => h.elim (fun h => h.elim (fun ⟨i, hi, e9⟩ => (hMn k q hq).2 i hi e9.symm) (fun h => Nat.not_le.mpr (hM k q hq).lt h)) (hMn k q hq).1
  have hAw : ∀ q, zAw (zRo false 0) ad H.size ou q → zOld E q := zAw_old hst.1 hE.2.1 hoo
  refine lv_aload_n hx hb d_law_396 rfl (lv_at hl 3 rfl) ?_
  refine lv_aload_n hx hb d_law_397 rfl (lv_at hl 4 rfl) ?_
  refine lv_iload hx hb d_law_398 (lv_at hl 0 rfl) ?_
  refine zi_iconst hx hb d_law_400 ?_
  refine zi_iadd hx hb d_law_401 ?_
  refine W.eq (g2 := F0 m 402 ls ([.int (iI 2), .ref b, .ref (ad 0)])) rfl ?_
  refine va_sld hx hb hX hbl hbA hS (iI_in (by decide) (by decide) (by decide)) d_law_402 ?_
  refine W.eq (g2 := F0 m 403 ls [.int (iI k0), .ref (ad 0)]) (by rw [ek] <;> rfl) ?_
  refine lv_aload_n hx hb d_law_403 rfl (lv_at hl 1 rfl) ?_
  refine zcW (zrunSW (n := 3) (As := [.ref (ad 0), .int (iI k0), .ref ou]) (rest := []) S (wx_Law_name l htl E false 0 ad en (zS0 u p1) zC0 H.size ou 0 k0 hk0 (by rcases Int.lt_or_le k0 1 with h | h; exact Or.inl h; exact Or.inr (by show (0 : Int) < k0; omega))) zw_507 zw_0 zw_505 zw_506 (by decide +kernel) rfl rfl ⟨Nat.le_of_ble_eq_true rfl, Nat.le_of_ble_eq_true rfl⟩ (zPreS hE ⟨rfl, hst, hou, hne, hoo⟩) rfl rfl hl.1 rfl (lv_room (Nat.le_of_ble_eq_true rfl)) d_law_404 ⟨Nat.le_of_ble_eq_true rfl, Nat.le_of_ble_eq_true rfl⟩) hS (fun q _ h => hAw q h) hAw (fun v H1 locs hq hz1 hk1 hS => ?_)
  obtain ⟨rfl, hou, ad', en', h00, hfr, hst'⟩ := hq
  have hM := zA_kept (wc := []) hM hk1 hMw
  have hE := hE0.at hS hA0
  refine W.widen (k := 2000) (n := 400000) (Nat.le_of_ble_eq_true rfl) (Nat.le_of_ble_eq_true rfl) ?_
  refine W.eq (g2 := F0 m 407 ls [.int (iI 1)]) rfl ?_
  refine lv_istore (lv' := [(5, .int (iI 1)), (4, .int (iI 1)), (3, .ref ou), (2, .ref mo), (1, .ref (ad 0)), (0, .ref b)]) hx hb d_law_407 hl (by decide) rfl (fun ls hl => ?_)
  refine lv_aload_n hx hb d_law_409 rfl (lv_at hl 3 rfl) ?_
  refine lv_aload_n hx hb d_law_410 rfl (lv_at hl 5 rfl) ?_
  refine lv_iload hx hb d_law_411 (lv_at hl 1 rfl) ?_
  refine zi_iconst hx hb d_law_413 ?_
  refine zi_iadd hx hb d_law_414 ?_
  refine W.eq (g2 := F0 m 415 ls ([.int (iI 2), .ref b, .ref mo])) rfl ?_
  refine va_sld hx hb hX hbl hbA hS (iI_in (by decide) (by decide) (by decide)) d_law_415 ?_
  refine W.eq (g2 := F0 m 416 ls [.int (iI k0), .ref mo]) (by rw [ek] <;> rfl) ?_
  have hPc := hM.sub (ws' := [(mo, .inr (10, [.ref tb, .ref te, .ref ho, .ref xq, .int (iI 0), .int (iI 0), .int (iI 0), .int (iI (bN false)), .ref cq, .ref pq, .int (iI 0), .int (iI (-1))])), (ho, .inr (13, [.int (iI 0), .ref hq, .ref nl, .ref ul, .ref mk]))]) [0, 7] rfl
  have hDc := hMD.sub (ws' := [(mo, .inr (10, [.ref tb, .ref te, .ref ho, .ref xq, .int (iI 0), .int (iI 0), .int (iI 0), .int (iI (bN false)), .ref cq, .ref pq, .int (iI 0), .int (iI (-1))])), (ho, .inr (13, [.int (iI 0), .ref hq, .ref nl, .ref ul, .ref mk]))]) [0, 7] (by decide) rfl
  have hFc : ∀ q, va_A [(mo, .inr (10, [.ref tb, .ref te, .ref ho, .ref xq, .int (iI 0), .int (iI 0), .int (iI 0), .int (iI (bN false)), .ref cq, .ref pq, .int (iI 0), .int (iI (-1))])), (ho, .inr (13, [.int (iI 0), .ref hq, .ref nl, .ref ul, .ref mk]))] H1.size q → zOld E q := fun q h => h.elim (fun ⟨k, e9, h9⟩ => hDc.2 k _ h9) (fun h => by have := hE.2.1; unfold zOld; omega)
  have hno : ¬ va_A [(mo, .inr (10, [.ref tb, .ref te, .ref ho, .ref xq, .int (iI 0), .int (iI 0), .int (iI 0), .int (iI (bN false)), .ref cq, .ref pq, .int (iI 0), .int (iI (-1))])), (ho, .inr (13, [.int (iI 0), .ref hq, .ref nl, .ref ul, .ref mk]))] H1.size ou := fun h => h.elim (fun ⟨k, e9, h9⟩ => by
    have hm := zsub_mem (ws := zWM E mo tb kq mq te tq oq ho hq nl ul mk xq cq pq u2 p2 la f9) (ws' := [(mo, .inr (10, [.ref tb, .ref te, .ref ho, .ref xq, .int (iI 0), .int (iI 0), .int (iI 0), .int (iI (bN false)), .ref cq, .ref pq, .int (iI 0), .int (iI (-1))])), (ho, .inr (13, [.int (iI 0), .ref hq, .ref nl, .ref ul, .ref mk]))]) [0, 7] rfl h9
    exact (hMn _ _ hm.choose_spec).1 rfl) (fun h => Nat.not_le.mpr hou.lt h)
  refine zcW (va_runV (As := [.int (iI k0)]) (rest := []) S (c_Mod_name l E _ mo tb te ho xq cq pq hq nl ul mk k0 hk0) ⟨zcwB (n := 1) S zw_1089 zw_14 zw_1086 (by decide +kernel) rfl rfl ⟨Nat.le_of_ble_eq_true rfl, Nat.le_of_ble_eq_true rfl⟩, S.2.2.2.2 _ zw_1087, S.2.2.2.2 _ zw_1088⟩ (zPreV hE (hM 0 _ rfl) rfl ⟨rfl, hPc, hDc, trivial⟩) rfl rfl hl.1 rfl (lv_room (Nat.le_of_ble_eq_true rfl)) d_law_416 ⟨by show _ ≤ (600002 : Nat); omega, by show _ ≤ (7302198 : Nat); omega⟩) hS (fun q _ h => hFc q h) hFc (fun v H2 locs hq hz2 hk2 hS => ?_)
  obtain ⟨rfl, za, zb, zc, zd, zc2, zp2, zsz, zcd, zn, zba, zrs, hmo⟩ := hq
  have hou := hou.kept (hk2 ou hou.lt hno)
  have hE := hE0.at hS hA0
  refine W.eq (g2 := F0 m 419 ls [.int (iI 0)]) rfl ?_
  refine lv_istore (lv' := [(6, .int (iI 0)), (5, .int (iI 1)), (4, .int (iI 1)), (3, .ref ou), (2, .ref mo), (1, .ref (ad 0)), (0, .ref b)]) hx hb d_law_419 hl (by decide) rfl (fun ls hl => ?_)
  refine lv_aload_n hx hb d_law_421 rfl (lv_at hl 4 rfl) ?_
  refine zcR (va_runV (As := []) (rest := []) S (c_Mod_thrown l E mo za zb zc zd zc2 zp2 zsz 1 zcd zn zba zrs) ⟨zcwB (n := 0) S zw_1047 zw_14 zw_1044 (by decide +kernel) rfl rfl ⟨Nat.le_of_ble_eq_true rfl, Nat.le_of_ble_eq_true rfl⟩, S.2.2.2.2 _ zw_1045, S.2.2.2.2 _ zw_1046⟩ (zPreV hE hmo rfl hmo) rfl rfl hl.1 rfl (lv_room (Nat.le_of_ble_eq_true rfl)) d_law_422 ⟨Nat.le_of_ble_eq_true rfl, Nat.le_of_ble_eq_true rfl⟩) ?_
  refine lv_iload hx hb d_law_425 (lv_at hl 1 rfl) ?_
  refine zi_icmp_eq hx hb d_law_427 rfl (by omega) (by omega) (fun h427 => ?_) (fun h => absurd h (by omega))
  refine lv_iload hx hb d_law_432 (lv_at hl 1 rfl) ?_
  refine zi_if_ne hx hb d_law_434 rfl (by omega) (fun h434 => ?_) (fun h434 => absurd h434 (by omega))
  refine lv_goto hx hb d_law_449 rfl ?_
  exact zlaw_tail S hr hlk hEs hX hbl hS (by omega) (by omega) (by decide) (lv_sub hl [2, 6] rfl)
