/-! The law's start. -/
theorem zleft {ws pl : va_W} {k : Nat} {q : Nat × va_E} (h : ws[k]? = some q) : (ws ++ pl)[k]? = some q := by
  rw [List.getElem?_append_left (List.getElem?_eq_some_iff.mp h).1]
  exact h
theorem zright {ws pl : va_W} {k : Nat} {q : Nat × va_E} (h : pl[k]? = some q) : (ws ++ pl)[ws.length + k]? = some q := by
  rw [List.getElem?_append_right (Nat.le_add_right _ _), Nat.add_sub_cancel_left]
  exact h
theorem zapp_l {E : zP} {ws pl : va_W} {H : Heap} (h : va_P E.1 zcl (ws ++ pl) H) : va_P E.1 zcl ws H := fun k q hk => h k q (zleft hk)
theorem zapp_r {E : zP} {ws pl : va_W} {H : Heap} (h : va_P E.1 zcl (ws ++ pl) H) : va_P E.1 zcl pl H := fun k q hk => h (ws.length + k) q (zright hk)
theorem zDapp_l {A : Nat → Prop} {ws pl : va_W} (h : va_D A (ws ++ pl)) : va_D A ws := ⟨fun i j p q h1 h2 e => h.1 i j p q (zleft h1) (zleft h2) e, fun k q hk => h.2 k q (zleft hk)⟩
theorem zDapp_r {A : Nat → Prop} {ws pl : va_W} (h : va_D A (ws ++ pl)) : va_D (fun q => A q ∧ ∃ (k : Nat) (e : va_E), pl[k]? = some (q, e)) pl := ⟨fun i j p q h1 h2 e => by
  have := h.1 _ _ p q (zright h1) (zright h2) e
  omega, fun k q hk => ⟨h.2 _ q (zright hk), k, q.2, hk⟩⟩
theorem zDapp_ne {A : Nat → Prop} {ws pl : va_W} (h : va_D A (ws ++ pl)) {i j : Nat} {p q : Nat × va_E} (h1 : ws[i]? = some p) (h2 : pl[j]? = some q) : p.1 ≠ q.1 := fun e => by
  have h3 := h.1 i (ws.length + j) p q (zleft h1) (zright h2) e
  have h4 := (List.getElem?_eq_some_iff.mp h1).1
  omega

set_option maxRecDepth 100000 in
set_option maxHeartbeats 4000000 in
theorem zlaw_head (l : Launch) {p : Program} {e : Env} {s : State} {m : MethodId} {below : List Frame} {meth : Method} {c : Code} {b L : Nat} {xs : Nat → Int32} {E : zP} {H : Heap} {locs : List Loc} {ls : Array Slot} (htl : ∀ e : Env, l.admits e → e.platform.stackTraces = false) (hL : L ≤ 7) (S : CallFix p m c code 7 s #[Value.ref b] zw "ReplacementWriterLaw") (hr : meth.sig.returnType = ret) (hlk : meth.locks = false) (hEs : E.2.2.2 = s.heap.size) (hX : va_X b L xs s s.heap) (hbl : b < s.heap.size) (hE0 : zE E s s.heap) (hS : va_S (zOld E) s.heap H locs) {ad : Nat → Nat} {en : Nat → va_E} {ou : Nat} {u p1 : Bool} (hst : zSt E false 0 ad en (zS0 u p1) zC0 H) (hou : zOu E ou 0 H) (hne : ∀ i, zRo false 0 i → ad i ≠ ou) (hoo : zOld E ou) {mo tb kq mq te tq oq ho hq nl ul mk xq cq pq : Nat} {u2 p2 : Bool} {la : Int} {f9 : Nat → Int32} (hM : va_P E.1 zcl (zWM E mo tb kq mq te tq oq ho hq nl ul mk xq cq pq u2 p2 la f9) H) (hMD : va_D (zOld E) (zWM E mo tb kq mq te tq oq ho hq nl ul mk xq cq pq u2 p2 la f9)) (hMn : ∀ (k : Nat) (q : Nat × va_E), (zWM E mo tb kq mq te tq oq ho hq nl ul mk xq cq pq u2 p2 la f9)[k]? = some q → q.1 ≠ ou ∧ ∀ i, zRo false 0 i → ad i ≠ q.1) (hl : lv_has ls 7 [(4, .int (iI 1)), (3, .ref ou), (2, .ref mo), (1, .ref (ad 0)), (0, .ref b)]) : W p l e room_1 s m #[Value.ref b] below meth c H locs 1000 300000 (lw_Z below #[Value.ref b] s) (F0 m 33 ls []) := by
  have hx := S.1
  have hb := S.2.1
  have hbA : ¬ zOld E b := by unfold zOld; omega
  have hE := hE0.at hS (fun q h => h)
  refine lv_iload hx hb d_law_33 (lv_at hl 0 rfl) ?_
  refine lv_aload_n hx hb d_law_35 rfl (lv_at hl 4 rfl) ?_
  refine va_slen hx hb hX hbl hbA hS d_law_36 ?_
  refine W.eq (g2 := F0 m 37 ls [.int (iI ((L : Nat) : Int)), .int (iI 1)]) (by rw [zofNat]) ?_
  refine zi_bipush hx hb d_law_37 (by decide) ?_
  refine zi_isub hx hb d_law_39 ?_
  refine zi_icmp_gt hx hb d_law_40 rfl ⟨by omega, by omega⟩ ⟨by omega, by omega⟩ (fun h40 => ?_) (fun h40 => ?_)
  · exact zlaw_out S hr hlk hEs hX hbl hS (by omega) (by omega)
  · obtain rfl : L = 7 := by omega
    refine lv_aload_n hx hb d_law_43 rfl (lv_at hl 4 rfl) ?_
    refine lv_iload hx hb d_law_44 (lv_at hl 0 rfl) ?_
    refine va_sld hx hb hX hbl hbA hS (iI_in (by decide) (by decide) (by decide)) d_law_46 ?_
    obtain ⟨a1, ea⟩ : ∃ z : Int, xs 1 = iI z := ⟨_, iI_of _⟩
    refine W.eq (g2 := F0 m 47 ls [.int (iI a1)]) (by rw [← ea] <;> rfl) ?_
    refine zi_bipush hx hb d_law_47 (by decide) ?_
    refine zi_iand (r := (iI a1 &&& iI 15).toInt) hx hb d_law_49 (iI_of _) ?_
    obtain ⟨r, hr9⟩ : ∃ r : Int, (iI a1 &&& iI 15).toInt = r := ⟨_, rfl⟩
    have h32 : r32 r := hr9 ▸ iI_r _
    rw [hr9]
    obtain ⟨k0, hk0, ek⟩ : ∃ k : Int, r32 k ∧ iI k = xs 2 := ⟨(xs 2).toInt, iI_r _, (iI_of _).symm⟩
    rcases (by omega : r = 0 ∨ r = 1 ∨ r = 2 ∨ r = 3 ∨ r = 4 ∨ r = 5 ∨ r = 6 ∨ r = 7 ∨ r = 8 ∨ r = 9 ∨ r = 10 ∨ (r < 0 ∨ 10 < r)) with rfl | rfl | rfl | rfl | rfl | rfl | rfl | rfl | rfl | rfl | rfl | hrr
    · refine lv_tableIn (off := 58) (tgt := 108) hx hb d_law_50 (by decide) (by decide) rfl rfl ?_
      exact zlaw_feed0 htl S hr hlk hEs hX hbl hE0 hS hst hou hne hoo hM hMD hMn hl
    · refine lv_tableIn (off := 162) (tgt := 212) hx hb d_law_50 (by decide) (by decide) rfl rfl ?_
      by_cases hz0 : k0 = 0
      · exact zlaw_end0 htl S hr hlk hEs hX hbl hE0 hS hst hou hne hoo hM hMD hMn hl k0 hk0 ek hz0
      · exact zlaw_end1 htl S hr hlk hEs hX hbl hE0 hS hst hou hne hoo hM hMD hMn hl k0 hk0 ek hz0
    · refine lv_tableIn (off := 218) (tgt := 268) hx hb d_law_50 (by decide) (by decide) rfl rfl ?_
      by_cases hz0 : 0 ≤ k0 ∧ k0 ≤ 99
      · exact zlaw_groups0 htl S hr hlk hEs hX hbl hE0 hS hst hou hne hoo hM hMD hMn hl k0 hk0 ek hz0
      · exact zlaw_groups1 htl S hr hlk hEs hX hbl hE0 hS hst hou hne hoo hM hMD hMn hl k0 hk0 ek hz0
    · refine lv_tableIn (off := 254) (tgt := 304) hx hb d_law_50 (by decide) (by decide) rfl rfl ?_
      by_cases hz0 : k0 = 0
      · exact zlaw_set0 htl S hr hlk hEs hX hbl hE0 hS hst hou hne hoo hM hMD hMn hl k0 hk0 ek hz0
      · exact zlaw_set1 htl S hr hlk hEs hX hbl hE0 hS hst hou hne hoo hM hMD hMn hl k0 hk0 ek hz0
    · refine lv_tableIn (off := 310) (tgt := 360) hx hb d_law_50 (by decide) (by decide) rfl rfl ?_
      by_cases hz0 : k0 = 0
      · exact zlaw_unset0 htl S hr hlk hEs hX hbl hE0 hS hst hou hne hoo hM hMD hMn hl k0 hk0 ek hz0
      · exact zlaw_unset1 htl S hr hlk hEs hX hbl hE0 hS hst hou hne hoo hM hMD hMn hl k0 hk0 ek hz0
    · refine lv_tableIn (off := 346) (tgt := 396) hx hb d_law_50 (by decide) (by decide) rfl rfl ?_
      exact zlaw_name0 htl S hr hlk hEs hX hbl hE0 hS hst hou hne hoo hM hMD hMn hl k0 hk0 ek
    · refine lv_tableIn (off := 402) (tgt := 452) hx hb d_law_50 (by decide) (by decide) rfl rfl ?_
      exact zlaw_mark0 htl S hr hlk hEs hX hbl hE0 hS hst hou hne hoo hM hMD hMn hl
    · refine lv_tableIn (off := 446) (tgt := 496) hx hb d_law_50 (by decide) (by decide) rfl rfl ?_
      by_cases hz0 : iI k0 &&& iI (-7681) = iI 0
      · obtain ⟨ov, hov, eo⟩ := zopt (v := iI k0) (by rw [hz0]; rfl)
        by_cases h8 : 8 ≤ ov
        · exact zlaw_write0 htl S hr hlk hEs hX hbl hE0 hS hst hou hne hoo hM hMD hMn hl k0 hk0 ek hz0 ov hov eo h8
        · exact zlaw_write1 htl S hr hlk hEs hX hbl hE0 hS hst hou hne hoo hM hMD hMn hl k0 hk0 ek hz0 ov hov eo (by omega)
      · exact zlaw_write2 htl S hr hlk hEs hX hbl hE0 hS hst hou hne hoo hM hMD hMn hl k0 hk0 ek hz0
    · refine lv_tableIn (off := 502) (tgt := 552) hx hb d_law_50 (by decide) (by decide) rfl rfl ?_
      exact zlaw_result0 htl S hr hlk hEs hX hbl hE0 hS hst hou hne hoo hM hMD hMn hl k0 hk0 ek
    · refine lv_tableIn (off := 558) (tgt := 608) hx hb d_law_50 (by decide) (by decide) rfl rfl ?_
      by_cases hz0 : k0 = 0
      · exact zlaw_fault0 htl S hr hlk hEs hX hbl hE0 hS hst hou hne hoo hM hMD hMn hl k0 hk0 ek hz0
      · by_cases hz1 : k0 = 1
        · exact zlaw_fault1 htl S hr hlk hEs hX hbl hE0 hS hst hou hne hoo hM hMD hMn hl k0 hk0 ek hz1
        · exact zlaw_fault2 htl S hr hlk hEs hX hbl hE0 hS hst hou hne hoo hM hMD hMn hl k0 hk0 ek ⟨hz0, hz1⟩
    · refine lv_tableIn (off := 614) (tgt := 664) hx hb d_law_50 (by decide) (by decide) rfl rfl ?_
      exact zlaw_count0 htl S hr hlk hEs hX hbl hE0 hS hst hou hne hoo hM hMD hMn hl k0 hk0 ek
    · refine lv_tableOut (tgt := 689) hx hb d_law_50 (by rw [iI_toInt h32]; exact hrr) rfl ?_
      exact zlaw_tail S hr hlk hEs hX hbl hS (by omega) (by omega) (by decide) (lv_sub hl [0, 4] rfl)
set_option maxRecDepth 100000 in
set_option maxHeartbeats 4000000 in
theorem zlaw_start (l : Launch) (htl : ∀ e : Env, l.admits e → e.platform.stackTraces = false) {p : Program} {e : Env} {s : State} {m : MethodId} {below : List Frame} {meth : Method} {c : Code} {b L : Nat} {xs : Nat → Int32} {E : zP} {ls : Array Slot} (hL : L ≤ 7) (S : CallFix p m c code 7 s #[Value.ref b] zw "ReplacementWriterLaw") (hr : meth.sig.returnType = ret) (hlk : meth.locks = false) (hEs : E.2.2.2 = s.heap.size) (hX : va_X b L xs s s.heap) (hbl : b < s.heap.size) (hE : zE E s s.heap) (hl : lv_has ls 7 [(0, .ref b)]) : W p l e { frames := (2048 : Nat), cells := (600002 : Nat), slots := (7302198 : Nat), locals := (84000 : Nat) } s m #[Value.ref b] below meth c s.heap [] 0 0 (lw_Z below #[Value.ref b] s) (F0 m 0 ls []) := by
  have hx := S.1
  have hb := S.2.1
  have hE0 := hE
  obtain ⟨mode, em⟩ : ∃ z : Int, (if 0 < L then xs 0 else 0 : Int32) = iI z := ⟨_, iI_of _⟩
  obtain ⟨A, hAe⟩ : ∃ A : Nat → Prop, A = zOld E := ⟨_, rfl⟩
  have hA0 : ∀ q, A q → zOld E q := fun q h => by rw [← hAe]; exact h
  have hA : ∀ q : Nat, s.heap.size ≤ q → A q := fun q h => by rw [hAe]; unfold zOld; omega
  have hbA : ¬ A b := fun h => by
    have := hA0 b h
    unfold zOld at this
    omega
  have hP : va_P E.1 zcl [] s.heap := fun k q h => by simp at h
  have hD : va_D A [] := ⟨fun i j p q h => by simp at h, fun k q h => by simp at h⟩
  have hS : va_S A s.heap s.heap [] := va_S.rf
  refine va_new (D := E.1) (ci := 0) (C := "ReplacementWriter") (T := F_RW) (N := 7) (fs := [.null, .null, .null, .null, .null, .int (iI 0), .int (iI 0)]) hx hb S.2.2.2.2 i_RW t_RW t_RW_ok S.2.2.2.1 (S.2.2.2.2 _ zw_39) (S.2.2.2.2 _ zw_40) (S.2.2.2.2 _ zw_1) hE.1 hP hD hS hA rfl v_RW (by (try dsimp only); omega) (by (try dsimp only); omega) d_law_0 (fun x H hP hD hS => ?_)
  have hP : va_P E.1 zcl ([(x, .inr (0, [.null, .null, .null, .null, .null, .int (iI 0), .int (iI 0)]))]) H := hP
  have hD : va_D A ([(x, .inr (0, [.null, .null, .null, .null, .null, .int (iI 0), .int (iI 0)]))]) := hD
  have hE := hE0.at hS hA0
  refine lv_dup hx hb d_law_3 rfl ?_
  refine lv_aload_n hx hb d_law_4 rfl (lv_at hl 0 rfl) ?_
  refine zi_iconst hx hb d_law_5 ?_
  refine zcR (va_runS (As := [.ref b, .int (iI 0)]) (rest := [.ref x, .ref x]) S (c_Law_cell l b L xs hL) ⟨zcwB (n := 2) S zw_273 zw_0 zw_271 (by decide +kernel) rfl rfl ⟨Nat.le_of_ble_eq_true rfl, Nat.le_of_ble_eq_true rfl⟩, S.2.2.2.2 _ zw_272⟩ ⟨fun a U g mk q => ⟨q.1, va_X.moved (u := U) (U := U.calling g mk a) (Vm.Alike.refl U.vm) q.2.1, q.2.2⟩, fun U hU hW => ⟨rfl, by rw [hU]; exact va_X.moved hW.alike (hX.kept (hS.2.1 b hbl hbA)), by rw [hU]; exact Nat.lt_of_lt_of_le hbl hS.1⟩⟩ rfl rfl hl.1 rfl (lv_room (Nat.le_of_ble_eq_true rfl)) d_law_6 ⟨by (try dsimp only); omega, by (try dsimp only); omega⟩) ?_
  refine W.eq (g2 := F0 m 9 ls [.int (iI mode), .ref x, .ref x]) (by rw [em]) ?_
  have hFc := va_free (wc := [(x, .inr (0, [.null, .null, .null, .null, .null, .int (iI 0), .int (iI 0)]))]) hD hS hA [0] rfl
  refine zcW (va_runI (As := [.int (iI mode)]) (rest := [.ref x]) S (c_RW_init l E _ x mode) ⟨zcwB (n := 1) S zw_43 zw_1 zw_41 (by decide +kernel) rfl rfl ⟨Nat.le_of_ble_eq_true rfl, Nat.le_of_ble_eq_true rfl⟩, rfl, S.2.2.2.2 _ zw_42⟩ (zPreS hE ⟨rfl, hP, hD.weaken (fun _ _ _ h => hA0 _ h), trivial⟩) rfl rfl hl.1 rfl (lv_room (Nat.le_of_ble_eq_true rfl)) d_law_9 ⟨by (try dsimp only); omega, by (try dsimp only); omega⟩) hS (fun q _ h => hFc q h) hFc (fun v H locs hq hz1 hk1 hS => ?_)
  obtain ⟨rfl, en0, tx0, q0, gr0, h0, w0, ca0, rb0, oq0, es0, ta0, sa0, al0, mk0, mq0, rs, hrs, hP1, hD1⟩ := hq
  obtain ⟨pl, hpl⟩ : ∃ pl : va_W, pl = [(x, .inr (0, [.ref en0, .ref tx0, .ref gr0, .ref h0, .ref w0, .int (iI 0), .int (iI (-1))])), (en0, .inr (2, [.int (iI (bN (decide ((iI mode &&& iI 1).toInt ≠ 0))))])), (tx0, .inr (1, [.int (iI 65536), .ref q0, .int (iI 0)])), (q0, .inl (E.2.1 0, 16, .inl (fun _ => 0))), (gr0, .inr (5, [.ref ta0, .ref sa0, .ref al0, .ref mk0, .int (iI 0), .int (iI 0)])), (h0, .inr (6, [.ref en0, .ref ca0, .ref rb0, .ref (E.2.2.1 1), .ref (E.2.2.1 1), .int (iI (bN false))])), (w0, .inr (8, [.ref tx0, .ref gr0, .ref h0, .ref en0, .ref es0, .int (iI (bN false)), .int (iI (bN false)), .int (iI (bN false)), .int (iI 0), .int (iI (-1))])), (ca0, .inr (3, [.int (iI ((5 * sp_many (decide ((iI mode &&& iI 1).toInt ≠ 0)) (decide ((iI mode &&& iI 2).toInt ≠ 0)) : Nat) : Int))])), (rb0, .inr (1, [.int (iI 262144), .ref oq0, .int (iI 0)])), (oq0, .inl (E.2.1 0, 16, .inl (fun _ => 0))), (es0, .inr (7, [.ref tx0, .ref en0, .int (iI 0), .int (iI 0)])), (ta0, .inl (E.2.1 4, 100, .inr (.inr (.inr (.inr (zRf rs)))))), (sa0, .inl (E.2.1 1, 100, .inl (fun _ => 0))), (al0, .inr (9, [.ref (E.2.2.1 4), .int (iI 0), .int (iI 0)])), (mk0, .inr (1, [.int (iI 65536), .ref mq0, .int (iI 0)])), (mq0, .inl (E.2.1 0, 16, .inl (fun _ => 0)))] ++ zRs E rs := ⟨_, rfl⟩
  rw [← hpl] at hP1 hD1
  obtain ⟨hP, hD⟩ := va_join (wr := []) (w1 := pl) hP hD [0] [] rfl rfl (by decide) (by decide) hk1 hFc hP1 hD1
  have hP : va_P E.1 zcl ([] ++ pl) H := hP
  have hD : va_D A ([] ++ pl) := hD
  have hE := hE0.at hS hA0
  refine lv_astore_n (lv' := [(1, .ref x), (0, .ref b)]) hx hb d_law_12 rfl hl (by decide) rfl (fun ls hl => ?_)
  refine va_new (D := E.1) (ci := 10) (C := "ReplacementWriterModel") (T := F_Mod) (N := 12) (fs := [.null, .null, .null, .null, .int (iI 0), .int (iI 0), .int (iI 0), .int (iI (bN false)), .null, .null, .int (iI 0), .int (iI 0)]) hx hb S.2.2.2.2 i_Mod t_Mod t_Mod_ok S.2.2.2.1 (S.2.2.2.2 _ zw_864) (S.2.2.2.2 _ zw_865) (S.2.2.2.2 _ zw_14) hE.1 hP hD hS hA rfl v_Mod (by (try dsimp only); omega) (by (try dsimp only); omega) d_law_13 (fun mo H hP hD hS => ?_)
  have hP := va_P.swap (a := []) (b := pl) (c := [(mo, .inr (10, [.null, .null, .null, .null, .int (iI 0), .int (iI 0), .int (iI 0), .int (iI (bN false)), .null, .null, .int (iI 0), .int (iI 0)]))]) hP
  have hD := va_D.swap (a := []) (b := pl) (c := [(mo, .inr (10, [.null, .null, .null, .null, .int (iI 0), .int (iI 0), .int (iI 0), .int (iI (bN false)), .null, .null, .int (iI 0), .int (iI 0)]))]) hD
  have hP : va_P E.1 zcl ([(mo, .inr (10, [.null, .null, .null, .null, .int (iI 0), .int (iI 0), .int (iI 0), .int (iI (bN false)), .null, .null, .int (iI 0), .int (iI 0)]))] ++ pl) H := hP
  have hD : va_D A ([(mo, .inr (10, [.null, .null, .null, .null, .int (iI 0), .int (iI 0), .int (iI 0), .int (iI (bN false)), .null, .null, .int (iI 0), .int (iI 0)]))] ++ pl) := hD
  have hE := hE0.at hS hA0
  refine lv_dup hx hb d_law_16 rfl ?_
  refine lv_aload_n hx hb d_law_17 rfl (lv_at hl 1 rfl) ?_
  refine zi_iconst hx hb d_law_18 ?_
  refine zcR (va_runS (As := [.ref b, .int (iI 0)]) (rest := [.ref mo, .ref mo]) S (c_Law_cell l b L xs hL) ⟨zcwB (n := 2) S zw_273 zw_0 zw_271 (by decide +kernel) rfl rfl ⟨Nat.le_of_ble_eq_true rfl, Nat.le_of_ble_eq_true rfl⟩, S.2.2.2.2 _ zw_272⟩ ⟨fun a U g mk q => ⟨q.1, va_X.moved (u := U) (U := U.calling g mk a) (Vm.Alike.refl U.vm) q.2.1, q.2.2⟩, fun U hU hW => ⟨rfl, by rw [hU]; exact va_X.moved hW.alike (hX.kept (hS.2.1 b hbl hbA)), by rw [hU]; exact Nat.lt_of_lt_of_le hbl hS.1⟩⟩ rfl rfl hl.1 rfl (lv_room (Nat.le_of_ble_eq_true rfl)) d_law_19 ⟨by (try dsimp only); omega, by (try dsimp only); omega⟩) ?_
  refine W.eq (g2 := F0 m 22 ls [.int (iI mode), .ref mo, .ref mo]) (by rw [em]) ?_
  have hPc := hP.sub (ws' := [(mo, .inr (10, [.null, .null, .null, .null, .int (iI 0), .int (iI 0), .int (iI 0), .int (iI (bN false)), .null, .null, .int (iI 0), .int (iI 0)]))]) [0] rfl
  have hDc := hD.sub (ws' := [(mo, .inr (10, [.null, .null, .null, .null, .int (iI 0), .int (iI 0), .int (iI 0), .int (iI (bN false)), .null, .null, .int (iI 0), .int (iI 0)]))]) [0] (by decide) rfl
  have hFc := va_free (wc := [(mo, .inr (10, [.null, .null, .null, .null, .int (iI 0), .int (iI 0), .int (iI 0), .int (iI (bN false)), .null, .null, .int (iI 0), .int (iI 0)]))]) hD hS hA [0] rfl
  refine zcW (va_runI (As := [.int (iI mode)]) (rest := [.ref mo]) S (c_Mod_init l E _ mo mode) ⟨zcwB (n := 1) S zw_868 zw_14 zw_866 (by decide +kernel) rfl rfl ⟨Nat.le_of_ble_eq_true rfl, Nat.le_of_ble_eq_true rfl⟩, rfl, S.2.2.2.2 _ zw_867⟩ (zPreS hE ⟨rfl, hPc, hDc.weaken (fun _ _ _ h => hA0 _ h), trivial⟩) rfl rfl hl.1 rfl (lv_room (Nat.le_of_ble_eq_true rfl)) d_law_22 ⟨by (try dsimp only); omega, by (try dsimp only); omega⟩) hS (fun q _ h => hFc q h) hFc (fun v H locs hq hz1 hk1 hS => ?_)
  obtain ⟨rfl, tb, kq, mq, te, tq, oq, ho, hq, nl, ul, mk, xq, cq, pq, la, f9, hP1, hD1⟩ := hq
  obtain ⟨hP, hD⟩ := va_joinQ (X := [(mo, .inr (10, [.null, .null, .null, .null, .int (iI 0), .int (iI 0), .int (iI 0), .int (iI (bN false)), .null, .null, .int (iI 0), .int (iI 0)]))]) (pl := pl) (cx := [(mo, .inr (10, [.null, .null, .null, .null, .int (iI 0), .int (iI 0), .int (iI 0), .int (iI (bN false)), .null, .null, .int (iI 0), .int (iI 0)]))]) (wr := []) (w1 := [(mo, .inr (10, [.ref tb, .ref te, .ref ho, .ref xq, .int (iI 0), .int (iI 0), .int (iI 0), .int (iI (bN false)), .ref cq, .ref pq, .int (iI 0), .int (iI (-1))])), (tb, .inr (11, [.ref kq, .int (iI (bN (decide ((iI mode &&& iI 1).toInt ≠ 0)))), .int (iI (bN (decide ((iI mode &&& iI 2).toInt ≠ 0)))), .int (iI la), .ref mq, .int (iI 0)])), (kq, .inl (E.2.1 0, 12544, .inl f9)), (mq, .inl (E.2.1 2, 4, .inl (fun _ => 0))), (te, .inr (12, [.ref tb, .null, .int (iI (bN false)), .int (iI (bN false)), .int (iI (bN false)), .ref tq, .int (iI 0), .ref oq, .int (iI 0), .int (iI 0), .int (iI 0), .int (iI (-1)), .int (iI 0)])), (tq, .inl (E.2.1 2, 64, .inl (fun _ => 0))), (oq, .inl (E.2.1 0, 256, .inl (fun _ => 0))), (ho, .inr (13, [.int (iI 0), .ref hq, .ref nl, .ref ul, .ref mk])), (hq, .inl (E.2.1 6, 100, .inr (.inr (.inr (.inr (fun _ => none)))))), (nl, .inr (9, [.ref (E.2.2.1 4), .int (iI 0), .int (iI 0)])), (ul, .inr (9, [.ref (E.2.2.1 4), .int (iI 0), .int (iI 0)])), (mk, .inl (E.2.1 2, 0, .inl (fun _ => 0))), (xq, .inl (E.2.1 0, 65536, .inl (fun _ => 0))), (cq, .inl (E.2.1 2, 65536, .inl (fun _ => 0))), (pq, .inl (E.2.1 2, 65537, .inl (fun _ => 0)))]) hP hD [0] [] rfl rfl (by decide) (by decide) hk1 hFc hP1 hD1
  have hP : va_P E.1 zcl ([(mo, .inr (10, [.ref tb, .ref te, .ref ho, .ref xq, .int (iI 0), .int (iI 0), .int (iI 0), .int (iI (bN false)), .ref cq, .ref pq, .int (iI 0), .int (iI (-1))])), (tb, .inr (11, [.ref kq, .int (iI (bN (decide ((iI mode &&& iI 1).toInt ≠ 0)))), .int (iI (bN (decide ((iI mode &&& iI 2).toInt ≠ 0)))), .int (iI la), .ref mq, .int (iI 0)])), (kq, .inl (E.2.1 0, 12544, .inl f9)), (mq, .inl (E.2.1 2, 4, .inl (fun _ => 0))), (te, .inr (12, [.ref tb, .null, .int (iI (bN false)), .int (iI (bN false)), .int (iI (bN false)), .ref tq, .int (iI 0), .ref oq, .int (iI 0), .int (iI 0), .int (iI 0), .int (iI (-1)), .int (iI 0)])), (tq, .inl (E.2.1 2, 64, .inl (fun _ => 0))), (oq, .inl (E.2.1 0, 256, .inl (fun _ => 0))), (ho, .inr (13, [.int (iI 0), .ref hq, .ref nl, .ref ul, .ref mk])), (hq, .inl (E.2.1 6, 100, .inr (.inr (.inr (.inr (fun _ => none)))))), (nl, .inr (9, [.ref (E.2.2.1 4), .int (iI 0), .int (iI 0)])), (ul, .inr (9, [.ref (E.2.2.1 4), .int (iI 0), .int (iI 0)])), (mk, .inl (E.2.1 2, 0, .inl (fun _ => 0))), (xq, .inl (E.2.1 0, 65536, .inl (fun _ => 0))), (cq, .inl (E.2.1 2, 65536, .inl (fun _ => 0))), (pq, .inl (E.2.1 2, 65537, .inl (fun _ => 0)))] ++ pl) H := hP
  have hD : va_D A ([(mo, .inr (10, [.ref tb, .ref te, .ref ho, .ref xq, .int (iI 0), .int (iI 0), .int (iI 0), .int (iI (bN false)), .ref cq, .ref pq, .int (iI 0), .int (iI (-1))])), (tb, .inr (11, [.ref kq, .int (iI (bN (decide ((iI mode &&& iI 1).toInt ≠ 0)))), .int (iI (bN (decide ((iI mode &&& iI 2).toInt ≠ 0)))), .int (iI la), .ref mq, .int (iI 0)])), (kq, .inl (E.2.1 0, 12544, .inl f9)), (mq, .inl (E.2.1 2, 4, .inl (fun _ => 0))), (te, .inr (12, [.ref tb, .null, .int (iI (bN false)), .int (iI (bN false)), .int (iI (bN false)), .ref tq, .int (iI 0), .ref oq, .int (iI 0), .int (iI 0), .int (iI 0), .int (iI (-1)), .int (iI 0)])), (tq, .inl (E.2.1 2, 64, .inl (fun _ => 0))), (oq, .inl (E.2.1 0, 256, .inl (fun _ => 0))), (ho, .inr (13, [.int (iI 0), .ref hq, .ref nl, .ref ul, .ref mk])), (hq, .inl (E.2.1 6, 100, .inr (.inr (.inr (.inr (fun _ => none)))))), (nl, .inr (9, [.ref (E.2.2.1 4), .int (iI 0), .int (iI 0)])), (ul, .inr (9, [.ref (E.2.2.1 4), .int (iI 0), .int (iI 0)])), (mk, .inl (E.2.1 2, 0, .inl (fun _ => 0))), (xq, .inl (E.2.1 0, 65536, .inl (fun _ => 0))), (cq, .inl (E.2.1 2, 65536, .inl (fun _ => 0))), (pq, .inl (E.2.1 2, 65537, .inl (fun _ => 0)))] ++ pl) := hD
  have hE := hE0.at hS hA0
  refine lv_astore_n (lv' := [(2, .ref mo), (1, .ref x), (0, .ref b)]) hx hb d_law_25 rfl hl (by decide) rfl (fun ls hl => ?_)
  refine zi_iconst hx hb d_law_26 ?_
  refine znewa (atype := .long) (k := 3) (N := 1) (a0 := (1, .inr (.inl (fun _ => 0)))) S hE zw_1392 rfl (zfc3 hE) hP hD hS hA (fun _ => rfl) (by omega) (by omega) (by omega) (by show _ * 8 ≤ _; omega) (by (try dsimp only); omega) (by (try dsimp only); omega) d_law_27 (fun ou H hP hD hS => ?_)
  have hP := va_P.swap (a := [(mo, .inr (10, [.ref tb, .ref te, .ref ho, .ref xq, .int (iI 0), .int (iI 0), .int (iI 0), .int (iI (bN false)), .ref cq, .ref pq, .int (iI 0), .int (iI (-1))])), (tb, .inr (11, [.ref kq, .int (iI (bN (decide ((iI mode &&& iI 1).toInt ≠ 0)))), .int (iI (bN (decide ((iI mode &&& iI 2).toInt ≠ 0)))), .int (iI la), .ref mq, .int (iI 0)])), (kq, .inl (E.2.1 0, 12544, .inl f9)), (mq, .inl (E.2.1 2, 4, .inl (fun _ => 0))), (te, .inr (12, [.ref tb, .null, .int (iI (bN false)), .int (iI (bN false)), .int (iI (bN false)), .ref tq, .int (iI 0), .ref oq, .int (iI 0), .int (iI 0), .int (iI 0), .int (iI (-1)), .int (iI 0)])), (tq, .inl (E.2.1 2, 64, .inl (fun _ => 0))), (oq, .inl (E.2.1 0, 256, .inl (fun _ => 0))), (ho, .inr (13, [.int (iI 0), .ref hq, .ref nl, .ref ul, .ref mk])), (hq, .inl (E.2.1 6, 100, .inr (.inr (.inr (.inr (fun _ => none)))))), (nl, .inr (9, [.ref (E.2.2.1 4), .int (iI 0), .int (iI 0)])), (ul, .inr (9, [.ref (E.2.2.1 4), .int (iI 0), .int (iI 0)])), (mk, .inl (E.2.1 2, 0, .inl (fun _ => 0))), (xq, .inl (E.2.1 0, 65536, .inl (fun _ => 0))), (cq, .inl (E.2.1 2, 65536, .inl (fun _ => 0))), (pq, .inl (E.2.1 2, 65537, .inl (fun _ => 0)))]) (b := pl) (c := [(ou, .inl (E.2.1 3, 1, .inr (.inl (fun _ => 0))))]) hP
  have hD := va_D.swap (a := [(mo, .inr (10, [.ref tb, .ref te, .ref ho, .ref xq, .int (iI 0), .int (iI 0), .int (iI 0), .int (iI (bN false)), .ref cq, .ref pq, .int (iI 0), .int (iI (-1))])), (tb, .inr (11, [.ref kq, .int (iI (bN (decide ((iI mode &&& iI 1).toInt ≠ 0)))), .int (iI (bN (decide ((iI mode &&& iI 2).toInt ≠ 0)))), .int (iI la), .ref mq, .int (iI 0)])), (kq, .inl (E.2.1 0, 12544, .inl f9)), (mq, .inl (E.2.1 2, 4, .inl (fun _ => 0))), (te, .inr (12, [.ref tb, .null, .int (iI (bN false)), .int (iI (bN false)), .int (iI (bN false)), .ref tq, .int (iI 0), .ref oq, .int (iI 0), .int (iI 0), .int (iI 0), .int (iI (-1)), .int (iI 0)])), (tq, .inl (E.2.1 2, 64, .inl (fun _ => 0))), (oq, .inl (E.2.1 0, 256, .inl (fun _ => 0))), (ho, .inr (13, [.int (iI 0), .ref hq, .ref nl, .ref ul, .ref mk])), (hq, .inl (E.2.1 6, 100, .inr (.inr (.inr (.inr (fun _ => none)))))), (nl, .inr (9, [.ref (E.2.2.1 4), .int (iI 0), .int (iI 0)])), (ul, .inr (9, [.ref (E.2.2.1 4), .int (iI 0), .int (iI 0)])), (mk, .inl (E.2.1 2, 0, .inl (fun _ => 0))), (xq, .inl (E.2.1 0, 65536, .inl (fun _ => 0))), (cq, .inl (E.2.1 2, 65536, .inl (fun _ => 0))), (pq, .inl (E.2.1 2, 65537, .inl (fun _ => 0)))]) (b := pl) (c := [(ou, .inl (E.2.1 3, 1, .inr (.inl (fun _ => 0))))]) hD
  have hP : va_P E.1 zcl (([(mo, .inr (10, [.ref tb, .ref te, .ref ho, .ref xq, .int (iI 0), .int (iI 0), .int (iI 0), .int (iI (bN false)), .ref cq, .ref pq, .int (iI 0), .int (iI (-1))])), (tb, .inr (11, [.ref kq, .int (iI (bN (decide ((iI mode &&& iI 1).toInt ≠ 0)))), .int (iI (bN (decide ((iI mode &&& iI 2).toInt ≠ 0)))), .int (iI la), .ref mq, .int (iI 0)])), (kq, .inl (E.2.1 0, 12544, .inl f9)), (mq, .inl (E.2.1 2, 4, .inl (fun _ => 0))), (te, .inr (12, [.ref tb, .null, .int (iI (bN false)), .int (iI (bN false)), .int (iI (bN false)), .ref tq, .int (iI 0), .ref oq, .int (iI 0), .int (iI 0), .int (iI 0), .int (iI (-1)), .int (iI 0)])), (tq, .inl (E.2.1 2, 64, .inl (fun _ => 0))), (oq, .inl (E.2.1 0, 256, .inl (fun _ => 0))), (ho, .inr (13, [.int (iI 0), .ref hq, .ref nl, .ref ul, .ref mk])), (hq, .inl (E.2.1 6, 100, .inr (.inr (.inr (.inr (fun _ => none)))))), (nl, .inr (9, [.ref (E.2.2.1 4), .int (iI 0), .int (iI 0)])), (ul, .inr (9, [.ref (E.2.2.1 4), .int (iI 0), .int (iI 0)])), (mk, .inl (E.2.1 2, 0, .inl (fun _ => 0))), (xq, .inl (E.2.1 0, 65536, .inl (fun _ => 0))), (cq, .inl (E.2.1 2, 65536, .inl (fun _ => 0))), (pq, .inl (E.2.1 2, 65537, .inl (fun _ => 0)))] ++ [(ou, .inl (E.2.1 3, 1, .inr (.inl (fun _ => 0))))]) ++ pl) H := hP
  have hD : va_D A (([(mo, .inr (10, [.ref tb, .ref te, .ref ho, .ref xq, .int (iI 0), .int (iI 0), .int (iI 0), .int (iI (bN false)), .ref cq, .ref pq, .int (iI 0), .int (iI (-1))])), (tb, .inr (11, [.ref kq, .int (iI (bN (decide ((iI mode &&& iI 1).toInt ≠ 0)))), .int (iI (bN (decide ((iI mode &&& iI 2).toInt ≠ 0)))), .int (iI la), .ref mq, .int (iI 0)])), (kq, .inl (E.2.1 0, 12544, .inl f9)), (mq, .inl (E.2.1 2, 4, .inl (fun _ => 0))), (te, .inr (12, [.ref tb, .null, .int (iI (bN false)), .int (iI (bN false)), .int (iI (bN false)), .ref tq, .int (iI 0), .ref oq, .int (iI 0), .int (iI 0), .int (iI 0), .int (iI (-1)), .int (iI 0)])), (tq, .inl (E.2.1 2, 64, .inl (fun _ => 0))), (oq, .inl (E.2.1 0, 256, .inl (fun _ => 0))), (ho, .inr (13, [.int (iI 0), .ref hq, .ref nl, .ref ul, .ref mk])), (hq, .inl (E.2.1 6, 100, .inr (.inr (.inr (.inr (fun _ => none)))))), (nl, .inr (9, [.ref (E.2.2.1 4), .int (iI 0), .int (iI 0)])), (ul, .inr (9, [.ref (E.2.2.1 4), .int (iI 0), .int (iI 0)])), (mk, .inl (E.2.1 2, 0, .inl (fun _ => 0))), (xq, .inl (E.2.1 0, 65536, .inl (fun _ => 0))), (cq, .inl (E.2.1 2, 65536, .inl (fun _ => 0))), (pq, .inl (E.2.1 2, 65537, .inl (fun _ => 0)))] ++ [(ou, .inl (E.2.1 3, 1, .inr (.inl (fun _ => 0))))]) ++ pl) := hD
  have hE := hE0.at hS hA0
  refine lv_astore_n (lv' := [(3, .ref ou), (2, .ref mo), (1, .ref x), (0, .ref b)]) hx hb d_law_29 rfl hl (by decide) rfl (fun ls hl => ?_)
  refine zi_iconst hx hb d_law_30 ?_
  refine lv_istore (lv' := [(4, .int (iI 1)), (3, .ref ou), (2, .ref mo), (1, .ref x), (0, .ref b)]) hx hb d_law_31 hl (by decide) rfl (fun ls hl => ?_)
  have hP2 : va_P E.1 zcl (((zWM E mo tb kq mq te tq oq ho hq nl ul mk xq cq pq (decide ((iI mode &&& iI 1).toInt ≠ 0)) (decide ((iI mode &&& iI 2).toInt ≠ 0)) la f9) ++ [(ou, .inl (E.2.1 3, 1, .inr (.inl (fun _ => 0))))]) ++ pl) H := hP
  have hD2 : va_D (zOld E) (((zWM E mo tb kq mq te tq oq ho hq nl ul mk xq cq pq (decide ((iI mode &&& iI 1).toInt ≠ 0)) (decide ((iI mode &&& iI 2).toInt ≠ 0)) la f9) ++ [(ou, .inl (E.2.1 3, 1, .inr (.inl (fun _ => 0))))]) ++ pl) := by rw [← hAe]; exact hD
  have hM := zapp_l (zapp_l hP2)
  have hMD := zDapp_l (zDapp_l hD2)
  have hou : zOu E ou 0 H := zapp_l hP2 15 _ rfl
  have hoo : zOld E ou := (zDapp_l hD2).2 15 _ rfl
  have hPl := zapp_r hP2
  have hDl := zDapp_r hD2
  subst hpl
  obtain ⟨ad, en', h00, hin, hst⟩ := zSt_fresh hrs hE0.elistA (fun y h => h.1) hPl hDl
  have hne : ∀ i, zRo false 0 i → ad i ≠ ou := fun i hi e9 => by
    obtain ⟨-, k, e8, h8⟩ := hin i hi
    exact zDapp_ne hD2 (i := 15) (p := (ou, .inl (E.2.1 3, 1, .inr (.inl (fun _ => 0))))) rfl h8 e9.symm
  have hMn : ∀ (k : Nat) (q : Nat × va_E), (zWM E mo tb kq mq te tq oq ho hq nl ul mk xq cq pq (decide ((iI mode &&& iI 1).toInt ≠ 0)) (decide ((iI mode &&& iI 2).toInt ≠ 0)) la f9)[k]? = some q → q.1 ≠ ou ∧ ∀ i, zRo false 0 i → ad i ≠ q.1 := fun k q hq => ⟨zDapp_ne (zDapp_l hD2) hq (j := 0) (q := (ou, .inl (E.2.1 3, 1, .inr (.inl (fun _ => 0))))) rfl, fun i hi e9 => by
    obtain ⟨-, k9, e8, h8⟩ := hin i hi
    exact zDapp_ne hD2 (zleft hq) h8 e9.symm⟩
  refine W.widen (k := 1000) (n := 300000) (by (try dsimp only); omega) (by (try dsimp only); omega) ?_
  have hS : va_S (zOld E) s.heap H locs := by rw [← hAe]; exact hS
  have hbA : ¬ zOld E b := by rw [← hAe]; exact hbA
  have hl : lv_has ls 7 [(4, .int (iI 1)), (3, .ref ou), (2, .ref mo), (1, .ref (ad 0)), (0, .ref b)] := by rw [h00]; exact lv_sub hl [0, 1, 2, 3, 4] rfl
  clear hP hD hP2 hPl hDl
  exact zlaw_head l htl hL S hr hlk hEs hX hbl hE0 hS hst hou hne hoo hM hMD hMn hl
