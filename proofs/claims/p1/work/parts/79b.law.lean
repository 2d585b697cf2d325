set_option maxRecDepth 100000 in
set_option maxHeartbeats 4000000 in
theorem zlaw_feed0 {p : Program} {l : Launch} {e : Env} {s : State} {m : MethodId} {below : List Frame} {meth : Method} {c : Code} {b : Nat} {xs : Nat → Int32} {E : zP} {H : Heap} {locs : List Loc} {ls : Array Slot} (htl : ∀ e : Env, l.admits e → e.platform.stackTraces = false) (S : CallFix p m c code 7 s #[Value.ref b] zw "ReplacementWriterLaw") (hr : meth.sig.returnType = ret) (hlk : meth.locks = false) (hEs : E.2.2.2 = s.heap.size) (hX : va_X b 7 xs s s.heap) (hbl : b < s.heap.size) (hE0 : zE E s s.heap) (hS : va_S (zOld E) s.heap H locs) {ad : Nat → Nat} {en : Nat → va_E} {ou : Nat} {u p1 : Bool} (hst : zSt E false 0 ad en (zS0 u p1) zC0 H) (hou : zOu E ou 0 H) (hne : ∀ i, zRo false 0 i → ad i ≠ ou) (hoo : zOld E ou) {mo tb kq mq te tq oq ho hq nl ul mk xq cq pq : Nat} {u2 p2 : Bool} {la : Int} {f9 : Nat → Int32} (hM : va_P E.1 zcl (zWM E mo tb kq mq te tq oq ho hq nl ul mk xq cq pq u2 p2 la f9) H) (hMD : va_D (zOld E) (zWM E mo tb kq mq te tq oq ho hq nl ul mk xq cq pq u2 p2 la f9)) (hMn : ∀ (k : Nat) (q : Nat × va_E), (zWM E mo tb kq mq te tq oq ho hq nl ul mk xq cq pq u2 p2 la f9)[k]? = some q → q.1 ≠ ou ∧ ∀ i, zRo false 0 i → ad i ≠ q.1) (hl : lv_has ls 7 [(4, .int (iI 1)), (3, .ref ou), (2, .ref mo), (1, .ref (ad 0)), (0, .ref b)])  : W p l e room_1 s m #[Value.ref b] below meth c H locs 1000 300000 (lw_Z below #[Value.ref b] s) (F0 m 108 ls []) := by
  have hx := S.1
  have hb := S.2.1
  have hbA : ¬ zOld E b := by unfold zOld; omega
  have hA0 : ∀ q, zOld E q → zOld E q := fun q h => h
  have hE := hE0.at hS hA0
  have hMw : ∀ (k : Nat) (q : Nat × va_E), (zWM E mo tb kq mq te tq oq ho hq nl ul mk xq cq pq u2 p2 la f9)[k]? = some q → ¬ zAw (zRo false 0) ad H.size ou q.1 := fun k q hq h => h.elim (fun h => h.elim (fun ⟨i, hi, e9⟩ => (hMn k q hq).2 i hi e9.symm) (fun h => Nat.not_le.mpr (hM k q hq).lt h)) (hMn k q hq).1
  have hAw : ∀ q, zAw (zRo false 0) ad H.size ou q → zOld E q := zAw_old hst.1 hE.2.1 hoo
  refine lv_aload_n hx hb d_law_108 rfl (lv_at hl 3 rfl) ?_
  refine lv_aload_n hx hb d_law_109 rfl (lv_at hl 4 rfl) ?_
  refine lv_iload hx hb d_law_110 (lv_at hl 0 rfl) ?_
  refine zi_iconst hx hb d_law_112 ?_
  refine zi_iadd hx hb d_law_113 ?_
  refine W.eq (g2 := F0 m 114 ls ([.int (iI 2), .ref b, .ref (ad 0)])) rfl ?_
  refine va_sld hx hb hX hbl hbA hS (iI_in (by decide) (by decide) (by decide)) d_law_114 ?_
  refine W.eq (g2 := F0 m 115 ls [.int (xs 2), .ref (ad 0)]) rfl ?_
  refine lv_aload_n hx hb d_law_115 rfl (lv_at hl 4 rfl) ?_
  refine lv_iload hx hb d_law_116 (lv_at hl 0 rfl) ?_
  refine zi_iconst hx hb d_law_118 ?_
  refine zi_iadd hx hb d_law_119 ?_
  refine W.eq (g2 := F0 m 120 ls ([.int (iI 3), .ref b, .int (xs 2), .ref (ad 0)])) rfl ?_
  refine va_sld hx hb hX hbl hbA hS (iI_in (by decide) (by decide) (by decide)) d_law_120 ?_
  refine W.eq (g2 := F0 m 121 ls [.int (xs 3), .int (xs 2), .ref (ad 0)]) rfl ?_
  refine lv_aload_n hx hb d_law_121 rfl (lv_at hl 4 rfl) ?_
  refine lv_iload hx hb d_law_122 (lv_at hl 0 rfl) ?_
  refine zi_iconst hx hb d_law_124 ?_
  refine zi_iadd hx hb d_law_125 ?_
  refine W.eq (g2 := F0 m 126 ls ([.int (iI 4), .ref b, .int (xs 3), .int (xs 2), .ref (ad 0)])) rfl ?_
  refine va_sld hx hb hX hbl hbA hS (iI_in (by decide) (by decide) (by decide)) d_law_126 ?_
  refine W.eq (g2 := F0 m 127 ls [.int (xs 4), .int (xs 3), .int (xs 2), .ref (ad 0)]) rfl ?_
  refine lv_aload_n hx hb d_law_127 rfl (lv_at hl 4 rfl) ?_
  refine lv_iload hx hb d_law_128 (lv_at hl 0 rfl) ?_
  refine zi_iconst hx hb d_law_130 ?_
  refine zi_iadd hx hb d_law_131 ?_
  refine W.eq (g2 := F0 m 132 ls ([.int (iI 5), .ref b, .int (xs 4), .int (xs 3), .int (xs 2), .ref (ad 0)])) rfl ?_
  refine va_sld hx hb hX hbl hbA hS (iI_in (by decide) (by decide) (by decide)) d_law_132 ?_
  refine W.eq (g2 := F0 m 133 ls [.int (xs 5), .int (xs 4), .int (xs 3), .int (xs 2), .ref (ad 0)]) rfl ?_
  refine lv_aload_n hx hb d_law_133 rfl (lv_at hl 4 rfl) ?_
  refine lv_iload hx hb d_law_134 (lv_at hl 0 rfl) ?_
  refine zi_iconst hx hb d_law_136 ?_
  refine zi_iadd hx hb d_law_137 ?_
  refine W.eq (g2 := F0 m 138 ls ([.int (iI 6), .ref b, .int (xs 5), .int (xs 4), .int (xs 3), .int (xs 2), .ref (ad 0)])) rfl ?_
  refine va_sld hx hb hX hbl hbA hS (iI_in (by decide) (by decide) (by decide)) d_law_138 ?_
  refine W.eq (g2 := F0 m 139 ls [.int (xs 6), .int (xs 5), .int (xs 4), .int (xs 3), .int (xs 2), .ref (ad 0)]) rfl ?_
  refine lv_aload_n hx hb d_law_139 rfl (lv_at hl 1 rfl) ?_
  refine zcW (zrunSW (n := 7) (As := [.ref (ad 0), .int (xs 2), .int (xs 3), .int (xs 4), .int (xs 5), .int (xs 6), .ref ou]) (rest := []) S (w_Law_feed l E false 0 ad en (zS0 u p1) zC0 H.size ou 0 (xs 2) (xs 3) (xs 4) (xs 5) (xs 6) (by decide) ⟨(by decide : (-2147483648 : Int) ≤ 20), (by decide : (20 : Int) < 2147483648)⟩) zw_276 zw_0 zw_274 zw_275 (by decide +kernel) rfl rfl ⟨Nat.le_of_ble_eq_true rfl, Nat.le_of_ble_eq_true rfl⟩ (zPreS hE ⟨rfl, hst, hou, hne, hoo⟩) rfl rfl hl.1 rfl (lv_room (Nat.le_of_ble_eq_true rfl)) d_law_140 ⟨Nat.le_of_ble_eq_true rfl, Nat.le_of_ble_eq_true rfl⟩) hS (fun q _ h => hAw q h) hAw (fun v H1 locs hq hz1 hk1 hS => ?_)
  obtain ⟨rfl, hou, ad', en', h00, hfr, hst'⟩ := hq
  have hM := zA_kept (wc := []) hM hk1 hMw
  have hE := hE0.at hS hA0
  refine W.widen (k := 2000) (n := 400000) (Nat.le_of_ble_eq_true rfl) (Nat.le_of_ble_eq_true rfl) ?_
  refine W.eq (g2 := F0 m 143 ls [.int (iI 0)]) rfl ?_
  refine lv_istore (lv' := [(5, .int (iI 0)), (4, .int (iI 1)), (3, .ref ou), (2, .ref mo), (1, .ref (ad 0)), (0, .ref b)]) hx hb d_law_143 hl (by decide) rfl (fun ls hl => ?_)
  refine lv_aload_n hx hb d_law_145 rfl (lv_at hl 3 rfl) ?_
  refine lv_aload_n hx hb d_law_146 rfl (lv_at hl 5 rfl) ?_
  refine lv_iload hx hb d_law_147 (lv_at hl 1 rfl) ?_
  refine zi_iconst hx hb d_law_149 ?_
  refine zi_iadd hx hb d_law_150 ?_
  refine W.eq (g2 := F0 m 151 ls ([.int (iI 2), .ref b, .ref mo])) rfl ?_
  refine va_sld hx hb hX hbl hbA hS (iI_in (by decide) (by decide) (by decide)) d_law_151 ?_
  refine W.eq (g2 := F0 m 152 ls [.int (xs 2), .ref mo]) rfl ?_
  refine lv_aload_n hx hb d_law_152 rfl (lv_at hl 5 rfl) ?_
  refine lv_iload hx hb d_law_153 (lv_at hl 1 rfl) ?_
  refine zi_iconst hx hb d_law_155 ?_
  refine zi_iadd hx hb d_law_156 ?_
  refine W.eq (g2 := F0 m 157 ls ([.int (iI 3), .ref b, .int (xs 2), .ref mo])) rfl ?_
  refine va_sld hx hb hX hbl hbA hS (iI_in (by decide) (by decide) (by decide)) d_law_157 ?_
  refine W.eq (g2 := F0 m 158 ls [.int (xs 3), .int (xs 2), .ref mo]) rfl ?_
  refine lv_aload_n hx hb d_law_158 rfl (lv_at hl 5 rfl) ?_
  refine lv_iload hx hb d_law_159 (lv_at hl 1 rfl) ?_
  refine zi_iconst hx hb d_law_161 ?_
  refine zi_iadd hx hb d_law_162 ?_
  refine W.eq (g2 := F0 m 163 ls ([.int (iI 4), .ref b, .int (xs 3), .int (xs 2), .ref mo])) rfl ?_
  refine va_sld hx hb hX hbl hbA hS (iI_in (by decide) (by decide) (by decide)) d_law_163 ?_
  refine W.eq (g2 := F0 m 164 ls [.int (xs 4), .int (xs 3), .int (xs 2), .ref mo]) rfl ?_
  refine lv_aload_n hx hb d_law_164 rfl (lv_at hl 5 rfl) ?_
  refine lv_iload hx hb d_law_165 (lv_at hl 1 rfl) ?_
  refine zi_iconst hx hb d_law_167 ?_
  refine zi_iadd hx hb d_law_168 ?_
  refine W.eq (g2 := F0 m 169 ls ([.int (iI 5), .ref b, .int (xs 4), .int (xs 3), .int (xs 2), .ref mo])) rfl ?_
  refine va_sld hx hb hX hbl hbA hS (iI_in (by decide) (by decide) (by decide)) d_law_169 ?_
  refine W.eq (g2 := F0 m 170 ls [.int (xs 5), .int (xs 4), .int (xs 3), .int (xs 2), .ref mo]) rfl ?_
  refine lv_aload_n hx hb d_law_170 rfl (lv_at hl 5 rfl) ?_
  refine lv_iload hx hb d_law_171 (lv_at hl 1 rfl) ?_
  refine zi_iconst hx hb d_law_173 ?_
  refine zi_iadd hx hb d_law_174 ?_
  refine W.eq (g2 := F0 m 175 ls ([.int (iI 6), .ref b, .int (xs 5), .int (xs 4), .int (xs 3), .int (xs 2), .ref mo])) rfl ?_
  refine va_sld hx hb hX hbl hbA hS (iI_in (by decide) (by decide) (by decide)) d_law_175 ?_
  refine W.eq (g2 := F0 m 176 ls [.int (xs 6), .int (xs 5), .int (xs 4), .int (xs 3), .int (xs 2), .ref mo]) rfl ?_
  have hPc := hM.sub (ws' := [(mo, .inr (10, [.ref tb, .ref te, .ref ho, .ref xq, .int (iI 0), .int (iI 0), .int (iI 0), .int (iI (bN false)), .ref cq, .ref pq, .int (iI 0), .int (iI (-1))])), (xq, .inl (E.2.1 0, 65536, .inl (fun _ => 0)))]) [0, 12] rfl
  have hDc := hMD.sub (ws' := [(mo, .inr (10, [.ref tb, .ref te, .ref ho, .ref xq, .int (iI 0), .int (iI 0), .int (iI 0), .int (iI (bN false)), .ref cq, .ref pq, .int (iI 0), .int (iI (-1))])), (xq, .inl (E.2.1 0, 65536, .inl (fun _ => 0)))]) [0, 12] (by decide) rfl
  have hFc : ∀ q, va_A [(mo, .inr (10, [.ref tb, .ref te, .ref ho, .ref xq, .int (iI 0), .int (iI 0), .int (iI 0), .int (iI (bN false)), .ref cq, .ref pq, .int (iI 0), .int (iI (-1))])), (xq, .inl (E.2.1 0, 65536, .inl (fun _ => 0)))] H1.size q → zOld E q := fun q h => h.elim (fun ⟨k, e9, h9⟩ => hDc.2 k _ h9) (fun h => by have := hE.2.1; unfold zOld; omega)
  have hno : ¬ va_A [(mo, .inr (10, [.ref tb, .ref te, .ref ho, .ref xq, .int (iI 0), .int (iI 0), .int (iI 0), .int (iI (bN false)), .ref cq, .ref pq, .int (iI 0), .int (iI (-1))])), (xq, .inl (E.2.1 0, 65536, .inl (fun _ => 0)))] H1.size ou := fun h => h.elim (fun ⟨k, e9, h9⟩ => by
    have hm := zsub_mem (ws := zWM E mo tb kq mq te tq oq ho hq nl ul mk xq cq pq u2 p2 la f9) (ws' := [(mo, .inr (10, [.ref tb, .ref te, .ref ho, .ref xq, .int (iI 0), .int (iI 0), .int (iI 0), .int (iI (bN false)), .ref cq, .ref pq, .int (iI 0), .int (iI (-1))])), (xq, .inl (E.2.1 0, 65536, .inl (fun _ => 0)))]) [0, 12] rfl h9
    exact (hMn _ _ hm.choose_spec).1 rfl) (fun h => Nat.not_le.mpr hou.lt h)
  refine zcW (va_runV (As := [.int (xs 2), .int (xs 3), .int (xs 4), .int (xs 5), .int (xs 6)]) (rest := []) S (c_Mod_feed l E _ mo tb te ho xq cq pq (fun _ => 0) (xs 2) (xs 3) (xs 4) (xs 5) (xs 6)) ⟨zcwB (n := 5) S zw_1051 zw_14 zw_1048 (by decide +kernel) rfl rfl ⟨Nat.le_of_ble_eq_true rfl, Nat.le_of_ble_eq_true rfl⟩, S.2.2.2.2 _ zw_1049, S.2.2.2.2 _ zw_1050⟩ (zPreV hE (hM 0 _ rfl) rfl ⟨rfl, hPc, hDc, trivial⟩) rfl rfl hl.1 rfl (lv_room (Nat.le_of_ble_eq_true rfl)) d_law_176 ⟨by show _ ≤ (600002 : Nat); omega, by show _ ≤ (7302198 : Nat); omega⟩) hS (fun q _ h => hFc q h) hFc (fun v H2 locs hq hz2 hk2 hS => ?_)
  obtain ⟨rfl, za, zb, zc, zd, zc2, zp2, zsz, zcd, zn, zba, zrs, hmo⟩ := hq
  have hou := hou.kept (hk2 ou hou.lt hno)
  have hE := hE0.at hS hA0
  refine W.eq (g2 := F0 m 179 ls [.int (iI 20)]) rfl ?_
  refine lv_istore (lv' := [(6, .int (iI 20)), (5, .int (iI 0)), (4, .int (iI 1)), (3, .ref ou), (2, .ref mo), (1, .ref (ad 0)), (0, .ref b)]) hx hb d_law_179 hl (by decide) rfl (fun ls hl => ?_)
  refine lv_aload_n hx hb d_law_181 rfl (lv_at hl 4 rfl) ?_
  refine zcR (va_runV (As := []) (rest := []) S (c_Mod_thrown l E mo za zb zc zd zc2 zp2 zsz 0 zcd zn zba zrs) ⟨zcwB (n := 0) S zw_1047 zw_14 zw_1044 (by decide +kernel) rfl rfl ⟨Nat.le_of_ble_eq_true rfl, Nat.le_of_ble_eq_true rfl⟩, S.2.2.2.2 _ zw_1045, S.2.2.2.2 _ zw_1046⟩ (zPreV hE hmo rfl hmo) rfl rfl hl.1 rfl (lv_room (Nat.le_of_ble_eq_true rfl)) d_law_182 ⟨Nat.le_of_ble_eq_true rfl, Nat.le_of_ble_eq_true rfl⟩) ?_
  refine lv_iload hx hb d_law_185 (lv_at hl 1 rfl) ?_
  refine zi_icmp_eq hx hb d_law_187 rfl (by omega) (by omega) (fun h187 => ?_) (fun h => absurd h (by omega))
  refine lv_iload hx hb d_law_192 (lv_at hl 1 rfl) ?_
  refine zi_if_ne hx hb d_law_194 rfl (by omega) (fun h194 => absurd h194 (by omega)) (fun h194 => ?_)
  refine lv_aload_n hx hb d_law_197 rfl (lv_at hl 3 rfl) ?_
  refine zi_iconst hx hb d_law_198 ?_
  refine zlald0 hx hb hE hou d_law_199 ?_
  refine W.eq (g2 := F0 m 200 ls [.long (jL 20)]) (rfl) ?_
  refine lv_iload hx hb d_law_200 (lv_at hl 0 rfl) ?_
  refine zl_i2l hx hb d_law_202 (by omega) ?_
  refine zl_if_eq hx hb d_law_203 d_law_204 rfl (by omega) (by omega) (fun h204 => ?_) (fun h204 => ?_)
  · refine lv_goto hx hb d_law_209 rfl ?_
    exact zlaw_tail S hr hlk hEs hX hbl hS (by omega) (by omega) (by decide) (lv_sub hl [2, 6] rfl)
  · refine zi_iconst hx hb d_law_207 ?_
    omega
