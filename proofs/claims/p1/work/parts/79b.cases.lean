set_option maxRecDepth 100000 in
set_option maxHeartbeats 4000000 in
theorem zlaw_feed0 {p : Program} {l : Launch} {e : Env} {s : State} {m : MethodId} {below : List Frame} {meth : Method} {c : Code} {b : Nat} {xs : Nat → Int32} {E : zP} {H : Heap} {locs : List Loc} {ls : Array Slot} (htl : ∀ e : Env, l.admits e → e.platform.stackTraces = false) (S : CallFix p m c code 7 s #[Value.ref b] zw "ReplacementWriterLaw") (hr : meth.sig.returnType = ret) (hlk : meth.locks = false) (hEs : E.2.2.2 = s.heap.size) (hX : va_X b 7 xs s s.heap) (hbl : b < s.heap.size) (hE0 : zE E s s.heap) (hS : va_S (zOld E) s.heap H locs) {ad : Nat → Nat} {en : Nat → va_E} {ou : Nat} {u p1 : Bool} (hst : zSt E false 0 ad en (zS0 u p1) zC0 H) (hou : zOu E ou 0 H) (hne : ∀ i, zRo false 0 i → ad i ≠ ou) (hoo : zOld E ou) {mo tb kq mq te tq oq ho hq nl ul mk xq cq pq : Nat} {u2 p2 : Bool} {la : Int} {f9 : Nat → Int32} (hM : va_P E.1 zcl (zWM E mo tb kq mq te tq oq ho hq nl ul mk xq cq pq u2 p2 la f9) H) (hMD : va_D (zOld E) (zWM E mo tb kq mq te tq oq ho hq nl ul mk xq cq pq u2 p2 la f9)) (hMn : ∀ (k : Nat) (q : Nat × va_E), (zWM E mo tb kq mq te tq oq ho hq nl ul mk xq cq pq u2 p2 la f9)[k]? = some q → q.1 ≠ ou ∧ ∀ i, zRo false 0 i → ad i ≠ q.1) (hl : lv_has ls 7 [(4, .int (iI 1)), (3, .ref ou), (2, .ref mo), (1, .ref (ad 0)), (0, .ref b)])  : W p l e room_1 s m #[Value.ref b] below meth c H locs 1000 300000 (lw_Z below #[Value.ref b] s) (F0 m 108 ls []) := by
  have hx := S.1
  have hb := S.2.1
  have hbA : ¬ zOld E b := by unfold zOld; omega
  have hA0 : ∀ q, zOld E q → zOld E q := fun q h => h
  have hE := hE0.at hS hA0
  have hMw : ∀ (k : Nat) (q : Nat × va_E), (zWM E mo tb kq mq te tq oq ho hq nl ul mk xq cq pq u2 p2 la f9)[k]? = some q → ¬ zAw (zRo false 0) ad H.size ou q.1 := fun k q hq h => h.elim (fun h => h.elim (fun ⟨i, hi, e9⟩ => (hMn k q hq).2 i hi e9.symm) (fun h => Nat.not_le.mpr (hM k q hq).lt h)) (hMn k q hq).1
  have hAw : ∀ q, zAw (zRo false 0) ad H.size ou q → zOld E q := zAw_old hst.1 hE.2.1 hoo
  refine lv_aload_n hx hb d_law_108 rfl (lv_at hl 3 rfl) ?_
  refine lv_aload_n hx hb d_law_109 rfl (lv_at hl 4 rfl) ?_
  refine lv_iload hx hb d_law_110 (lv_at hl 0 rfl) ?_
  refine zi_iconst hx hb d_law_112 ?_
  refine zi_iadd hx hb d_law_113 ?_
  refine W.eq (g2 := F0 m 114 ls ([.int (iI 2), .ref b, .ref (ad 0)])) rfl ?_
  refine va_sld hx hb hX hbl hbA hS (iI_in (by decide) (by decide) (by decide)) d_law_114 ?_
  refine W.eq (g2 := F0 m 115 ls [.int (xs 2), .ref (ad 0)]) rfl ?_
  refine lv_aload_n hx hb d_law_115 rfl (lv_at hl 4 rfl) ?_
  refine lv_iload hx hb d_law_116 (lv_at hl 0 rfl) ?_
  refine zi_iconst hx hb d_law_118 ?_
  refine zi_iadd hx hb d_law_119 ?_
  refine W.eq (g2 := F0 m 120 ls ([.int (iI 3), .ref b, .int (xs 2), .ref (ad 0)])) rfl ?_
  refine va_sld hx hb hX hbl hbA hS (iI_in (by decide) (by decide) (by decide)) d_law_120 ?_
  refine W.eq (g2 := F0 m 121 ls [.int (xs 3), .int (xs 2), .ref (ad 0)]) rfl ?_
  refine lv_aload_n hx hb d_law_121 rfl (lv_at hl 4 rfl) ?_
  refine lv_iload hx hb d_law_122 (lv_at hl 0 rfl) ?_
  refine zi_iconst hx hb d_law_124 ?_
  refine zi_iadd hx hb d_law_125 ?_
  refine W.eq (g2 := F0 m 126 ls ([.int (iI 4), .ref b, .int (xs 3), .int (xs 2), .ref (ad 0)])) rfl ?_
  refine va_sld hx hb hX hbl hbA hS (iI_in (by decide) (by decide) (by decide)) d_law_126 ?_
  refine W.eq (g2 := F0 m 127 ls [.int (xs 4), .int (xs 3), .int (xs 2), .ref (ad 0)]) rfl ?_
  refine lv_aload_n hx hb d_law_127 rfl (lv_at hl 4 rfl) ?_
  refine lv_iload hx hb d_law_128 (lv_at hl 0 rfl) ?_
  refine zi_iconst hx hb d_law_130 ?_
  refine zi_iadd hx hb d_law_131 ?_
  refine W.eq (g2 := F0 m 132 ls ([.int (iI 5), .ref b, .int (xs 4), .int (xs 3), .int (xs 2), .ref (ad 0)])) rfl ?_
  refine va_sld hx hb hX hbl hbA hS (iI_in (by decide) (by decide) (by decide)) d_law_132 ?_
  refine W.eq (g2 := F0 m 133 ls [.int (xs 5), .int (xs 4), .int (xs 3), .int (xs 2), .ref (ad 0)]) rfl ?_
  refine lv_aload_n hx hb d_law_133 rfl (lv_at hl 4 rfl) ?_
  refine lv_iload hx hb d_law_134 (lv_at hl 0 rfl) ?_
  refine zi_iconst hx hb d_law_136 ?_
  refine zi_iadd hx hb d_law_137 ?_
  refine W.eq (g2 := F0 m 138 ls ([.int (iI 6), .ref b, .int (xs 5), .int (xs 4), .int (xs 3), .int (xs 2), .ref (ad 0)])) rfl ?_
  refine va_sld hx hb hX hbl hbA hS (iI_in (by decide) (by decide) (by decide)) d_law_138 ?_
  refine W.eq (g2 := F0 m 139 ls [.int (xs 6), .int (xs 5), .int (xs 4), .int (xs 3), .int (xs 2), .ref (ad 0)]) rfl ?_
  refine lv_aload_n hx hb d_law_139 rfl (lv_at hl 1 rfl) ?_
  refine zcW (zrunSW (n := 7) (As := [.ref (ad 0), .int (xs 2), .int (xs 3), .int (xs 4), .int (xs 5), .int (xs 6), .ref ou]) (rest := []) S (w_Law_feed l E false 0 ad en (zS0 u p1) zC0 H.size ou 0 (xs 2) (xs 3) (xs 4) (xs 5) (xs 6) (Nat.le_of_ble_eq_true rfl) ⟨(by decide : (-2147483648 : Int) ≤ 20), (by decide : (20 : Int) < 2147483648)⟩) zw_276 zw_0 zw_274 zw_275 (by decide +kernel) rfl rfl ⟨Nat.le_of_ble_eq_true rfl, Nat.le_of_ble_eq_true rfl⟩ (zPreS hE ⟨rfl, hst, hou, hne, hoo⟩) rfl rfl hl.1 rfl (lv_room (Nat.le_of_ble_eq_true rfl)) d_law_140 ⟨by show 1000 + (max 16 (sp_up 20) - 16) / 16 ≤ 600002; decide, by show 300000 + 2 * (max 16 (sp_up 20) - 16) ≤ 7302198; decide⟩) hS (fun q _ h => hAw q h) hAw (fun v H1 locs hq hz1 hk1 hS => ?_)
  obtain ⟨rfl, hou, ad', en', h00, hfr, hst'⟩ := hq
  have hM := zA_kept (wc := []) hM hk1 hMw
  have hE := hE0.at hS hA0
  refine W.widen (k := 2000) (n := 400000) (by show 1000 + (max 16 (sp_up 20) - 16) / 16 ≤ 2000; decide) (by show 300000 + 2 * (max 16 (sp_up 20) - 16) ≤ 400000; decide) ?_
  refine W.eq (g2 := F0 m 143 ls [.int (iI 0)]) rfl ?_
  refine lv_istore (lv' := [(5, .int (iI 0)), (4, .int (iI 1)), (3, .ref ou), (2, .ref mo), (1, .ref (ad 0)), (0, .ref b)]) hx hb d_law_143 hl (by decide) rfl (fun ls hl => ?_)
  refine lv_aload_n hx hb d_law_145 rfl (lv_at hl 3 rfl) ?_
  refine lv_aload_n hx hb d_law_146 rfl (lv_at hl 5 rfl) ?_
  refine lv_iload hx hb d_law_147 (lv_at hl 1 rfl) ?_
  refine zi_iconst hx hb d_law_149 ?_
  refine zi_iadd hx hb d_law_150 ?_
  refine W.eq (g2 := F0 m 151 ls ([.int (iI 2), .ref b, .ref mo])) rfl ?_
  refine va_sld hx hb hX hbl hbA hS (iI_in (by decide) (by decide) (by decide)) d_law_151 ?_
  refine W.eq (g2 := F0 m 152 ls [.int (xs 2), .ref mo]) rfl ?_
  refine lv_aload_n hx hb d_law_152 rfl (lv_at hl 5 rfl) ?_
  refine lv_iload hx hb d_law_153 (lv_at hl 1 rfl) ?_
  refine zi_iconst hx hb d_law_155 ?_
  refine zi_iadd hx hb d_law_156 ?_
  refine W.eq (g2 := F0 m 157 ls ([.int (iI 3), .ref b, .int (xs 2), .ref mo])) rfl ?_
  refine va_sld hx hb hX hbl hbA hS (iI_in (by decide) (by decide) (by decide)) d_law_157 ?_
  refine W.eq (g2 := F0 m 158 ls [.int (xs 3), .int (xs 2), .ref mo]) rfl ?_
  refine lv_aload_n hx hb d_law_158 rfl (lv_at hl 5 rfl) ?_
  refine lv_iload hx hb d_law_159 (lv_at hl 1 rfl) ?_
  refine zi_iconst hx hb d_law_161 ?_
  refine zi_iadd hx hb d_law_162 ?_
  refine W.eq (g2 := F0 m 163 ls ([.int (iI 4), .ref b, .int (xs 3), .int (xs 2), .ref mo])) rfl ?_
  refine va_sld hx hb hX hbl hbA hS (iI_in (by decide) (by decide) (by decide)) d_law_163 ?_
  refine W.eq (g2 := F0 m 164 ls [.int (xs 4), .int (xs 3), .int (xs 2), .ref mo]) rfl ?_
  refine lv_aload_n hx hb d_law_164 rfl (lv_at hl 5 rfl) ?_
  refine lv_iload hx hb d_law_165 (lv_at hl 1 rfl) ?_
  refine zi_iconst hx hb d_law_167 ?_
  refine zi_iadd hx hb d_law_168 ?_
  refine W.eq (g2 := F0 m 169 ls ([.int (iI 5), .ref b, .int (xs 4), .int (xs 3), .int (xs 2), .ref mo])) rfl ?_
  refine va_sld hx hb hX hbl hbA hS (iI_in (by decide) (by decide) (by decide)) d_law_169 ?_
  refine W.eq (g2 := F0 m 170 ls [.int (xs 5), .int (xs 4), .int (xs 3), .int (xs 2), .ref mo]) rfl ?_
  refine lv_aload_n hx hb d_law_170 rfl (lv_at hl 5 rfl) ?_
  refine lv_iload hx hb d_law_171 (lv_at hl 1 rfl) ?_
  refine zi_iconst hx hb d_law_173 ?_
  refine zi_iadd hx hb d_law_174 ?_
  refine W.eq (g2 := F0 m 175 ls ([.int (iI 6), .ref b, .int (xs 5), .int (xs 4), .int (xs 3), .int (xs 2), .ref mo])) rfl ?_
  refine va_sld hx hb hX hbl hbA hS (iI_in (by decide) (by decide) (by decide)) d_law_175 ?_
  refine W.eq (g2 := F0 m 176 ls [.int (xs 6), .int (xs 5), .int (xs 4), .int (xs 3), .int (xs 2), .ref mo]) rfl ?_
  have hPc := hM.sub (ws' := [(mo, .inr (10, [.ref tb, .ref te, .ref ho, .ref xq, .int (iI 0), .int (iI 0), .int (iI 0), .int (iI (bN false)), .ref cq, .ref pq, .int (iI 0), .int (iI (-1))])), (xq, .inl (E.2.1 0, 65536, .inl (fun _ => 0)))]) [0, 12] rfl
  have hDc := hMD.sub (ws' := [(mo, .inr (10, [.ref tb, .ref te, .ref ho, .ref xq, .int (iI 0), .int (iI 0), .int (iI 0), .int (iI (bN false)), .ref cq, .ref pq, .int (iI 0), .int (iI (-1))])), (xq, .inl (E.2.1 0, 65536, .inl (fun _ => 0)))]) [0, 12] (by decide) rfl
  have hFc : ∀ q, va_A [(mo, .inr (10, [.ref tb, .ref te, .ref ho, .ref xq, .int (iI 0), .int (iI 0), .int (iI 0), .int (iI (bN false)), .ref cq, .ref pq, .int (iI 0), .int (iI (-1))])), (xq, .inl (E.2.1 0, 65536, .inl (fun _ => 0)))] H1.size q → zOld E q := fun q h => h.elim (fun ⟨k, e9, h9⟩ => hDc.2 k _ h9) (fun h => by have := hE.2.1; unfold zOld; omega)
  have hno : ¬ va_A [(mo, .inr (10, [.ref tb, .ref te, .ref ho, .ref xq, .int (iI 0), .int (iI 0), .int (iI 0), .int (iI (bN false)), .ref cq, .ref pq, .int (iI 0), .int (iI (-1))])), (xq, .inl (E.2.1 0, 65536, .inl (fun _ => 0)))] H1.size ou := fun h => h.elim (fun ⟨k, e9, h9⟩ => by
    have hm := zsub_mem (ws := zWM E mo tb kq mq te tq oq ho hq nl ul mk xq cq pq u2 p2 la f9) (ws' := [(mo, .inr (10, [.ref tb, .ref te, .ref ho, .ref xq, .int (iI 0), .int (iI 0), .int (iI 0), .int (iI (bN false)), .ref cq, .ref pq, .int (iI 0), .int (iI (-1))])), (xq, .inl (E.2.1 0, 65536, .inl (fun _ => 0)))]) [0, 12] rfl h9
    exact (hMn _ _ hm.choose_spec).1 rfl) (fun h => Nat.not_le.mpr hou.lt h)
  refine zcW (va_runV (As := [.int (xs 2), .int (xs 3), .int (xs 4), .int (xs 5), .int (xs 6)]) (rest := []) S (c_Mod_feed l E _ mo tb te ho xq cq pq (fun _ => 0) (xs 2) (xs 3) (xs 4) (xs 5) (xs 6)) ⟨zcwB (n := 5) S zw_1051 zw_14 zw_1048 (by decide +kernel) rfl rfl ⟨Nat.le_of_ble_eq_true rfl, Nat.le_of_ble_eq_true rfl⟩, S.2.2.2.2 _ zw_1049, S.2.2.2.2 _ zw_1050⟩ (zPreV hE (hM 0 _ rfl) rfl ⟨rfl, hPc, hDc, trivial⟩) rfl rfl hl.1 rfl (lv_room (Nat.le_of_ble_eq_true rfl)) d_law_176 ⟨by show _ ≤ (600002 : Nat); omega, by show _ ≤ (7302198 : Nat); omega⟩) hS (fun q _ h => hFc q h) hFc (fun v H2 locs hq hz2 hk2 hS => ?_)
  obtain ⟨rfl, za, zb, zc, zd, zc2, zp2, zsz, zcd, zn, zba, zrs, hmo⟩ := hq
  have hou := hou.kept (hk2 ou hou.lt hno)
  have hE := hE0.at hS hA0
  refine W.eq (g2 := F0 m 179 ls [.int (iI 20)]) rfl ?_
  refine lv_istore (lv' := [(6, .int (iI 20)), (5, .int (iI 0)), (4, .int (iI 1)), (3, .ref ou), (2, .ref mo), (1, .ref (ad 0)), (0, .ref b)]) hx hb d_law_179 hl (by decide) rfl (fun ls hl => ?_)
  refine lv_aload_n hx hb d_law_181 rfl (lv_at hl 4 rfl) ?_
  refine zcR (va_runV (As := []) (rest := []) S (c_Mod_thrown l E mo za zb zc zd zc2 zp2 zsz 0 zcd zn zba zrs) ⟨zcwB (n := 0) S zw_1047 zw_14 zw_1044 (by decide +kernel) rfl rfl ⟨Nat.le_of_ble_eq_true rfl, Nat.le_of_ble_eq_true rfl⟩, S.2.2.2.2 _ zw_1045, S.2.2.2.2 _ zw_1046⟩ (zPreV hE hmo rfl hmo) rfl rfl hl.1 rfl (lv_room (Nat.le_of_ble_eq_true rfl)) d_law_182 ⟨Nat.le_of_ble_eq_true rfl, Nat.le_of_ble_eq_true rfl⟩) ?_
  refine lv_iload hx hb d_law_185 (lv_at hl 1 rfl) ?_
  refine zi_icmp_eq hx hb d_law_187 rfl (by omega) (by omega) (fun h187 => ?_) (fun h => absurd h (by omega))
  refine lv_iload hx hb d_law_192 (lv_at hl 1 rfl) ?_
  refine zi_if_ne hx hb d_law_194 rfl (by omega) (fun h194 => absurd h194 (by omega)) (fun h194 => ?_)
  refine lv_aload_n hx hb d_law_197 rfl (lv_at hl 3 rfl) ?_
  refine zi_iconst hx hb d_law_198 ?_
  refine zlald0 hx hb hE hou d_law_199 ?_
  refine W.eq (g2 := F0 m 200 ls [.long (jL 20)]) (rfl) ?_
  refine lv_iload hx hb d_law_200 (lv_at hl 0 rfl) ?_
  refine zl_i2l hx hb d_law_202 (by omega) ?_
  refine zl_if_eq hx hb d_law_203 d_law_204 rfl (by omega) (by omega) (fun h204 => ?_) (fun h204 => ?_)
  · refine lv_goto hx hb d_law_209 rfl ?_
    exact zlaw_tail S hr hlk hEs hX hbl hS (by omega) (by omega) (by decide) (lv_sub hl [2, 6] rfl)
  · refine zi_iconst hx hb d_law_207 ?_
    omega

set_option maxRecDepth 100000 in
set_option maxHeartbeats 4000000 in
theorem zlaw_end0 {p : Program} {l : Launch} {e : Env} {s : State} {m : MethodId} {below : List Frame} {meth : Method} {c : Code} {b : Nat} {xs : Nat → Int32} {E : zP} {H : Heap} {locs : List Loc} {ls : Array Slot} (htl : ∀ e : Env, l.admits e → e.platform.stackTraces = false) (S : CallFix p m c code 7 s #[Value.ref b] zw "ReplacementWriterLaw") (hr : meth.sig.returnType = ret) (hlk : meth.locks = false) (hEs : E.2.2.2 = s.heap.size) (hX : va_X b 7 xs s s.heap) (hbl : b < s.heap.size) (hE0 : zE E s s.heap) (hS : va_S (zOld E) s.heap H locs) {ad : Nat → Nat} {en : Nat → va_E} {ou : Nat} {u p1 : Bool} (hst : zSt E false 0 ad en (zS0 u p1) zC0 H) (hou : zOu E ou 0 H) (hne : ∀ i, zRo false 0 i → ad i ≠ ou) (hoo : zOld E ou) {mo tb kq mq te tq oq ho hq nl ul mk xq cq pq : Nat} {u2 p2 : Bool} {la : Int} {f9 : Nat → Int32} (hM : va_P E.1 zcl (zWM E mo tb kq mq te tq oq ho hq nl ul mk xq cq pq u2 p2 la f9) H) (hMD : va_D (zOld E) (zWM E mo tb kq mq te tq oq ho hq nl ul mk xq cq pq u2 p2 la f9)) (hMn : ∀ (k : Nat) (q : Nat × va_E), (zWM E mo tb kq mq te tq oq ho hq nl ul mk xq cq pq u2 p2 la f9)[k]? = some q → q.1 ≠ ou ∧ ∀ i, zRo false 0 i → ad i ≠ q.1) (hl : lv_has ls 7 [(4, .int (iI 1)), (3, .ref ou), (2, .ref mo), (1, .ref (ad 0)), (0, .ref b)]) (k0 : Int) (hk0 : r32 k0) (ek : iI k0 = xs 2) (hz0 : k0 = 0) : W p l e room_1 s m #[Value.ref b] below meth c H locs 1000 300000 (lw_Z below #[Value.ref b] s) (F0 m 212 ls []) := by
  have hx := S.1
  have hb := S.2.1
  have hbA : ¬ zOld E b := by unfold zOld; omega
  have hA0 : ∀ q, zOld E q → zOld E q := fun q h => h
  have hE := hE0.at hS hA0
  have hMw : ∀ (k : Nat) (q : Nat × va_E), (zWM E mo tb kq mq te tq oq ho hq nl ul mk xq cq pq u2 p2 la f9)[k]? = some q → ¬ zAw (zRo false 0) ad H.size ou q.1 := fun k q hq h => h.elim (fun h => h.elim (fun ⟨i, hi, e9⟩ => (hMn k q hq).2 i hi e9.symm) (fun h => Nat.not_le.mpr (hM k q hq).lt h)) (hMn k q hq).1
  have hAw : ∀ q, zAw (zRo false 0) ad H.size ou q → zOld E q := zAw_old hst.1 hE.2.1 hoo
  refine lv_aload_n hx hb d_law_212 rfl (lv_at hl 3 rfl) ?_
  refine lv_aload_n hx hb d_law_213 rfl (lv_at hl 4 rfl) ?_
  refine lv_iload hx hb d_law_214 (lv_at hl 0 rfl) ?_
  refine zi_iconst hx hb d_law_216 ?_
  refine zi_iadd hx hb d_law_217 ?_
  refine W.eq (g2 := F0 m 218 ls ([.int (iI 2), .ref b, .ref (ad 0)])) rfl ?_
  refine va_sld hx hb hX hbl hbA hS (iI_in (by decide) (by decide) (by decide)) d_law_218 ?_
  refine W.eq (g2 := F0 m 219 ls [.int (iI k0), .ref (ad 0)]) (by rw [ek] <;> rfl) ?_
  refine lv_aload_n hx hb d_law_219 rfl (lv_at hl 1 rfl) ?_
  refine W.eq (g2 := F0 m 220 ls [.ref ou, .int (iI ((0 : Nat) : Int)), .ref (ad 0)]) (by rw [hz0]; rfl) ?_
  refine zcW (zrunSW (n := 3) (As := [.ref (ad 0), .int (iI ((0 : Nat) : Int)), .ref ou]) (rest := []) S (w_Law_end l E false 0 ad en (zS0 u p1) zC0 H.size ou 0 0 (Nat.le_refl _) ⟨by decide, by decide⟩) zw_372 zw_0 zw_370 zw_371 (by decide +kernel) rfl rfl ⟨Nat.le_of_ble_eq_true rfl, Nat.le_of_ble_eq_true rfl⟩ (zPreS hE ⟨rfl, hst, hou, hne, hoo⟩) rfl rfl hl.1 rfl (lv_room (Nat.le_of_ble_eq_true rfl)) d_law_220 ⟨Nat.le_of_ble_eq_true rfl, Nat.le_of_ble_eq_true rfl⟩) hS (fun q _ h => hAw q h) hAw (fun v H1 locs hq hz1 hk1 hS => ?_)
  obtain ⟨rfl, hou, ad', en', h00, hfr, hst'⟩ := hq
  have hM := zA_kept (wc := []) hM hk1 hMw
  have hE := hE0.at hS hA0
  refine W.widen (k := 2000) (n := 400000) (Nat.le_of_ble_eq_true rfl) (Nat.le_of_ble_eq_true rfl) ?_
  refine W.eq (g2 := F0 m 223 ls [.int (iI 0)]) rfl ?_
  refine lv_istore (lv' := [(5, .int (iI 0)), (4, .int (iI 1)), (3, .ref ou), (2, .ref mo), (1, .ref (ad 0)), (0, .ref b)]) hx hb d_law_223 hl (by decide) rfl (fun ls hl => ?_)
  refine lv_aload_n hx hb d_law_225 rfl (lv_at hl 3 rfl) ?_
  refine lv_aload_n hx hb d_law_226 rfl (lv_at hl 5 rfl) ?_
  refine lv_iload hx hb d_law_227 (lv_at hl 1 rfl) ?_
  refine zi_iconst hx hb d_law_229 ?_
  refine zi_iadd hx hb d_law_230 ?_
  refine W.eq (g2 := F0 m 231 ls ([.int (iI 2), .ref b, .ref mo])) rfl ?_
  refine va_sld hx hb hX hbl hbA hS (iI_in (by decide) (by decide) (by decide)) d_law_231 ?_
  refine W.eq (g2 := F0 m 232 ls [.int (iI k0), .ref mo]) (by rw [ek] <;> rfl) ?_
  have hPc := hM.sub (ws' := [(mo, .inr (10, [.ref tb, .ref te, .ref ho, .ref xq, .int (iI 0), .int (iI 0), .int (iI 0), .int (iI (bN false)), .ref cq, .ref pq, .int (iI 0), .int (iI (-1))]))]) [0] rfl
  have hDc := hMD.sub (ws' := [(mo, .inr (10, [.ref tb, .ref te, .ref ho, .ref xq, .int (iI 0), .int (iI 0), .int (iI 0), .int (iI (bN false)), .ref cq, .ref pq, .int (iI 0), .int (iI (-1))]))]) [0] (by decide) rfl
  have hFc : ∀ q, va_A [(mo, .inr (10, [.ref tb, .ref te, .ref ho, .ref xq, .int (iI 0), .int (iI 0), .int (iI 0), .int (iI (bN false)), .ref cq, .ref pq, .int (iI 0), .int (iI (-1))]))] H1.size q → zOld E q := fun q h => h.elim (fun ⟨k, e9, h9⟩ => hDc.2 k _ h9) (fun h => by have := hE.2.1; unfold zOld; omega)
  have hno : ¬ va_A [(mo, .inr (10, [.ref tb, .ref te, .ref ho, .ref xq, .int (iI 0), .int (iI 0), .int (iI 0), .int (iI (bN false)), .ref cq, .ref pq, .int (iI 0), .int (iI (-1))]))] H1.size ou := fun h => h.elim (fun ⟨k, e9, h9⟩ => by
    have hm := zsub_mem (ws := zWM E mo tb kq mq te tq oq ho hq nl ul mk xq cq pq u2 p2 la f9) (ws' := [(mo, .inr (10, [.ref tb, .ref te, .ref ho, .ref xq, .int (iI 0), .int (iI 0), .int (iI 0), .int (iI (bN false)), .ref cq, .ref pq, .int (iI 0), .int (iI (-1))]))]) [0] rfl h9
    exact (hMn _ _ hm.choose_spec).1 rfl) (fun h => Nat.not_le.mpr hou.lt h)
  refine zcW (va_runV (As := [.int (iI k0)]) (rest := []) S (c_Mod_end l E _ mo tb te ho xq cq pq k0 0 hk0 (by rw [if_pos hz0])) ⟨zcwB (n := 1) S zw_1060 zw_14 zw_1057 (by decide +kernel) rfl rfl ⟨Nat.le_of_ble_eq_true rfl, Nat.le_of_ble_eq_true rfl⟩, S.2.2.2.2 _ zw_1058, S.2.2.2.2 _ zw_1059⟩ (zPreV hE (hM 0 _ rfl) rfl ⟨rfl, hPc, hDc, trivial⟩) rfl rfl hl.1 rfl (lv_room (Nat.le_of_ble_eq_true rfl)) d_law_232 ⟨by show _ ≤ (600002 : Nat); omega, by show _ ≤ (7302198 : Nat); omega⟩) hS (fun q _ h => hFc q h) hFc (fun v H2 locs hq hz2 hk2 hS => ?_)
  obtain ⟨rfl, za, zb, zc, zd, zc2, zp2, zsz, zcd, zn, zba, zrs, hmo⟩ := hq
  have hou := hou.kept (hk2 ou hou.lt hno)
  have hE := hE0.at hS hA0
  refine W.eq (g2 := F0 m 235 ls [.int (iI 0)]) rfl ?_
  refine lv_istore (lv' := [(6, .int (iI 0)), (5, .int (iI 0)), (4, .int (iI 1)), (3, .ref ou), (2, .ref mo), (1, .ref (ad 0)), (0, .ref b)]) hx hb d_law_235 hl (by decide) rfl (fun ls hl => ?_)
  refine lv_aload_n hx hb d_law_237 rfl (lv_at hl 4 rfl) ?_
  refine zcR (va_runV (As := []) (rest := []) S (c_Mod_thrown l E mo za zb zc zd zc2 zp2 zsz 0 zcd zn zba zrs) ⟨zcwB (n := 0) S zw_1047 zw_14 zw_1044 (by decide +kernel) rfl rfl ⟨Nat.le_of_ble_eq_true rfl, Nat.le_of_ble_eq_true rfl⟩, S.2.2.2.2 _ zw_1045, S.2.2.2.2 _ zw_1046⟩ (zPreV hE hmo rfl hmo) rfl rfl hl.1 rfl (lv_room (Nat.le_of_ble_eq_true rfl)) d_law_238 ⟨Nat.le_of_ble_eq_true rfl, Nat.le_of_ble_eq_true rfl⟩) ?_
  refine lv_iload hx hb d_law_241 (lv_at hl 1 rfl) ?_
  refine zi_icmp_eq hx hb d_law_243 rfl (by omega) (by omega) (fun h243 => ?_) (fun h => absurd h (by omega))
  refine lv_iload hx hb d_law_248 (lv_at hl 1 rfl) ?_
  refine zi_if_ne hx hb d_law_250 rfl (by omega) (fun h250 => absurd h250 (by omega)) (fun h250 => ?_)
  refine lv_aload_n hx hb d_law_253 rfl (lv_at hl 3 rfl) ?_
  refine zi_iconst hx hb d_law_254 ?_
  refine zlald0 hx hb hE hou d_law_255 ?_
  refine W.eq (g2 := F0 m 256 ls [.long (jL 0)]) (rfl) ?_
  refine lv_iload hx hb d_law_256 (lv_at hl 0 rfl) ?_
  refine zl_i2l hx hb d_law_258 (by omega) ?_
  refine zl_if_eq hx hb d_law_259 d_law_260 rfl (by omega) (by omega) (fun h260 => ?_) (fun h260 => ?_)
  · refine lv_goto hx hb d_law_265 rfl ?_
    exact zlaw_tail S hr hlk hEs hX hbl hS (by omega) (by omega) (by decide) (lv_sub hl [2, 6] rfl)
  · refine zi_iconst hx hb d_law_263 ?_
    omega

set_option maxRecDepth 100000 in
set_option maxHeartbeats 4000000 in
theorem zlaw_end1 {p : Program} {l : Launch} {e : Env} {s : State} {m : MethodId} {below : List Frame} {meth : Method} {c : Code} {b : Nat} {xs : Nat → Int32} {E : zP} {H : Heap} {locs : List Loc} {ls : Array Slot} (htl : ∀ e : Env, l.admits e → e.platform.stackTraces = false) (S : CallFix p m c code 7 s #[Value.ref b] zw "ReplacementWriterLaw") (hr : meth.sig.returnType = ret) (hlk : meth.locks = false) (hEs : E.2.2.2 = s.heap.size) (hX : va_X b 7 xs s s.heap) (hbl : b < s.heap.size) (hE0 : zE E s s.heap) (hS : va_S (zOld E) s.heap H locs) {ad : Nat → Nat} {en : Nat → va_E} {ou : Nat} {u p1 : Bool} (hst : zSt E false 0 ad en (zS0 u p1) zC0 H) (hou : zOu E ou 0 H) (hne : ∀ i, zRo false 0 i → ad i ≠ ou) (hoo : zOld E ou) {mo tb kq mq te tq oq ho hq nl ul mk xq cq pq : Nat} {u2 p2 : Bool} {la : Int} {f9 : Nat → Int32} (hM : va_P E.1 zcl (zWM E mo tb kq mq te tq oq ho hq nl ul mk xq cq pq u2 p2 la f9) H) (hMD : va_D (zOld E) (zWM E mo tb kq mq te tq oq ho hq nl ul mk xq cq pq u2 p2 la f9)) (hMn : ∀ (k : Nat) (q : Nat × va_E), (zWM E mo tb kq mq te tq oq ho hq nl ul mk xq cq pq u2 p2 la f9)[k]? = some q → q.1 ≠ ou ∧ ∀ i, zRo false 0 i → ad i ≠ q.1) (hl : lv_has ls 7 [(4, .int (iI 1)), (3, .ref ou), (2, .ref mo), (1, .ref (ad 0)), (0, .ref b)]) (k0 : Int) (hk0 : r32 k0) (ek : iI k0 = xs 2) (hz0 : ¬ k0 = 0) : W p l e room_1 s m #[Value.ref b] below meth c H locs 1000 300000 (lw_Z below #[Value.ref b] s) (F0 m 212 ls []) := by
  have hx := S.1
  have hb := S.2.1
  have hbA : ¬ zOld E b := by unfold zOld; omega
  have hA0 : ∀ q, zOld E q → zOld E q := fun q h => h
  have hE := hE0.at hS hA0
  have hMw : ∀ (k : Nat) (q : Nat × va_E), (zWM E mo tb kq mq te tq oq ho hq nl ul mk xq cq pq u2 p2 la f9)[k]? = some q → ¬ zAw (zRo false 0) ad H.size ou q.1 := fun k q hq h => h.elim (fun h => h.elim (fun ⟨i, hi, e9⟩ => (hMn k q hq).2 i hi e9.symm) (fun h => Nat.not_le.mpr (hM k q hq).lt h)) (hMn k q hq).1
  have hAw : ∀ q, zAw (zRo false 0) ad H.size ou q → zOld E q := zAw_old hst.1 hE.2.1 hoo
  refine lv_aload_n hx hb d_law_212 rfl (lv_at hl 3 rfl) ?_
  refine lv_aload_n hx hb d_law_213 rfl (lv_at hl 4 rfl) ?_
  refine lv_iload hx hb d_law_214 (lv_at hl 0 rfl) ?_
  refine zi_iconst hx hb d_law_216 ?_
  refine zi_iadd hx hb d_law_217 ?_
  refine W.eq (g2 := F0 m 218 ls ([.int (iI 2), .ref b, .ref (ad 0)])) rfl ?_
  refine va_sld hx hb hX hbl hbA hS (iI_in (by decide) (by decide) (by decide)) d_law_218 ?_
  refine W.eq (g2 := F0 m 219 ls [.int (iI k0), .ref (ad 0)]) (by rw [ek] <;> rfl) ?_
  refine lv_aload_n hx hb d_law_219 rfl (lv_at hl 1 rfl) ?_
  refine zcW (zrunSW (n := 3) (As := [.ref (ad 0), .int (iI k0), .ref ou]) (rest := []) S (wx_Law_end l htl E false 0 ad en (zS0 u p1) zC0 H.size ou 0 k0 hk0 (by rcases Int.lt_or_le k0 0 with h | h; exact Or.inl h; exact Or.inr (by show (0 : Int) < k0; omega))) zw_372 zw_0 zw_370 zw_371 (by decide +kernel) rfl rfl ⟨Nat.le_of_ble_eq_true rfl, Nat.le_of_ble_eq_true rfl⟩ (zPreS hE ⟨rfl, hst, hou, hne, hoo⟩) rfl rfl hl.1 rfl (lv_room (Nat.le_of_ble_eq_true rfl)) d_law_220 ⟨Nat.le_of_ble_eq_true rfl, Nat.le_of_ble_eq_true rfl⟩) hS (fun q _ h => hAw q h) hAw (fun v H1 locs hq hz1 hk1 hS => ?_)
  obtain ⟨rfl, hou, ad', en', h00, hfr, hst'⟩ := hq
  have hM := zA_kept (wc := []) hM hk1 hMw
  have hE := hE0.at hS hA0
  refine W.widen (k := 2000) (n := 400000) (Nat.le_of_ble_eq_true rfl) (Nat.le_of_ble_eq_true rfl) ?_
  refine W.eq (g2 := F0 m 223 ls [.int (iI 1)]) rfl ?_
  refine lv_istore (lv' := [(5, .int (iI 1)), (4, .int (iI 1)), (3, .ref ou), (2, .ref mo), (1, .ref (ad 0)), (0, .ref b)]) hx hb d_law_223 hl (by decide) rfl (fun ls hl => ?_)
  refine lv_aload_n hx hb d_law_225 rfl (lv_at hl 3 rfl) ?_
  refine lv_aload_n hx hb d_law_226 rfl (lv_at hl 5 rfl) ?_
  refine lv_iload hx hb d_law_227 (lv_at hl 1 rfl) ?_
  refine zi_iconst hx hb d_law_229 ?_
  refine zi_iadd hx hb d_law_230 ?_
  refine W.eq (g2 := F0 m 231 ls ([.int (iI 2), .ref b, .ref mo])) rfl ?_
  refine va_sld hx hb hX hbl hbA hS (iI_in (by decide) (by decide) (by decide)) d_law_231 ?_
  refine W.eq (g2 := F0 m 232 ls [.int (iI k0), .ref mo]) (by rw [ek] <;> rfl) ?_
  have hPc := hM.sub (ws' := [(mo, .inr (10, [.ref tb, .ref te, .ref ho, .ref xq, .int (iI 0), .int (iI 0), .int (iI 0), .int (iI (bN false)), .ref cq, .ref pq, .int (iI 0), .int (iI (-1))]))]) [0] rfl
  have hDc := hMD.sub (ws' := [(mo, .inr (10, [.ref tb, .ref te, .ref ho, .ref xq, .int (iI 0), .int (iI 0), .int (iI 0), .int (iI (bN false)), .ref cq, .ref pq, .int (iI 0), .int (iI (-1))]))]) [0] (by decide) rfl
  have hFc : ∀ q, va_A [(mo, .inr (10, [.ref tb, .ref te, .ref ho, .ref xq, .int (iI 0), .int (iI 0), .int (iI 0), .int (iI (bN false)), .ref cq, .ref pq, .int (iI 0), .int (iI (-1))]))] H1.size q → zOld E q := fun q h => h.elim (fun ⟨k, e9, h9⟩ => hDc.2 k _ h9) (fun h => by have := hE.2.1; unfold zOld; omega)
  have hno : ¬ va_A [(mo, .inr (10, [.ref tb, .ref te, .ref ho, .ref xq, .int (iI 0), .int (iI 0), .int (iI 0), .int (iI (bN false)), .ref cq, .ref pq, .int (iI 0), .int (iI (-1))]))] H1.size ou := fun h => h.elim (fun ⟨k, e9, h9⟩ => by
    have hm := zsub_mem (ws := zWM E mo tb kq mq te tq oq ho hq nl ul mk xq cq pq u2 p2 la f9) (ws' := [(mo, .inr (10, [.ref tb, .ref te, .ref ho, .ref xq, .int (iI 0), .int (iI 0), .int (iI 0), .int (iI (bN false)), .ref cq, .ref pq, .int (iI 0), .int (iI (-1))]))]) [0] rfl h9
    exact (hMn _ _ hm.choose_spec).1 rfl) (fun h => Nat.not_le.mpr hou.lt h)
  refine zcW (va_runV (As := [.int (iI k0)]) (rest := []) S (c_Mod_end l E _ mo tb te ho xq cq pq k0 1 hk0 (by rw [if_neg hz0])) ⟨zcwB (n := 1) S zw_1060 zw_14 zw_1057 (by decide +kernel) rfl rfl ⟨Nat.le_of_ble_eq_true rfl, Nat.le_of_ble_eq_true rfl⟩, S.2.2.2.2 _ zw_1058, S.2.2.2.2 _ zw_1059⟩ (zPreV hE (hM 0 _ rfl) rfl ⟨rfl, hPc, hDc, trivial⟩) rfl rfl hl.1 rfl (lv_room (Nat.le_of_ble_eq_true rfl)) d_law_232 ⟨by show _ ≤ (600002 : Nat); omega, by show _ ≤ (7302198 : Nat); omega⟩) hS (fun q _ h => hFc q h) hFc (fun v H2 locs hq hz2 hk2 hS => ?_)
  obtain ⟨rfl, za, zb, zc, zd, zc2, zp2, zsz, zcd, zn, zba, zrs, hmo⟩ := hq
  have hou := hou.kept (hk2 ou hou.lt hno)
  have hE := hE0.at hS hA0
  refine W.eq (g2 := F0 m 235 ls [.int (iI 0)]) rfl ?_
  refine lv_istore (lv' := [(6, .int (iI 0)), (5, .int (iI 1)), (4, .int (iI 1)), (3, .ref ou), (2, .ref mo), (1, .ref (ad 0)), (0, .ref b)]) hx hb d_law_235 hl (by decide) rfl (fun ls hl => ?_)
  refine lv_aload_n hx hb d_law_237 rfl (lv_at hl 4 rfl) ?_
  refine zcR (va_runV (As := []) (rest := []) S (c_Mod_thrown l E mo za zb zc zd zc2 zp2 zsz 1 zcd zn zba zrs) ⟨zcwB (n := 0) S zw_1047 zw_14 zw_1044 (by decide +kernel) rfl rfl ⟨Nat.le_of_ble_eq_true rfl, Nat.le_of_ble_eq_true rfl⟩, S.2.2.2.2 _ zw_1045, S.2.2.2.2 _ zw_1046⟩ (zPreV hE hmo rfl hmo) rfl rfl hl.1 rfl (lv_room (Nat.le_of_ble_eq_true rfl)) d_law_238 ⟨Nat.le_of_ble_eq_true rfl, Nat.le_of_ble_eq_true rfl⟩) ?_
  refine lv_iload hx hb d_law_241 (lv_at hl 1 rfl) ?_
  refine zi_icmp_eq hx hb d_law_243 rfl (by omega) (by omega) (fun h243 => ?_) (fun h => absurd h (by omega))
  refine lv_iload hx hb d_law_248 (lv_at hl 1 rfl) ?_
  refine zi_if_ne hx hb d_law_250 rfl (by omega) (fun h250 => ?_) (fun h250 => absurd h250 (by omega))
  refine lv_goto hx hb d_law_265 rfl ?_
  exact zlaw_tail S hr hlk hEs hX hbl hS (by omega) (by omega) (by decide) (lv_sub hl [2, 6] rfl)

set_option maxRecDepth 100000 in
set_option maxHeartbeats 4000000 in
theorem zlaw_groups0 {p : Program} {l : Launch} {e : Env} {s : State} {m : MethodId} {below : List Frame} {meth : Method} {c : Code} {b : Nat} {xs : Nat → Int32} {E : zP} {H : Heap} {locs : List Loc} {ls : Array Slot} (htl : ∀ e : Env, l.admits e → e.platform.stackTraces = false) (S : CallFix p m c code 7 s #[Value.ref b] zw "ReplacementWriterLaw") (hr : meth.sig.returnType = ret) (hlk : meth.locks = false) (hEs : E.2.2.2 = s.heap.size) (hX : va_X b 7 xs s s.heap) (hbl : b < s.heap.size) (hE0 : zE E s s.heap) (hS : va_S (zOld E) s.heap H locs) {ad : Nat → Nat} {en : Nat → va_E} {ou : Nat} {u p1 : Bool} (hst : zSt E false 0 ad en (zS0 u p1) zC0 H) (hou : zOu E ou 0 H) (hne : ∀ i, zRo false 0 i → ad i ≠ ou) (hoo : zOld E ou) {mo tb kq mq te tq oq ho hq nl ul mk xq cq pq : Nat} {u2 p2 : Bool} {la : Int} {f9 : Nat → Int32} (hM : va_P E.1 zcl (zWM E mo tb kq mq te tq oq ho hq nl ul mk xq cq pq u2 p2 la f9) H) (hMD : va_D (zOld E) (zWM E mo tb kq mq te tq oq ho hq nl ul mk xq cq pq u2 p2 la f9)) (hMn : ∀ (k : Nat) (q : Nat × va_E), (zWM E mo tb kq mq te tq oq ho hq nl ul mk xq cq pq u2 p2 la f9)[k]? = some q → q.1 ≠ ou ∧ ∀ i, zRo false 0 i → ad i ≠ q.1) (hl : lv_has ls 7 [(4, .int (iI 1)), (3, .ref ou), (2, .ref mo), (1, .ref (ad 0)), (0, .ref b)]) (k0 : Int) (hk0 : r32 k0) (ek : iI k0 = xs 2) (hz0 : 0 ≤ k0 ∧ k0 ≤ 99) : W p l e room_1 s m #[Value.ref b] below meth c H locs 1000 300000 (lw_Z below #[Value.ref b] s) (F0 m 268 ls []) := by
  have hx := S.1
  have hb := S.2.1
  have hbA : ¬ zOld E b := by unfold zOld; omega
  have hA0 : ∀ q, zOld E q → zOld E q := fun q h => h
  have hE := hE0.at hS hA0
  have hMw : ∀ (k : Nat) (q : Nat × va_E), (zWM E mo tb kq mq te tq oq ho hq nl ul mk xq cq pq u2 p2 la f9)[k]? = some q → ¬ zAw (zRo false 0) ad H.size ou q.1 := fun k q hq h => h.elim (fun h => h.elim (fun ⟨i, hi, e9⟩ => (hMn k q hq).2 i hi e9.symm) (fun h => Nat.not_le.mpr (hM k q hq).lt h)) (hMn k q hq).1
  have hAw : ∀ q, zAw (zRo false 0) ad H.size ou q → zOld E q := zAw_old hst.1 hE.2.1 hoo
  refine lv_aload_n hx hb d_law_268 rfl (lv_at hl 3 rfl) ?_
  refine lv_aload_n hx hb d_law_269 rfl (lv_at hl 4 rfl) ?_
  refine lv_iload hx hb d_law_270 (lv_at hl 0 rfl) ?_
  refine zi_iconst hx hb d_law_272 ?_
  refine zi_iadd hx hb d_law_273 ?_
  refine W.eq (g2 := F0 m 274 ls ([.int (iI 2), .ref b, .ref (ad 0)])) rfl ?_
  refine va_sld hx hb hX hbl hbA hS (iI_in (by decide) (by decide) (by decide)) d_law_274 ?_
  refine W.eq (g2 := F0 m 275 ls [.int (iI k0), .ref (ad 0)]) (by rw [ek] <;> rfl) ?_
  refine W.eq (g2 := F0 m 275 ls [.int (iI ((k0.toNat : Nat) : Int)), .ref (ad 0)]) (by rw [Int.toNat_of_nonneg hz0.1]) ?_
  refine zcW (zrunSW (n := 2) (As := [.ref (ad 0), .int (iI ((k0.toNat : Nat) : Int))]) (rest := []) S (w_Law_groups l E false 0 ad en (zS0 u p1) zC0 H.size ou 0 k0.toNat (by omega)) zw_399 zw_0 zw_397 zw_398 (by decide +kernel) rfl rfl ⟨Nat.le_of_ble_eq_true rfl, Nat.le_of_ble_eq_true rfl⟩ (zPreS hE ⟨rfl, hst, hou, hne, hoo⟩) rfl rfl hl.1 rfl (lv_room (Nat.le_of_ble_eq_true rfl)) d_law_275 ⟨Nat.le_of_ble_eq_true rfl, Nat.le_of_ble_eq_true rfl⟩) hS (fun q _ h => hAw q h) hAw (fun v H1 locs hq hz1 hk1 hS => ?_)
  obtain ⟨rfl, hou, ad', en', h00, hfr, hst'⟩ := hq
  have hM := zA_kept (wc := []) hM hk1 hMw
  have hE := hE0.at hS hA0
  refine W.widen (k := 2000) (n := 400000) (Nat.le_of_ble_eq_true rfl) (Nat.le_of_ble_eq_true rfl) ?_
  refine W.eq (g2 := F0 m 278 ls [.int (iI 0)]) rfl ?_
  refine lv_istore (lv' := [(5, .int (iI 0)), (4, .int (iI 1)), (3, .ref ou), (2, .ref mo), (1, .ref (ad 0)), (0, .ref b)]) hx hb d_law_278 hl (by decide) rfl (fun ls hl => ?_)
  refine lv_aload_n hx hb d_law_280 rfl (lv_at hl 3 rfl) ?_
  refine lv_aload_n hx hb d_law_281 rfl (lv_at hl 5 rfl) ?_
  refine lv_iload hx hb d_law_282 (lv_at hl 1 rfl) ?_
  refine zi_iconst hx hb d_law_284 ?_
  refine zi_iadd hx hb d_law_285 ?_
  refine W.eq (g2 := F0 m 286 ls ([.int (iI 2), .ref b, .ref mo])) rfl ?_
  refine va_sld hx hb hX hbl hbA hS (iI_in (by decide) (by decide) (by decide)) d_law_286 ?_
  refine W.eq (g2 := F0 m 287 ls [.int (iI k0), .ref mo]) (by rw [ek] <;> rfl) ?_
  have hPc := hM.sub (ws' := [(mo, .inr (10, [.ref tb, .ref te, .ref ho, .ref xq, .int (iI 0), .int (iI 0), .int (iI 0), .int (iI (bN false)), .ref cq, .ref pq, .int (iI 0), .int (iI (-1))])), (ho, .inr (13, [.int (iI 0), .ref hq, .ref nl, .ref ul, .ref mk])), (hq, .inl (E.2.1 6, 100, .inr (.inr (.inr (.inr (fun _ => none)))))), (nl, .inr (9, [.ref (E.2.2.1 4), .int (iI 0), .int (iI 0)])), (ul, .inr (9, [.ref (E.2.2.1 4), .int (iI 0), .int (iI 0)]))]) [0, 7, 8, 9, 10] rfl
  have hDc := hMD.sub (ws' := [(mo, .inr (10, [.ref tb, .ref te, .ref ho, .ref xq, .int (iI 0), .int (iI 0), .int (iI 0), .int (iI (bN false)), .ref cq, .ref pq, .int (iI 0), .int (iI (-1))])), (ho, .inr (13, [.int (iI 0), .ref hq, .ref nl, .ref ul, .ref mk])), (hq, .inl (E.2.1 6, 100, .inr (.inr (.inr (.inr (fun _ => none)))))), (nl, .inr (9, [.ref (E.2.2.1 4), .int (iI 0), .int (iI 0)])), (ul, .inr (9, [.ref (E.2.2.1 4), .int (iI 0), .int (iI 0)]))]) [0, 7, 8, 9, 10] (by decide) rfl
  have hFc : ∀ q, va_A [(mo, .inr (10, [.ref tb, .ref te, .ref ho, .ref xq, .int (iI 0), .int (iI 0), .int (iI 0), .int (iI (bN false)), .ref cq, .ref pq, .int (iI 0), .int (iI (-1))])), (ho, .inr (13, [.int (iI 0), .ref hq, .ref nl, .ref ul, .ref mk])), (hq, .inl (E.2.1 6, 100, .inr (.inr (.inr (.inr (fun _ => none)))))), (nl, .inr (9, [.ref (E.2.2.1 4), .int (iI 0), .int (iI 0)])), (ul, .inr (9, [.ref (E.2.2.1 4), .int (iI 0), .int (iI 0)]))] H1.size q → zOld E q := fun q h => h.elim (fun ⟨k, e9, h9⟩ => hDc.2 k _ h9) (fun h => by have := hE.2.1; unfold zOld; omega)
  have hno : ¬ va_A [(mo, .inr (10, [.ref tb, .ref te, .ref ho, .ref xq, .int (iI 0), .int (iI 0), .int (iI 0), .int (iI (bN false)), .ref cq, .ref pq, .int (iI 0), .int (iI (-1))])), (ho, .inr (13, [.int (iI 0), .ref hq, .ref nl, .ref ul, .ref mk])), (hq, .inl (E.2.1 6, 100, .inr (.inr (.inr (.inr (fun _ => none)))))), (nl, .inr (9, [.ref (E.2.2.1 4), .int (iI 0), .int (iI 0)])), (ul, .inr (9, [.ref (E.2.2.1 4), .int (iI 0), .int (iI 0)]))] H1.size ou := fun h => h.elim (fun ⟨k, e9, h9⟩ => by
    have hm := zsub_mem (ws := zWM E mo tb kq mq te tq oq ho hq nl ul mk xq cq pq u2 p2 la f9) (ws' := [(mo, .inr (10, [.ref tb, .ref te, .ref ho, .ref xq, .int (iI 0), .int (iI 0), .int (iI 0), .int (iI (bN false)), .ref cq, .ref pq, .int (iI 0), .int (iI (-1))])), (ho, .inr (13, [.int (iI 0), .ref hq, .ref nl, .ref ul, .ref mk])), (hq, .inl (E.2.1 6, 100, .inr (.inr (.inr (.inr (fun _ => none)))))), (nl, .inr (9, [.ref (E.2.2.1 4), .int (iI 0), .int (iI 0)])), (ul, .inr (9, [.ref (E.2.2.1 4), .int (iI 0), .int (iI 0)]))]) [0, 7, 8, 9, 10] rfl h9
    exact (hMn _ _ hm.choose_spec).1 rfl) (fun h => Nat.not_le.mpr hou.lt h)
  refine zcW (va_runV (As := [.int (iI k0)]) (rest := []) S (c_Mod_groups l E _ mo tb te ho xq cq pq hq nl ul mk k0 0 hk0 (by rw [if_pos hz0])) ⟨zcwB (n := 1) S zw_1064 zw_14 zw_1061 (by decide +kernel) rfl rfl ⟨Nat.le_of_ble_eq_true rfl, Nat.le_of_ble_eq_true rfl⟩, S.2.2.2.2 _ zw_1062, S.2.2.2.2 _ zw_1063⟩ (zPreV hE (hM 0 _ rfl) rfl ⟨rfl, hPc, hDc, trivial⟩) rfl rfl hl.1 rfl (lv_room (Nat.le_of_ble_eq_true rfl)) d_law_287 ⟨by show _ ≤ (600002 : Nat); omega, by show _ ≤ (7302198 : Nat); omega⟩) hS (fun q _ h => hFc q h) hFc (fun v H2 locs hq hz2 hk2 hS => ?_)
  obtain ⟨rfl, za, zb, zc, zd, zc2, zp2, zsz, zcd, zn, zba, zrs, hmo⟩ := hq
  have hou := hou.kept (hk2 ou hou.lt hno)
  have hE := hE0.at hS hA0
  refine W.eq (g2 := F0 m 290 ls []) rfl ?_
  refine lv_aload_n hx hb d_law_290 rfl (lv_at hl 3 rfl) ?_
  refine zcR (va_runV (As := []) (rest := []) S (c_Mod_thrown l E mo za zb zc zd zc2 zp2 zsz 0 zcd zn zba zrs) ⟨zcwB (n := 0) S zw_1047 zw_14 zw_1044 (by decide +kernel) rfl rfl ⟨Nat.le_of_ble_eq_true rfl, Nat.le_of_ble_eq_true rfl⟩, S.2.2.2.2 _ zw_1045, S.2.2.2.2 _ zw_1046⟩ (zPreV hE hmo rfl hmo) rfl rfl hl.1 rfl (lv_room (Nat.le_of_ble_eq_true rfl)) d_law_291 ⟨Nat.le_of_ble_eq_true rfl, Nat.le_of_ble_eq_true rfl⟩) ?_
  refine lv_iload hx hb d_law_294 (lv_at hl 0 rfl) ?_
  refine zi_icmp_eq hx hb d_law_296 rfl (by omega) (by omega) (fun h296 => ?_) (fun h => absurd h (by omega))
  refine lv_goto hx hb d_law_301 rfl ?_
  exact zlaw_tail S hr hlk hEs hX hbl hS (by omega) (by omega) (by decide) (lv_sub hl [1, 5] rfl)

set_option maxRecDepth 100000 in
set_option maxHeartbeats 4000000 in
theorem zlaw_groups1 {p : Program} {l : Launch} {e : Env} {s : State} {m : MethodId} {below : List Frame} {meth : Method} {c : Code} {b : Nat} {xs : Nat → Int32} {E : zP} {H : Heap} {locs : List Loc} {ls : Array Slot} (htl : ∀ e : Env, l.admits e → e.platform.stackTraces = false) (S : CallFix p m c code 7 s #[Value.ref b] zw "ReplacementWriterLaw") (hr : meth.sig.returnType = ret) (hlk : meth.locks = false) (hEs : E.2.2.2 = s.heap.size) (hX : va_X b 7 xs s s.heap) (hbl : b < s.heap.size) (hE0 : zE E s s.heap) (hS : va_S (zOld E) s.heap H locs) {ad : Nat → Nat} {en : Nat → va_E} {ou : Nat} {u p1 : Bool} (hst : zSt E false 0 ad en (zS0 u p1) zC0 H) (hou : zOu E ou 0 H) (hne : ∀ i, zRo false 0 i → ad i ≠ ou) (hoo : zOld E ou) {mo tb kq mq te tq oq ho hq nl ul mk xq cq pq : Nat} {u2 p2 : Bool} {la : Int} {f9 : Nat → Int32} (hM : va_P E.1 zcl (zWM E mo tb kq mq te tq oq ho hq nl ul mk xq cq pq u2 p2 la f9) H) (hMD : va_D (zOld E) (zWM E mo tb kq mq te tq oq ho hq nl ul mk xq cq pq u2 p2 la f9)) (hMn : ∀ (k : Nat) (q : Nat × va_E), (zWM E mo tb kq mq te tq oq ho hq nl ul mk xq cq pq u2 p2 la f9)[k]? = some q → q.1 ≠ ou ∧ ∀ i, zRo false 0 i → ad i ≠ q.1) (hl : lv_has ls 7 [(4, .int (iI 1)), (3, .ref ou), (2, .ref mo), (1, .ref (ad 0)), (0, .ref b)]) (k0 : Int) (hk0 : r32 k0) (ek : iI k0 = xs 2) (hz0 : ¬ (0 ≤ k0 ∧ k0 ≤ 99)) : W p l e room_1 s m #[Value.ref b] below meth c H locs 1000 300000 (lw_Z below #[Value.ref b] s) (F0 m 268 ls []) := by
  have hx := S.1
  have hb := S.2.1
  have hbA : ¬ zOld E b := by unfold zOld; omega
  have hA0 : ∀ q, zOld E q → zOld E q := fun q h => h
  have hE := hE0.at hS hA0
  have hMw : ∀ (k : Nat) (q : Nat × va_E), (zWM E mo tb kq mq te tq oq ho hq nl ul mk xq cq pq u2 p2 la f9)[k]? = some q → ¬ zAw (zRo false 0) ad H.size ou q.1 := fun k q hq h => h.elim (fun h => h.elim (fun ⟨i, hi, e9⟩ => (hMn k q hq).2 i hi e9.symm) (fun h => Nat.not_le.mpr (hM k q hq).lt h)) (hMn k q hq).1
  have hAw : ∀ q, zAw (zRo false 0) ad H.size ou q → zOld E q := zAw_old hst.1 hE.2.1 hoo
  refine lv_aload_n hx hb d_law_268 rfl (lv_at hl 3 rfl) ?_
  refine lv_aload_n hx hb d_law_269 rfl (lv_at hl 4 rfl) ?_
  refine lv_iload hx hb d_law_270 (lv_at hl 0 rfl) ?_
  refine zi_iconst hx hb d_law_272 ?_
  refine zi_iadd hx hb d_law_273 ?_
  refine W.eq (g2 := F0 m 274 ls ([.int (iI 2), .ref b, .ref (ad 0)])) rfl ?_
  refine va_sld hx hb hX hbl hbA hS (iI_in (by decide) (by decide) (by decide)) d_law_274 ?_
  refine W.eq (g2 := F0 m 275 ls [.int (iI k0), .ref (ad 0)]) (by rw [ek] <;> rfl) ?_
  refine zcW (zrunSW (n := 2) (As := [.ref (ad 0), .int (iI k0)]) (rest := []) S (wx_Law_groups l htl E false 0 ad en (zS0 u p1) zC0 H.size ou 0 k0 hk0 (by omega)) zw_399 zw_0 zw_397 zw_398 (by decide +kernel) rfl rfl ⟨Nat.le_of_ble_eq_true rfl, Nat.le_of_ble_eq_true rfl⟩ (zPreS hE ⟨rfl, hst, hou, hne, hoo⟩) rfl rfl hl.1 rfl (lv_room (Nat.le_of_ble_eq_true rfl)) d_law_275 ⟨Nat.le_of_ble_eq_true rfl, Nat.le_of_ble_eq_true rfl⟩) hS (fun q _ h => hAw q h) hAw (fun v H1 locs hq hz1 hk1 hS => ?_)
  obtain ⟨rfl, hou, ad', en', h00, hfr, hst'⟩ := hq
  have hM := zA_kept (wc := []) hM hk1 hMw
  have hE := hE0.at hS hA0
  refine W.widen (k := 2000) (n := 400000) (Nat.le_of_ble_eq_true rfl) (Nat.le_of_ble_eq_true rfl) ?_
  refine W.eq (g2 := F0 m 278 ls [.int (iI 1)]) rfl ?_
  refine lv_istore (lv' := [(5, .int (iI 1)), (4, .int (iI 1)), (3, .ref ou), (2, .ref mo), (1, .ref (ad 0)), (0, .ref b)]) hx hb d_law_278 hl (by decide) rfl (fun ls hl => ?_)
  refine lv_aload_n hx hb d_law_280 rfl (lv_at hl 3 rfl) ?_
  refine lv_aload_n hx hb d_law_281 rfl (lv_at hl 5 rfl) ?_
  refine lv_iload hx hb d_law_282 (lv_at hl 1 rfl) ?_
  refine zi_iconst hx hb d_law_284 ?_
  refine zi_iadd hx hb d_law_285 ?_
  refine W.eq (g2 := F0 m 286 ls ([.int (iI 2), .ref b, .ref mo])) rfl ?_
  refine va_sld hx hb hX hbl hbA hS (iI_in (by decide) (by decide) (by decide)) d_law_286 ?_
  refine W.eq (g2 := F0 m 287 ls [.int (iI k0), .ref mo]) (by rw [ek] <;> rfl) ?_
  have hPc := hM.sub (ws' := [(mo, .inr (10, [.ref tb, .ref te, .ref ho, .ref xq, .int (iI 0), .int (iI 0), .int (iI 0), .int (iI (bN false)), .ref cq, .ref pq, .int (iI 0), .int (iI (-1))])), (ho, .inr (13, [.int (iI 0), .ref hq, .ref nl, .ref ul, .ref mk])), (hq, .inl (E.2.1 6, 100, .inr (.inr (.inr (.inr (fun _ => none)))))), (nl, .inr (9, [.ref (E.2.2.1 4), .int (iI 0), .int (iI 0)])), (ul, .inr (9, [.ref (E.2.2.1 4), .int (iI 0), .int (iI 0)]))]) [0, 7, 8, 9, 10] rfl
  have hDc := hMD.sub (ws' := [(mo, .inr (10, [.ref tb, .ref te, .ref ho, .ref xq, .int (iI 0), .int (iI 0), .int (iI 0), .int (iI (bN false)), .ref cq, .ref pq, .int (iI 0), .int (iI (-1))])), (ho, .inr (13, [.int (iI 0), .ref hq, .ref nl, .ref ul, .ref mk])), (hq, .inl (E.2.1 6, 100, .inr (.inr (.inr (.inr (fun _ => none)))))), (nl, .inr (9, [.ref (E.2.2.1 4), .int (iI 0), .int (iI 0)])), (ul, .inr (9, [.ref (E.2.2.1 4), .int (iI 0), .int (iI 0)]))]) [0, 7, 8, 9, 10] (by decide) rfl
  have hFc : ∀ q, va_A [(mo, .inr (10, [.ref tb, .ref te, .ref ho, .ref xq, .int (iI 0), .int (iI 0), .int (iI 0), .int (iI (bN false)), .ref cq, .ref pq, .int (iI 0), .int (iI (-1))])), (ho, .inr (13, [.int (iI 0), .ref hq, .ref nl, .ref ul, .ref mk])), (hq, .inl (E.2.1 6, 100, .inr (.inr (.inr (.inr (fun _ => none)))))), (nl, .inr (9, [.ref (E.2.2.1 4), .int (iI 0), .int (iI 0)])), (ul, .inr (9, [.ref (E.2.2.1 4), .int (iI 0), .int (iI 0)]))] H1.size q → zOld E q := fun q h => h.elim (fun ⟨k, e9, h9⟩ => hDc.2 k _ h9) (fun h => by have := hE.2.1; unfold zOld; omega)
  have hno : ¬ va_A [(mo, .inr (10, [.ref tb, .ref te, .ref ho, .ref xq, .int (iI 0), .int (iI 0), .int (iI 0), .int (iI (bN false)), .ref cq, .ref pq, .int (iI 0), .int (iI (-1))])), (ho, .inr (13, [.int (iI 0), .ref hq, .ref nl, .ref ul, .ref mk])), (hq, .inl (E.2.1 6, 100, .inr (.inr (.inr (.inr (fun _ => none)))))), (nl, .inr (9, [.ref (E.2.2.1 4), .int (iI 0), .int (iI 0)])), (ul, .inr (9, [.ref (E.2.2.1 4), .int (iI 0), .int (iI 0)]))] H1.size ou := fun h => h.elim (fun ⟨k, e9, h9⟩ => by
    have hm := zsub_mem (ws := zWM E mo tb kq mq te tq oq ho hq nl ul mk xq cq pq u2 p2 la f9) (ws' := [(mo, .inr (10, [.ref tb, .ref te, .ref ho, .ref xq, .int (iI 0), .int (iI 0), .int (iI 0), .int (iI (bN false)), .ref cq, .ref pq, .int (iI 0), .int (iI (-1))])), (ho, .inr (13, [.int (iI 0), .ref hq, .ref nl, .ref ul, .ref mk])), (hq, .inl (E.2.1 6, 100, .inr (.inr (.inr (.inr (fun _ => none)))))), (nl, .inr (9, [.ref (E.2.2.1 4), .int (iI 0), .int (iI 0)])), (ul, .inr (9, [.ref (E.2.2.1 4), .int (iI 0), .int (iI 0)]))]) [0, 7, 8, 9, 10] rfl h9
    exact (hMn _ _ hm.choose_spec).1 rfl) (fun h => Nat.not_le.mpr hou.lt h)
  refine zcW (va_runV (As := [.int (iI k0)]) (rest := []) S (c_Mod_groups l E _ mo tb te ho xq cq pq hq nl ul mk k0 1 hk0 (by rw [if_neg hz0])) ⟨zcwB (n := 1) S zw_1064 zw_14 zw_1061 (by decide +kernel) rfl rfl ⟨Nat.le_of_ble_eq_true rfl, Nat.le_of_ble_eq_true rfl⟩, S.2.2.2.2 _ zw_1062, S.2.2.2.2 _ zw_1063⟩ (zPreV hE (hM 0 _ rfl) rfl ⟨rfl, hPc, hDc, trivial⟩) rfl rfl hl.1 rfl (lv_room (Nat.le_of_ble_eq_true rfl)) d_law_287 ⟨by show _ ≤ (600002 : Nat); omega, by show _ ≤ (7302198 : Nat); omega⟩) hS (fun q _ h => hFc q h) hFc (fun v H2 locs hq hz2 hk2 hS => ?_)
  obtain ⟨rfl, za, zb, zc, zd, zc2, zp2, zsz, zcd, zn, zba, zrs, hmo⟩ := hq
  have hou := hou.kept (hk2 ou hou.lt hno)
  have hE := hE0.at hS hA0
  refine W.eq (g2 := F0 m 290 ls []) rfl ?_
  refine lv_aload_n hx hb d_law_290 rfl (lv_at hl 3 rfl) ?_
  refine zcR (va_runV (As := []) (rest := []) S (c_Mod_thrown l E mo za zb zc zd zc2 zp2 zsz 1 zcd zn zba zrs) ⟨zcwB (n := 0) S zw_1047 zw_14 zw_1044 (by decide +kernel) rfl rfl ⟨Nat.le_of_ble_eq_true rfl, Nat.le_of_ble_eq_true rfl⟩, S.2.2.2.2 _ zw_1045, S.2.2.2.2 _ zw_1046⟩ (zPreV hE hmo rfl hmo) rfl rfl hl.1 rfl (lv_room (Nat.le_of_ble_eq_true rfl)) d_law_291 ⟨Nat.le_of_ble_eq_true rfl, Nat.le_of_ble_eq_true rfl⟩) ?_
  refine lv_iload hx hb d_law_294 (lv_at hl 0 rfl) ?_
  refine zi_icmp_eq hx hb d_law_296 rfl (by omega) (by omega) (fun h296 => ?_) (fun h => absurd h (by omega))
  refine lv_goto hx hb d_law_301 rfl ?_
  exact zlaw_tail S hr hlk hEs hX hbl hS (by omega) (by omega) (by decide) (lv_sub hl [1, 5] rfl)

set_option maxRecDepth 100000 in
set_option maxHeartbeats 4000000 in
theorem zlaw_set0 {p : Program} {l : Launch} {e : Env} {s : State} {m : MethodId} {below : List Frame} {meth : Method} {c : Code} {b : Nat} {xs : Nat → Int32} {E : zP} {H : Heap} {locs : List Loc} {ls : Array Slot} (htl : ∀ e : Env, l.admits e → e.platform.stackTraces = false) (S : CallFix p m c code 7 s #[Value.ref b] zw "ReplacementWriterLaw") (hr : meth.sig.returnType = ret) (hlk : meth.locks = false) (hEs : E.2.2.2 = s.heap.size) (hX : va_X b 7 xs s s.heap) (hbl : b < s.heap.size) (hE0 : zE E s s.heap) (hS : va_S (zOld E) s.heap H locs) {ad : Nat → Nat} {en : Nat → va_E} {ou : Nat} {u p1 : Bool} (hst : zSt E false 0 ad en (zS0 u p1) zC0 H) (hou : zOu E ou 0 H) (hne : ∀ i, zRo false 0 i → ad i ≠ ou) (hoo : zOld E ou) {mo tb kq mq te tq oq ho hq nl ul mk xq cq pq : Nat} {u2 p2 : Bool} {la : Int} {f9 : Nat → Int32} (hM : va_P E.1 zcl (zWM E mo tb kq mq te tq oq ho hq nl ul mk xq cq pq u2 p2 la f9) H) (hMD : va_D (zOld E) (zWM E mo tb kq mq te tq oq ho hq nl ul mk xq cq pq u2 p2 la f9)) (hMn : ∀ (k : Nat) (q : Nat × va_E), (zWM E mo tb kq mq te tq oq ho hq nl ul mk xq cq pq u2 p2 la f9)[k]? = some q → q.1 ≠ ou ∧ ∀ i, zRo false 0 i → ad i ≠ q.1) (hl : lv_has ls 7 [(4, .int (iI 1)), (3, .ref ou), (2, .ref mo), (1, .ref (ad 0)), (0, .ref b)]) (k0 : Int) (hk0 : r32 k0) (ek : iI k0 = xs 2) (hz0 : k0 = 0) : W p l e room_1 s m #[Value.ref b] below meth c H locs 1000 300000 (lw_Z below #[Value.ref b] s) (F0 m 304 ls []) := by
  have hx := S.1
  have hb := S.2.1
  have hbA : ¬ zOld E b := by unfold zOld; omega
  have hA0 : ∀ q, zOld E q → zOld E q := fun q h => h
  have hE := hE0.at hS hA0
  have hMw : ∀ (k : Nat) (q : Nat × va_E), (zWM E mo tb kq mq te tq oq ho hq nl ul mk xq cq pq u2 p2 la f9)[k]? = some q → ¬ zAw (zRo false 0) ad H.size ou q.1 := fun k q hq h => h.elim (fun h => h.elim (fun ⟨i, hi, e9⟩ => (hMn k q hq).2 i hi e9.symm) (fun h => Nat.not_le.mpr (hM k q hq).lt h)) (hMn k q hq).1
  have hAw : ∀ q, zAw (zRo false 0) ad H.size ou q → zOld E q := zAw_old hst.1 hE.2.1 hoo
  refine lv_aload_n hx hb d_law_304 rfl (lv_at hl 3 rfl) ?_
  refine lv_aload_n hx hb d_law_305 rfl (lv_at hl 4 rfl) ?_
  refine lv_iload hx hb d_law_306 (lv_at hl 0 rfl) ?_
  refine zi_iconst hx hb d_law_308 ?_
  refine zi_iadd hx hb d_law_309 ?_
  refine W.eq (g2 := F0 m 310 ls ([.int (iI 2), .ref b, .ref (ad 0)])) rfl ?_
  refine va_sld hx hb hX hbl hbA hS (iI_in (by decide) (by decide) (by decide)) d_law_310 ?_
  refine W.eq (g2 := F0 m 311 ls [.int (iI k0), .ref (ad 0)]) (by rw [ek] <;> rfl) ?_
  refine lv_aload_n hx hb d_law_311 rfl (lv_at hl 1 rfl) ?_
  refine W.eq (g2 := F0 m 312 ls [.ref ou, .int (iI ((0 : Nat) : Int)), .ref (ad 0)]) (by rw [hz0]; rfl) ?_
  refine zcW (zrunSW (n := 3) (As := [.ref (ad 0), .int (iI ((0 : Nat) : Int)), .ref ou]) (rest := []) S (w_Law_set l E false 0 ad en (zS0 u p1) zC0 H.size ou 0 0 (by decide) (Nat.le_refl _) (zft0 u) (zchr0 u p1)) zw_415 zw_0 zw_413 zw_414 (by decide +kernel) rfl rfl ⟨Nat.le_of_ble_eq_true rfl, Nat.le_of_ble_eq_true rfl⟩ (zPreS hE ⟨rfl, hst, hou, hne, hoo⟩) rfl rfl hl.1 rfl (lv_room (Nat.le_of_ble_eq_true rfl)) d_law_312 ⟨Nat.le_of_ble_eq_true rfl, Nat.le_of_ble_eq_true rfl⟩) hS (fun q _ h => hAw q h) hAw (fun v H1 locs hq hz1 hk1 hS => ?_)
  obtain ⟨rfl, hou, ad', en', h00, hfr, hst'⟩ := hq
  have hM := zA_kept (wc := []) hM hk1 hMw
  have hE := hE0.at hS hA0
  refine W.widen (k := 2000) (n := 400000) (Nat.le_of_ble_eq_true rfl) (Nat.le_of_ble_eq_true rfl) ?_
  refine W.eq (g2 := F0 m 315 ls [.int (iI 0)]) rfl ?_
  refine lv_istore (lv' := [(5, .int (iI 0)), (4, .int (iI 1)), (3, .ref ou), (2, .ref mo), (1, .ref (ad 0)), (0, .ref b)]) hx hb d_law_315 hl (by decide) rfl (fun ls hl => ?_)
  refine lv_aload_n hx hb d_law_317 rfl (lv_at hl 3 rfl) ?_
  refine lv_aload_n hx hb d_law_318 rfl (lv_at hl 5 rfl) ?_
  refine lv_iload hx hb d_law_319 (lv_at hl 1 rfl) ?_
  refine zi_iconst hx hb d_law_321 ?_
  refine zi_iadd hx hb d_law_322 ?_
  refine W.eq (g2 := F0 m 323 ls ([.int (iI 2), .ref b, .ref mo])) rfl ?_
  refine va_sld hx hb hX hbl hbA hS (iI_in (by decide) (by decide) (by decide)) d_law_323 ?_
  refine W.eq (g2 := F0 m 324 ls [.int (iI k0), .ref mo]) (by rw [ek] <;> rfl) ?_
  have hPc := hM.sub (ws' := [(mo, .inr (10, [.ref tb, .ref te, .ref ho, .ref xq, .int (iI 0), .int (iI 0), .int (iI 0), .int (iI (bN false)), .ref cq, .ref pq, .int (iI 0), .int (iI (-1))])), (ho, .inr (13, [.int (iI 0), .ref hq, .ref nl, .ref ul, .ref mk])), (hq, .inl (E.2.1 6, 100, .inr (.inr (.inr (.inr (fun _ => none)))))), (cq, .inl (E.2.1 2, 65536, .inl (fun _ => 0)))]) [0, 7, 8, 13] rfl
  have hDc := hMD.sub (ws' := [(mo, .inr (10, [.ref tb, .ref te, .ref ho, .ref xq, .int (iI 0), .int (iI 0), .int (iI 0), .int (iI (bN false)), .ref cq, .ref pq, .int (iI 0), .int (iI (-1))])), (ho, .inr (13, [.int (iI 0), .ref hq, .ref nl, .ref ul, .ref mk])), (hq, .inl (E.2.1 6, 100, .inr (.inr (.inr (.inr (fun _ => none)))))), (cq, .inl (E.2.1 2, 65536, .inl (fun _ => 0)))]) [0, 7, 8, 13] (by decide) rfl
  have hFc : ∀ q, va_A [(mo, .inr (10, [.ref tb, .ref te, .ref ho, .ref xq, .int (iI 0), .int (iI 0), .int (iI 0), .int (iI (bN false)), .ref cq, .ref pq, .int (iI 0), .int (iI (-1))])), (ho, .inr (13, [.int (iI 0), .ref hq, .ref nl, .ref ul, .ref mk])), (hq, .inl (E.2.1 6, 100, .inr (.inr (.inr (.inr (fun _ => none)))))), (cq, .inl (E.2.1 2, 65536, .inl (fun _ => 0)))] H1.size q → zOld E q := fun q h => h.elim (fun ⟨k, e9, h9⟩ => hDc.2 k _ h9) (fun h => by have := hE.2.1; unfold zOld; omega)
  have hno : ¬ va_A [(mo, .inr (10, [.ref tb, .ref te, .ref ho, .ref xq, .int (iI 0), .int (iI 0), .int (iI 0), .int (iI (bN false)), .ref cq, .ref pq, .int (iI 0), .int (iI (-1))])), (ho, .inr (13, [.int (iI 0), .ref hq, .ref nl, .ref ul, .ref mk])), (hq, .inl (E.2.1 6, 100, .inr (.inr (.inr (.inr (fun _ => none)))))), (cq, .inl (E.2.1 2, 65536, .inl (fun _ => 0)))] H1.size ou := fun h => h.elim (fun ⟨k, e9, h9⟩ => by
    have hm := zsub_mem (ws := zWM E mo tb kq mq te tq oq ho hq nl ul mk xq cq pq u2 p2 la f9) (ws' := [(mo, .inr (10, [.ref tb, .ref te, .ref ho, .ref xq, .int (iI 0), .int (iI 0), .int (iI 0), .int (iI (bN false)), .ref cq, .ref pq, .int (iI 0), .int (iI (-1))])), (ho, .inr (13, [.int (iI 0), .ref hq, .ref nl, .ref ul, .ref mk])), (hq, .inl (E.2.1 6, 100, .inr (.inr (.inr (.inr (fun _ => none)))))), (cq, .inl (E.2.1 2, 65536, .inl (fun _ => 0)))]) [0, 7, 8, 13] rfl h9
    exact (hMn _ _ hm.choose_spec).1 rfl) (fun h => Nat.not_le.mpr hou.lt h)
  refine zcW (va_runV (As := [.int (iI k0)]) (rest := []) S (c_Mod_set l E _ mo tb te ho xq cq pq hq nl ul mk (fun _ => 0) k0 0 hk0 (by rw [if_pos hz0])) ⟨zcwB (n := 1) S zw_1069 zw_14 zw_1066 (by decide +kernel) rfl rfl ⟨Nat.le_of_ble_eq_true rfl, Nat.le_of_ble_eq_true rfl⟩, S.2.2.2.2 _ zw_1067, S.2.2.2.2 _ zw_1068⟩ (zPreV hE (hM 0 _ rfl) rfl ⟨rfl, hPc, hDc, trivial⟩) rfl rfl hl.1 rfl (lv_room (Nat.le_of_ble_eq_true rfl)) d_law_324 ⟨by show _ ≤ (600002 : Nat); omega, by show _ ≤ (7302198 : Nat); omega⟩) hS (fun q _ h => hFc q h) hFc (fun v H2 locs hq hz2 hk2 hS => ?_)
  obtain ⟨rfl, za, zb, zc, zd, zc2, zp2, zsz, zcd, zn, zba, zrs, hmo⟩ := hq
  have hou := hou.kept (hk2 ou hou.lt hno)
  have hE := hE0.at hS hA0
  refine W.eq (g2 := F0 m 327 ls [.int (iI 0)]) rfl ?_
  refine lv_istore (lv' := [(6, .int (iI 0)), (5, .int (iI 0)), (4, .int (iI 1)), (3, .ref ou), (2, .ref mo), (1, .ref (ad 0)), (0, .ref b)]) hx hb d_law_327 hl (by decide) rfl (fun ls hl => ?_)
  refine lv_aload_n hx hb d_law_329 rfl (lv_at hl 4 rfl) ?_
  refine zcR (va_runV (As := []) (rest := []) S (c_Mod_thrown l E mo za zb zc zd zc2 zp2 zsz 0 zcd zn zba zrs) ⟨zcwB (n := 0) S zw_1047 zw_14 zw_1044 (by decide +kernel) rfl rfl ⟨Nat.le_of_ble_eq_true rfl, Nat.le_of_ble_eq_true rfl⟩, S.2.2.2.2 _ zw_1045, S.2.2.2.2 _ zw_1046⟩ (zPreV hE hmo rfl hmo) rfl rfl hl.1 rfl (lv_room (Nat.le_of_ble_eq_true rfl)) d_law_330 ⟨Nat.le_of_ble_eq_true rfl, Nat.le_of_ble_eq_true rfl⟩) ?_
  refine lv_iload hx hb d_law_333 (lv_at hl 1 rfl) ?_
  refine zi_icmp_eq hx hb d_law_335 rfl (by omega) (by omega) (fun h335 => ?_) (fun h => absurd h (by omega))
  refine lv_iload hx hb d_law_340 (lv_at hl 1 rfl) ?_
  refine zi_if_ne hx hb d_law_342 rfl (by omega) (fun h342 => absurd h342 (by omega)) (fun h342 => ?_)
  refine lv_aload_n hx hb d_law_345 rfl (lv_at hl 3 rfl) ?_
  refine zi_iconst hx hb d_law_346 ?_
  refine zlald0 hx hb hE hou d_law_347 ?_
  refine W.eq (g2 := F0 m 348 ls [.long (jL 0)]) (rfl) ?_
  refine lv_iload hx hb d_law_348 (lv_at hl 0 rfl) ?_
  refine zl_i2l hx hb d_law_350 (by omega) ?_
  refine zl_if_eq hx hb d_law_351 d_law_352 rfl (by omega) (by omega) (fun h352 => ?_) (fun h352 => ?_)
  · refine lv_goto hx hb d_law_357 rfl ?_
    exact zlaw_tail S hr hlk hEs hX hbl hS (by omega) (by omega) (by decide) (lv_sub hl [2, 6] rfl)
  · refine zi_iconst hx hb d_law_355 ?_
    omega

set_option maxRecDepth 100000 in
set_option maxHeartbeats 4000000 in
theorem zlaw_set1 {p : Program} {l : Launch} {e : Env} {s : State} {m : MethodId} {below : List Frame} {meth : Method} {c : Code} {b : Nat} {xs : Nat → Int32} {E : zP} {H : Heap} {locs : List Loc} {ls : Array Slot} (htl : ∀ e : Env, l.admits e → e.platform.stackTraces = false) (S : CallFix p m c code 7 s #[Value.ref b] zw "ReplacementWriterLaw") (hr : meth.sig.returnType = ret) (hlk : meth.locks = false) (hEs : E.2.2.2 = s.heap.size) (hX : va_X b 7 xs s s.heap) (hbl : b < s.heap.size) (hE0 : zE E s s.heap) (hS : va_S (zOld E) s.heap H locs) {ad : Nat → Nat} {en : Nat → va_E} {ou : Nat} {u p1 : Bool} (hst : zSt E false 0 ad en (zS0 u p1) zC0 H) (hou : zOu E ou 0 H) (hne : ∀ i, zRo false 0 i → ad i ≠ ou) (hoo : zOld E ou) {mo tb kq mq te tq oq ho hq nl ul mk xq cq pq : Nat} {u2 p2 : Bool} {la : Int} {f9 : Nat → Int32} (hM : va_P E.1 zcl (zWM E mo tb kq mq te tq oq ho hq nl ul mk xq cq pq u2 p2 la f9) H) (hMD : va_D (zOld E) (zWM E mo tb kq mq te tq oq ho hq nl ul mk xq cq pq u2 p2 la f9)) (hMn : ∀ (k : Nat) (q : Nat × va_E), (zWM E mo tb kq mq te tq oq ho hq nl ul mk xq cq pq u2 p2 la f9)[k]? = some q → q.1 ≠ ou ∧ ∀ i, zRo false 0 i → ad i ≠ q.1) (hl : lv_has ls 7 [(4, .int (iI 1)), (3, .ref ou), (2, .ref mo), (1, .ref (ad 0)), (0, .ref b)]) (k0 : Int) (hk0 : r32 k0) (ek : iI k0 = xs 2) (hz0 : ¬ k0 = 0) : W p l e room_1 s m #[Value.ref b] below meth c H locs 1000 300000 (lw_Z below #[Value.ref b] s) (F0 m 304 ls []) := by
  have hx := S.1
  have hb := S.2.1
  have hbA : ¬ zOld E b := by unfold zOld; omega
  have hA0 : ∀ q, zOld E q → zOld E q := fun q h => h
  have hE := hE0.at hS hA0
  have hMw : ∀ (k : Nat) (q : Nat × va_E), (zWM E mo tb kq mq te tq oq ho hq nl ul mk xq cq pq u2 p2 la f9)[k]? = some q → ¬ zAw (zRo false 0) ad H.size ou q.1 := fun k q hq h => h.elim (fun h => h.elim (fun ⟨i, hi, e9⟩ => (hMn k q hq).2 i hi e9.symm) (fun h => Nat.not_le.mpr (hM k q hq).lt h)) (hMn k q hq).1
  have hAw : ∀ q, zAw (zRo false 0) ad H.size ou q → zOld E q := zAw_old hst.1 hE.2.1 hoo
  refine lv_aload_n hx hb d_law_304 rfl (lv_at hl 3 rfl) ?_
  refine lv_aload_n hx hb d_law_305 rfl (lv_at hl 4 rfl) ?_
  refine lv_iload hx hb d_law_306 (lv_at hl 0 rfl) ?_
  refine zi_iconst hx hb d_law_308 ?_
  refine zi_iadd hx hb d_law_309 ?_
  refine W.eq (g2 := F0 m 310 ls ([.int (iI 2), .ref b, .ref (ad 0)])) rfl ?_
  refine va_sld hx hb hX hbl hbA hS (iI_in (by decide) (by decide) (by decide)) d_law_310 ?_
  refine W.eq (g2 := F0 m 311 ls [.int (iI k0), .ref (ad 0)]) (by rw [ek] <;> rfl) ?_
  refine lv_aload_n hx hb d_law_311 rfl (lv_at hl 1 rfl) ?_
  refine zcW (zrunSW (n := 3) (As := [.ref (ad 0), .int (iI k0), .ref ou]) (rest := []) S (wx_Law_set l htl E false 0 ad en (zS0 u p1) zC0 H.size ou 0 k0 hk0 (by rcases Int.lt_or_le k0 0 with h | h; exact Or.inl h; exact Or.inr (by show (0 : Int) < k0; omega))) zw_415 zw_0 zw_413 zw_414 (by decide +kernel) rfl rfl ⟨Nat.le_of_ble_eq_true rfl, Nat.le_of_ble_eq_true rfl⟩ (zPreS hE ⟨rfl, hst, hou, hne, hoo⟩) rfl rfl hl.1 rfl (lv_room (Nat.le_of_ble_eq_true rfl)) d_law_312 ⟨Nat.le_of_ble_eq_true rfl, Nat.le_of_ble_eq_true rfl⟩) hS (fun q _ h => hAw q h) hAw (fun v H1 locs hq hz1 hk1 hS => ?_)
  obtain ⟨rfl, hou, ad', en', h00, hfr, hst'⟩ := hq
  have hM := zA_kept (wc := []) hM hk1 hMw
  have hE := hE0.at hS hA0
  refine W.widen (k := 2000) (n := 400000) (Nat.le_of_ble_eq_true rfl) (Nat.le_of_ble_eq_true rfl) ?_
  refine W.eq (g2 := F0 m 315 ls [.int (iI 1)]) rfl ?_
  refine lv_istore (lv' := [(5, .int (iI 1)), (4, .int (iI 1)), (3, .ref ou), (2, .ref mo), (1, .ref (ad 0)), (0, .ref b)]) hx hb d_law_315 hl (by decide) rfl (fun ls hl => ?_)
  refine lv_aload_n hx hb d_law_317 rfl (lv_at hl 3 rfl) ?_
  refine lv_aload_n hx hb d_law_318 rfl (lv_at hl 5 rfl) ?_
  refine lv_iload hx hb d_law_319 (lv_at hl 1 rfl) ?_
  refine zi_iconst hx hb d_law_321 ?_
  refine zi_iadd hx hb d_law_322 ?_
  refine W.eq (g2 := F0 m 323 ls ([.int (iI 2), .ref b, .ref mo])) rfl ?_
  refine va_sld hx hb hX hbl hbA hS (iI_in (by decide) (by decide) (by decide)) d_law_323 ?_
  refine W.eq (g2 := F0 m 324 ls [.int (iI k0), .ref mo]) (by rw [ek] <;> rfl) ?_
  have hPc := hM.sub (ws' := [(mo, .inr (10, [.ref tb, .ref te, .ref ho, .ref xq, .int (iI 0), .int (iI 0), .int (iI 0), .int (iI (bN false)), .ref cq, .ref pq, .int (iI 0), .int (iI (-1))])), (ho, .inr (13, [.int (iI 0), .ref hq, .ref nl, .ref ul, .ref mk])), (hq, .inl (E.2.1 6, 100, .inr (.inr (.inr (.inr (fun _ => none)))))), (cq, .inl (E.2.1 2, 65536, .inl (fun _ => 0)))]) [0, 7, 8, 13] rfl
  have hDc := hMD.sub (ws' := [(mo, .inr (10, [.ref tb, .ref te, .ref ho, .ref xq, .int (iI 0), .int (iI 0), .int (iI 0), .int (iI (bN false)), .ref cq, .ref pq, .int (iI 0), .int (iI (-1))])), (ho, .inr (13, [.int (iI 0), .ref hq, .ref nl, .ref ul, .ref mk])), (hq, .inl (E.2.1 6, 100, .inr (.inr (.inr (.inr (fun _ => none)))))), (cq, .inl (E.2.1 2, 65536, .inl (fun _ => 0)))]) [0, 7, 8, 13] (by decide) rfl
  have hFc : ∀ q, va_A [(mo, .inr (10, [.ref tb, .ref te, .ref ho, .ref xq, .int (iI 0), .int (iI 0), .int (iI 0), .int (iI (bN false)), .ref cq, .ref pq, .int (iI 0), .int (iI (-1))])), (ho, .inr (13, [.int (iI 0), .ref hq, .ref nl, .ref ul, .ref mk])), (hq, .inl (E.2.1 6, 100, .inr (.inr (.inr (.inr (fun _ => none)))))), (cq, .inl (E.2.1 2, 65536, .inl (fun _ => 0)))] H1.size q → zOld E q := fun q h => h.elim (fun ⟨k, e9, h9⟩ => hDc.2 k _ h9) (fun h => by have := hE.2.1; unfold zOld; omega)
  have hno : ¬ va_A [(mo, .inr (10, [.ref tb, .ref te, .ref ho, .ref xq, .int (iI 0), .int (iI 0), .int (iI 0), .int (iI (bN false)), .ref cq, .ref pq, .int (iI 0), .int (iI (-1))])), (ho, .inr (13, [.int (iI 0), .ref hq, .ref nl, .ref ul, .ref mk])), (hq, .inl (E.2.1 6, 100, .inr (.inr (.inr (.inr (fun _ => none)))))), (cq, .inl (E.2.1 2, 65536, .inl (fun _ => 0)))] H1.size ou := fun h => h.elim (fun ⟨k, e9, h9⟩ => by
    have hm := zsub_mem (ws := zWM E mo tb kq mq te tq oq ho hq nl ul mk xq cq pq u2 p2 la f9) (ws' := [(mo, .inr (10, [.ref tb, .ref te, .ref ho, .ref xq, .int (iI 0), .int (iI 0), .int (iI 0), .int (iI (bN false)), .ref cq, .ref pq, .int (iI 0), .int (iI (-1))])), (ho, .inr (13, [.int (iI 0), .ref hq, .ref nl, .ref ul, .ref mk])), (hq, .inl (E.2.1 6, 100, .inr (.inr (.inr (.inr (fun _ => none)))))), (cq, .inl (E.2.1 2, 65536, .inl (fun _ => 0)))]) [0, 7, 8, 13] rfl h9
    exact (hMn _ _ hm.choose_spec).1 rfl) (fun h => Nat.not_le.mpr hou.lt h)
  refine zcW (va_runV (As := [.int (iI k0)]) (rest := []) S (c_Mod_set l E _ mo tb te ho xq cq pq hq nl ul mk (fun _ => 0) k0 1 hk0 (by rw [if_neg hz0])) ⟨zcwB (n := 1) S zw_1069 zw_14 zw_1066 (by decide +kernel) rfl rfl ⟨Nat.le_of_ble_eq_true rfl, Nat.le_of_ble_eq_true rfl⟩, S.2.2.2.2 _ zw_1067, S.2.2.2.2 _ zw_1068⟩ (zPreV hE (hM 0 _ rfl) rfl ⟨rfl, hPc, hDc, trivial⟩) rfl rfl hl.1 rfl (lv_room (Nat.le_of_ble_eq_true rfl)) d_law_324 ⟨by show _ ≤ (600002 : Nat); omega, by show _ ≤ (7302198 : Nat); omega⟩) hS (fun q _ h => hFc q h) hFc (fun v H2 locs hq hz2 hk2 hS => ?_)
  obtain ⟨rfl, za, zb, zc, zd, zc2, zp2, zsz, zcd, zn, zba, zrs, hmo⟩ := hq
  have hou := hou.kept (hk2 ou hou.lt hno)
  have hE := hE0.at hS hA0
  refine W.eq (g2 := F0 m 327 ls [.int (iI 0)]) rfl ?_
  refine lv_istore (lv' := [(6, .int (iI 0)), (5, .int (iI 1)), (4, .int (iI 1)), (3, .ref ou), (2, .ref mo), (1, .ref (ad 0)), (0, .ref b)]) hx hb d_law_327 hl (by decide) rfl (fun ls hl => ?_)
  refine lv_aload_n hx hb d_law_329 rfl (lv_at hl 4 rfl) ?_
  refine zcR (va_runV (As := []) (rest := []) S (c_Mod_thrown l E mo za zb zc zd zc2 zp2 zsz 1 zcd zn zba zrs) ⟨zcwB (n := 0) S zw_1047 zw_14 zw_1044 (by decide +kernel) rfl rfl ⟨Nat.le_of_ble_eq_true rfl, Nat.le_of_ble_eq_true rfl⟩, S.2.2.2.2 _ zw_1045, S.2.2.2.2 _ zw_1046⟩ (zPreV hE hmo rfl hmo) rfl rfl hl.1 rfl (lv_room (Nat.le_of_ble_eq_true rfl)) d_law_330 ⟨Nat.le_of_ble_eq_true rfl, Nat.le_of_ble_eq_true rfl⟩) ?_
  refine lv_iload hx hb d_law_333 (lv_at hl 1 rfl) ?_
  refine zi_icmp_eq hx hb d_law_335 rfl (by omega) (by omega) (fun h335 => ?_) (fun h => absurd h (by omega))
  refine lv_iload hx hb d_law_340 (lv_at hl 1 rfl) ?_
  refine zi_if_ne hx hb d_law_342 rfl (by omega) (fun h342 => ?_) (fun h342 => absurd h342 (by omega))
  refine lv_goto hx hb d_law_357 rfl ?_
  exact zlaw_tail S hr hlk hEs hX hbl hS (by omega) (by omega) (by decide) (lv_sub hl [2, 6] rfl)

set_option maxRecDepth 100000 in
set_option maxHeartbeats 4000000 in
theorem zlaw_unset0 {p : Program} {l : Launch} {e : Env} {s : State} {m : MethodId} {below : List Frame} {meth : Method} {c : Code} {b : Nat} {xs : Nat → Int32} {E : zP} {H : Heap} {locs : List Loc} {ls : Array Slot} (htl : ∀ e : Env, l.admits e → e.platform.stackTraces = false) (S : CallFix p m c code 7 s #[Value.ref b] zw "ReplacementWriterLaw") (hr : meth.sig.returnType = ret) (hlk : meth.locks = false) (hEs : E.2.2.2 = s.heap.size) (hX : va_X b 7 xs s s.heap) (hbl : b < s.heap.size) (hE0 : zE E s s.heap) (hS : va_S (zOld E) s.heap H locs) {ad : Nat → Nat} {en : Nat → va_E} {ou : Nat} {u p1 : Bool} (hst : zSt E false 0 ad en (zS0 u p1) zC0 H) (hou : zOu E ou 0 H) (hne : ∀ i, zRo false 0 i → ad i ≠ ou) (hoo : zOld E ou) {mo tb kq mq te tq oq ho hq nl ul mk xq cq pq : Nat} {u2 p2 : Bool} {la : Int} {f9 : Nat → Int32} (hM : va_P E.1 zcl (zWM E mo tb kq mq te tq oq ho hq nl ul mk xq cq pq u2 p2 la f9) H) (hMD : va_D (zOld E) (zWM E mo tb kq mq te tq oq ho hq nl ul mk xq cq pq u2 p2 la f9)) (hMn : ∀ (k : Nat) (q : Nat × va_E), (zWM E mo tb kq mq te tq oq ho hq nl ul mk xq cq pq u2 p2 la f9)[k]? = some q → q.1 ≠ ou ∧ ∀ i, zRo false 0 i → ad i ≠ q.1) (hl : lv_has ls 7 [(4, .int (iI 1)), (3, .ref ou), (2, .ref mo), (1, .ref (ad 0)), (0, .ref b)]) (k0 : Int) (hk0 : r32 k0) (ek : iI k0 = xs 2) (hz0 : k0 = 0) : W p l e room_1 s m #[Value.ref b] below meth c H locs 1000 300000 (lw_Z below #[Value.ref b] s) (F0 m 360 ls []) := by
  have hx := S.1
  have hb := S.2.1
  have hbA : ¬ zOld E b := by unfold zOld; omega
  have hA0 : ∀ q, zOld E q → zOld E q := fun q h => h
  have hE := hE0.at hS hA0
  have hMw : ∀ (k : Nat) (q : Nat × va_E), (zWM E mo tb kq mq te tq oq ho hq nl ul mk xq cq pq u2 p2 la f9)[k]? = some q → ¬ zAw (zRo false 0) ad H.size ou q.1 := fun k q hq h => h.elim (fun h => h.elim (fun ⟨i, hi, e9⟩ => (hMn k q hq).2 i hi e9.symm) (fun h => Nat.not_le.mpr (hM k q hq).lt h)) (hMn k q hq).1
  have hAw : ∀ q, zAw (zRo false 0) ad H.size ou q → zOld E q := zAw_old hst.1 hE.2.1 hoo
  refine lv_aload_n hx hb d_law_360 rfl (lv_at hl 3 rfl) ?_
  refine lv_aload_n hx hb d_law_361 rfl (lv_at hl 4 rfl) ?_
  refine lv_iload hx hb d_law_362 (lv_at hl 0 rfl) ?_
  refine zi_iconst hx hb d_law_364 ?_
  refine zi_iadd hx hb d_law_365 ?_
  refine W.eq (g2 := F0 m 366 ls ([.int (iI 2), .ref b, .ref (ad 0)])) rfl ?_
  refine va_sld hx hb hX hbl hbA hS (iI_in (by decide) (by decide) (by decide)) d_law_366 ?_
  refine W.eq (g2 := F0 m 367 ls [.int (iI k0), .ref (ad 0)]) (by rw [ek] <;> rfl) ?_
  refine W.eq (g2 := F0 m 367 ls [.int (iI ((0 : Nat) : Int)), .ref (ad 0)]) (by rw [hz0]; rfl) ?_
  refine zcW (zrunSW (n := 2) (As := [.ref (ad 0), .int (iI ((0 : Nat) : Int))]) (rest := []) S (w_Law_unset l E false 0 ad en (zS0 u p1) zC0 H.size ou 0 0 (by decide) (Nat.le_refl _)) zw_496 zw_0 zw_494 zw_495 (by decide +kernel) rfl rfl ⟨Nat.le_of_ble_eq_true rfl, Nat.le_of_ble_eq_true rfl⟩ (zPreS hE ⟨rfl, hst, hou, hne, hoo⟩) rfl rfl hl.1 rfl (lv_room (Nat.le_of_ble_eq_true rfl)) d_law_367 ⟨Nat.le_of_ble_eq_true rfl, Nat.le_of_ble_eq_true rfl⟩) hS (fun q _ h => hAw q h) hAw (fun v H1 locs hq hz1 hk1 hS => ?_)
  obtain ⟨rfl, hou, ad', en', h00, hfr, hst'⟩ := hq
  have hM := zA_kept (wc := []) hM hk1 hMw
  have hE := hE0.at hS hA0
  refine W.widen (k := 2000) (n := 400000) (Nat.le_of_ble_eq_true rfl) (Nat.le_of_ble_eq_true rfl) ?_
  refine W.eq (g2 := F0 m 370 ls [.int (iI 0)]) rfl ?_
  refine lv_istore (lv' := [(5, .int (iI 0)), (4, .int (iI 1)), (3, .ref ou), (2, .ref mo), (1, .ref (ad 0)), (0, .ref b)]) hx hb d_law_370 hl (by decide) rfl (fun ls hl => ?_)
  refine lv_aload_n hx hb d_law_372 rfl (lv_at hl 3 rfl) ?_
  refine lv_aload_n hx hb d_law_373 rfl (lv_at hl 5 rfl) ?_
  refine lv_iload hx hb d_law_374 (lv_at hl 1 rfl) ?_
  refine zi_iconst hx hb d_law_376 ?_
  refine zi_iadd hx hb d_law_377 ?_
  refine W.eq (g2 := F0 m 378 ls ([.int (iI 2), .ref b, .ref mo])) rfl ?_
  refine va_sld hx hb hX hbl hbA hS (iI_in (by decide) (by decide) (by decide)) d_law_378 ?_
  refine W.eq (g2 := F0 m 379 ls [.int (iI k0), .ref mo]) (by rw [ek] <;> rfl) ?_
  have hPc := hM.sub (ws' := [(mo, .inr (10, [.ref tb, .ref te, .ref ho, .ref xq, .int (iI 0), .int (iI 0), .int (iI 0), .int (iI (bN false)), .ref cq, .ref pq, .int (iI 0), .int (iI (-1))])), (ho, .inr (13, [.int (iI 0), .ref hq, .ref nl, .ref ul, .ref mk])), (hq, .inl (E.2.1 6, 100, .inr (.inr (.inr (.inr (fun _ => none))))))]) [0, 7, 8] rfl
  have hDc := hMD.sub (ws' := [(mo, .inr (10, [.ref tb, .ref te, .ref ho, .ref xq, .int (iI 0), .int (iI 0), .int (iI 0), .int (iI (bN false)), .ref cq, .ref pq, .int (iI 0), .int (iI (-1))])), (ho, .inr (13, [.int (iI 0), .ref hq, .ref nl, .ref ul, .ref mk])), (hq, .inl (E.2.1 6, 100, .inr (.inr (.inr (.inr (fun _ => none))))))]) [0, 7, 8] (by decide) rfl
  have hFc : ∀ q, va_A [(mo, .inr (10, [.ref tb, .ref te, .ref ho, .ref xq, .int (iI 0), .int (iI 0), .int (iI 0), .int (iI (bN false)), .ref cq, .ref pq, .int (iI 0), .int (iI (-1))])), (ho, .inr (13, [.int (iI 0), .ref hq, .ref nl, .ref ul, .ref mk])), (hq, .inl (E.2.1 6, 100, .inr (.inr (.inr (.inr (fun _ => none))))))] H1.size q → zOld E q := fun q h => h.elim (fun ⟨k, e9, h9⟩ => hDc.2 k _ h9) (fun h => by have := hE.2.1; unfold zOld; omega)
  have hno : ¬ va_A [(mo, .inr (10, [.ref tb, .ref te, .ref ho, .ref xq, .int (iI 0), .int (iI 0), .int (iI 0), .int (iI (bN false)), .ref cq, .ref pq, .int (iI 0), .int (iI (-1))])), (ho, .inr (13, [.int (iI 0), .ref hq, .ref nl, .ref ul, .ref mk])), (hq, .inl (E.2.1 6, 100, .inr (.inr (.inr (.inr (fun _ => none))))))] H1.size ou := fun h => h.elim (fun ⟨k, e9, h9⟩ => by
    have hm := zsub_mem (ws := zWM E mo tb kq mq te tq oq ho hq nl ul mk xq cq pq u2 p2 la f9) (ws' := [(mo, .inr (10, [.ref tb, .ref te, .ref ho, .ref xq, .int (iI 0), .int (iI 0), .int (iI 0), .int (iI (bN false)), .ref cq, .ref pq, .int (iI 0), .int (iI (-1))])), (ho, .inr (13, [.int (iI 0), .ref hq, .ref nl, .ref ul, .ref mk])), (hq, .inl (E.2.1 6, 100, .inr (.inr (.inr (.inr (fun _ => none))))))]) [0, 7, 8] rfl h9
    exact (hMn _ _ hm.choose_spec).1 rfl) (fun h => Nat.not_le.mpr hou.lt h)
  refine zcW (va_runV (As := [.int (iI k0)]) (rest := []) S (c_Mod_unset l E _ mo tb te ho xq cq pq hq nl ul mk k0 0 hk0 (by rw [if_pos hz0])) ⟨zcwB (n := 1) S zw_1085 zw_14 zw_1082 (by decide +kernel) rfl rfl ⟨Nat.le_of_ble_eq_true rfl, Nat.le_of_ble_eq_true rfl⟩, S.2.2.2.2 _ zw_1083, S.2.2.2.2 _ zw_1084⟩ (zPreV hE (hM 0 _ rfl) rfl ⟨rfl, hPc, hDc, trivial⟩) rfl rfl hl.1 rfl (lv_room (Nat.le_of_ble_eq_true rfl)) d_law_379 ⟨by show _ ≤ (600002 : Nat); omega, by show _ ≤ (7302198 : Nat); omega⟩) hS (fun q _ h => hFc q h) hFc (fun v H2 locs hq hz2 hk2 hS => ?_)
  obtain ⟨rfl, za, zb, zc, zd, zc2, zp2, zsz, zcd, zn, zba, zrs, hmo⟩ := hq
  have hou := hou.kept (hk2 ou hou.lt hno)
  have hE := hE0.at hS hA0
  refine W.eq (g2 := F0 m 382 ls []) rfl ?_
  refine lv_aload_n hx hb d_law_382 rfl (lv_at hl 3 rfl) ?_
  refine zcR (va_runV (As := []) (rest := []) S (c_Mod_thrown l E mo za zb zc zd zc2 zp2 zsz 0 zcd zn zba zrs) ⟨zcwB (n := 0) S zw_1047 zw_14 zw_1044 (by decide +kernel) rfl rfl ⟨Nat.le_of_ble_eq_true rfl, Nat.le_of_ble_eq_true rfl⟩, S.2.2.2.2 _ zw_1045, S.2.2.2.2 _ zw_1046⟩ (zPreV hE hmo rfl hmo) rfl rfl hl.1 rfl (lv_room (Nat.le_of_ble_eq_true rfl)) d_law_383 ⟨Nat.le_of_ble_eq_true rfl, Nat.le_of_ble_eq_true rfl⟩) ?_
  refine lv_iload hx hb d_law_386 (lv_at hl 0 rfl) ?_
  refine zi_icmp_eq hx hb d_law_388 rfl (by omega) (by omega) (fun h388 => ?_) (fun h => absurd h (by omega))
  refine lv_goto hx hb d_law_393 rfl ?_
  exact zlaw_tail S hr hlk hEs hX hbl hS (by omega) (by omega) (by decide) (lv_sub hl [1, 5] rfl)

set_option maxRecDepth 100000 in
set_option maxHeartbeats 4000000 in
theorem zlaw_unset1 {p : Program} {l : Launch} {e : Env} {s : State} {m : MethodId} {below : List Frame} {meth : Method} {c : Code} {b : Nat} {xs : Nat → Int32} {E : zP} {H : Heap} {locs : List Loc} {ls : Array Slot} (htl : ∀ e : Env, l.admits e → e.platform.stackTraces = false) (S : CallFix p m c code 7 s #[Value.ref b] zw "ReplacementWriterLaw") (hr : meth.sig.returnType = ret) (hlk : meth.locks = false) (hEs : E.2.2.2 = s.heap.size) (hX : va_X b 7 xs s s.heap) (hbl : b < s.heap.size) (hE0 : zE E s s.heap) (hS : va_S (zOld E) s.heap H locs) {ad : Nat → Nat} {en : Nat → va_E} {ou : Nat} {u p1 : Bool} (hst : zSt E false 0 ad en (zS0 u p1) zC0 H) (hou : zOu E ou 0 H) (hne : ∀ i, zRo false 0 i → ad i ≠ ou) (hoo : zOld E ou) {mo tb kq mq te tq oq ho hq nl ul mk xq cq pq : Nat} {u2 p2 : Bool} {la : Int} {f9 : Nat → Int32} (hM : va_P E.1 zcl (zWM E mo tb kq mq te tq oq ho hq nl ul mk xq cq pq u2 p2 la f9) H) (hMD : va_D (zOld E) (zWM E mo tb kq mq te tq oq ho hq nl ul mk xq cq pq u2 p2 la f9)) (hMn : ∀ (k : Nat) (q : Nat × va_E), (zWM E mo tb kq mq te tq oq ho hq nl ul mk xq cq pq u2 p2 la f9)[k]? = some q → q.1 ≠ ou ∧ ∀ i, zRo false 0 i → ad i ≠ q.1) (hl : lv_has ls 7 [(4, .int (iI 1)), (3, .ref ou), (2, .ref mo), (1, .ref (ad 0)), (0, .ref b)]) (k0 : Int) (hk0 : r32 k0) (ek : iI k0 = xs 2) (hz0 : ¬ k0 = 0) : W p l e room_1 s m #[Value.ref b] below meth c H locs 1000 300000 (lw_Z below #[Value.ref b] s) (F0 m 360 ls []) := by
  have hx := S.1
  have hb := S.2.1
  have hbA : ¬ zOld E b := by unfold zOld; omega
  have hA0 : ∀ q, zOld E q → zOld E q := fun q h => h
  have hE := hE0.at hS hA0
  have hMw : ∀ (k : Nat) (q : Nat × va_E), (zWM E mo tb kq mq te tq oq ho hq nl ul mk xq cq pq u2 p2 la f9)[k]? = some q → ¬ zAw (zRo false 0) ad H.size ou q.1 := fun k q hq h => h.elim (fun h => h.elim (fun ⟨i, hi, e9⟩ => (hMn k q hq).2 i hi e9.symm) (fun h => Nat.not_le.mpr (hM k q hq).lt h)) (hMn k q hq).1
  have hAw : ∀ q, zAw (zRo false 0) ad H.size ou q → zOld E q := zAw_old hst.1 hE.2.1 hoo
  refine lv_aload_n hx hb d_law_360 rfl (lv_at hl 3 rfl) ?_
  refine lv_aload_n hx hb d_law_361 rfl (lv_at hl 4 rfl) ?_
  refine lv_iload hx hb d_law_362 (lv_at hl 0 rfl) ?_
  refine zi_iconst hx hb d_law_364 ?_
  refine zi_iadd hx hb d_law_365 ?_
  refine W.eq (g2 := F0 m 366 ls ([.int (iI 2), .ref b, .ref (ad 0)])) rfl ?_
  refine va_sld hx hb hX hbl hbA hS (iI_in (by decide) (by decide) (by decide)) d_law_366 ?_
  refine W.eq (g2 := F0 m 367 ls [.int (iI k0), .ref (ad 0)]) (by rw [ek] <;> rfl) ?_
  refine zcW (zrunSW (n := 2) (As := [.ref (ad 0), .int (iI k0)]) (rest := []) S (wx_Law_unset l htl E false 0 ad en (zS0 u p1) zC0 H.size ou 0 k0 hk0 (by rcases Int.lt_or_le k0 0 with h | h; exact Or.inl h; exact Or.inr (by show (0 : Int) < k0; omega))) zw_496 zw_0 zw_494 zw_495 (by decide +kernel) rfl rfl ⟨Nat.le_of_ble_eq_true rfl, Nat.le_of_ble_eq_true rfl⟩ (zPreS hE ⟨rfl, hst, hou, hne, hoo⟩) rfl rfl hl.1 rfl (lv_room (Nat.le_of_ble_eq_true rfl)) d_law_367 ⟨Nat.le_of_ble_eq_true rfl, Nat.le_of_ble_eq_true rfl⟩) hS (fun q _ h => hAw q h) hAw (fun v H1 locs hq hz1 hk1 hS => ?_)
  obtain ⟨rfl, hou, ad', en', h00, hfr, hst'⟩ := hq
  have hM := zA_kept (wc := []) hM hk1 hMw
  have hE := hE0.at hS hA0
  refine W.widen (k := 2000) (n := 400000) (Nat.le_of_ble_eq_true rfl) (Nat.le_of_ble_eq_true rfl) ?_
  refine W.eq (g2 := F0 m 370 ls [.int (iI 1)]) rfl ?_
  refine lv_istore (lv' := [(5, .int (iI 1)), (4, .int (iI 1)), (3, .ref ou), (2, .ref mo), (1, .ref (ad 0)), (0, .ref b)]) hx hb d_law_370 hl (by decide) rfl (fun ls hl => ?_)
  refine lv_aload_n hx hb d_law_372 rfl (lv_at hl 3 rfl) ?_
  refine lv_aload_n hx hb d_law_373 rfl (lv_at hl 5 rfl) ?_
  refine lv_iload hx hb d_law_374 (lv_at hl 1 rfl) ?_
  refine zi_iconst hx hb d_law_376 ?_
  refine zi_iadd hx hb d_law_377 ?_
  refine W.eq (g2 := F0 m 378 ls ([.int (iI 2), .ref b, .ref mo])) rfl ?_
  refine va_sld hx hb hX hbl hbA hS (iI_in (by decide) (by decide) (by decide)) d_law_378 ?_
  refine W.eq (g2 := F0 m 379 ls [.int (iI k0), .ref mo]) (by rw [ek] <;> rfl) ?_
  have hPc := hM.sub (ws' := [(mo, .inr (10, [.ref tb, .ref te, .ref ho, .ref xq, .int (iI 0), .int (iI 0), .int (iI 0), .int (iI (bN false)), .ref cq, .ref pq, .int (iI 0), .int (iI (-1))])), (ho, .inr (13, [.int (iI 0), .ref hq, .ref nl, .ref ul, .ref mk])), (hq, .inl (E.2.1 6, 100, .inr (.inr (.inr (.inr (fun _ => none))))))]) [0, 7, 8] rfl
  have hDc := hMD.sub (ws' := [(mo, .inr (10, [.ref tb, .ref te, .ref ho, .ref xq, .int (iI 0), .int (iI 0), .int (iI 0), .int (iI (bN false)), .ref cq, .ref pq, .int (iI 0), .int (iI (-1))])), (ho, .inr (13, [.int (iI 0), .ref hq, .ref nl, .ref ul, .ref mk])), (hq, .inl (E.2.1 6, 100, .inr (.inr (.inr (.inr (fun _ => none))))))]) [0, 7, 8] (by decide) rfl
  have hFc : ∀ q, va_A [(mo, .inr (10, [.ref tb, .ref te, .ref ho, .ref xq, .int (iI 0), .int (iI 0), .int (iI 0), .int (iI (bN false)), .ref cq, .ref pq, .int (iI 0), .int (iI (-1))])), (ho, .inr (13, [.int (iI 0), .ref hq, .ref nl, .ref ul, .ref mk])), (hq, .inl (E.2.1 6, 100, .inr (.inr (.inr (.inr (fun _ => none))))))] H1.size q → zOld E q := fun q h => h.elim (fun ⟨k, e9, h9⟩ => hDc.2 k _ h9) (fun h => by have := hE.2.1; unfold zOld; omega)
  have hno : ¬ va_A [(mo, .inr (10, [.ref tb, .ref te, .ref ho, .ref xq, .int (iI 0), .int (iI 0), .int (iI 0), .int (iI (bN false)), .ref cq, .ref pq, .int (iI 0), .int (iI (-1))])), (ho, .inr (13, [.int (iI 0), .ref hq, .ref nl, .ref ul, .ref mk])), (hq, .inl (E.2.1 6, 100, .inr (.inr (.inr (.inr (fun _ => none))))))] H1.size ou := fun h => h.elim (fun ⟨k, e9, h9⟩ => by
    have hm := zsub_mem (ws := zWM E mo tb kq mq te tq oq ho hq nl ul mk xq cq pq u2 p2 la f9) (ws' := [(mo, .inr (10, [.ref tb, .ref te, .ref ho, .ref xq, .int (iI 0), .int (iI 0), .int (iI 0), .int (iI (bN false)), .ref cq, .ref pq, .int (iI 0), .int (iI (-1))])), (ho, .inr (13, [.int (iI 0), .ref hq, .ref nl, .ref ul, .ref mk])), (hq, .inl (E.2.1 6, 100, .inr (.inr (.inr (.inr (fun _ => none))))))]) [0, 7, 8] rfl h9
    exact (hMn _ _ hm.choose_spec).1 rfl) (fun h => Nat.not_le.mpr hou.lt h)
  refine zcW (va_runV (As := [.int (iI k0)]) (rest := []) S (c_Mod_unset l E _ mo tb te ho xq cq pq hq nl ul mk k0 1 hk0 (by rw [if_neg hz0])) ⟨zcwB (n := 1) S zw_1085 zw_14 zw_1082 (by decide +kernel) rfl rfl ⟨Nat.le_of_ble_eq_true rfl, Nat.le_of_ble_eq_true rfl⟩, S.2.2.2.2 _ zw_1083, S.2.2.2.2 _ zw_1084⟩ (zPreV hE (hM 0 _ rfl) rfl ⟨rfl, hPc, hDc, trivial⟩) rfl rfl hl.1 rfl (lv_room (Nat.le_of_ble_eq_true rfl)) d_law_379 ⟨by show _ ≤ (600002 : Nat); omega, by show _ ≤ (7302198 : Nat); omega⟩) hS (fun q _ h => hFc q h) hFc (fun v H2 locs hq hz2 hk2 hS => ?_)
  obtain ⟨rfl, za, zb, zc, zd, zc2, zp2, zsz, zcd, zn, zba, zrs, hmo⟩ := hq
  have hou := hou.kept (hk2 ou hou.lt hno)
  have hE := hE0.at hS hA0
  refine W.eq (g2 := F0 m 382 ls []) rfl ?_
  refine lv_aload_n hx hb d_law_382 rfl (lv_at hl 3 rfl) ?_
  refine zcR (va_runV (As := []) (rest := []) S (c_Mod_thrown l E mo za zb zc zd zc2 zp2 zsz 1 zcd zn zba zrs) ⟨zcwB (n := 0) S zw_1047 zw_14 zw_1044 (by decide +kernel) rfl rfl ⟨Nat.le_of_ble_eq_true rfl, Nat.le_of_ble_eq_true rfl⟩, S.2.2.2.2 _ zw_1045, S.2.2.2.2 _ zw_1046⟩ (zPreV hE hmo rfl hmo) rfl rfl hl.1 rfl (lv_room (Nat.le_of_ble_eq_true rfl)) d_law_383 ⟨Nat.le_of_ble_eq_true rfl, Nat.le_of_ble_eq_true rfl⟩) ?_
  refine lv_iload hx hb d_law_386 (lv_at hl 0 rfl) ?_
  refine zi_icmp_eq hx hb d_law_388 rfl (by omega) (by omega) (fun h388 => ?_) (fun h => absurd h (by omega))
  refine lv_goto hx hb d_law_393 rfl ?_
  exact zlaw_tail S hr hlk hEs hX hbl hS (by omega) (by omega) (by decide) (lv_sub hl [1, 5] rfl)

set_option maxRecDepth 100000 in
set_option maxHeartbeats 4000000 in
theorem zlaw_name0 {p : Program} {l : Launch} {e : Env} {s : State} {m : MethodId} {below : List Frame} {meth : Method} {c : Code} {b : Nat} {xs : Nat → Int32} {E : zP} {H : Heap} {locs : List Loc} {ls : Array Slot} (htl : ∀ e : Env, l.admits e → e.platform.stackTraces = false) (S : CallFix p m c code 7 s #[Value.ref b] zw "ReplacementWriterLaw") (hr : meth.sig.returnType = ret) (hlk : meth.locks = false) (hEs : E.2.2.2 = s.heap.size) (hX : va_X b 7 xs s s.heap) (hbl : b < s.heap.size) (hE0 : zE E s s.heap) (hS : va_S (zOld E) s.heap H locs) {ad : Nat → Nat} {en : Nat → va_E} {ou : Nat} {u p1 : Bool} (hst : zSt E false 0 ad en (zS0 u p1) zC0 H) (hou : zOu E ou 0 H) (hne : ∀ i, zRo false 0 i → ad i ≠ ou) (hoo : zOld E ou) {mo tb kq mq te tq oq ho hq nl ul mk xq cq pq : Nat} {u2 p2 : Bool} {la : Int} {f9 : Nat → Int32} (hM : va_P E.1 zcl (zWM E mo tb kq mq te tq oq ho hq nl ul mk xq cq pq u2 p2 la f9) H) (hMD : va_D (zOld E) (zWM E mo tb kq mq te tq oq ho hq nl ul mk xq cq pq u2 p2 la f9)) (hMn : ∀ (k : Nat) (q : Nat × va_E), (zWM E mo tb kq mq te tq oq ho hq nl ul mk xq cq pq u2 p2 la f9)[k]? = some q → q.1 ≠ ou ∧ ∀ i, zRo false 0 i → ad i ≠ q.1) (hl : lv_has ls 7 [(4, .int (iI 1)), (3, .ref ou), (2, .ref mo), (1, .ref (ad 0)), (0, .ref b)]) (k0 : Int) (hk0 : r32 k0) (ek : iI k0 = xs 2)  : W p l e room_1 s m #[Value.ref b] below meth c H locs 1000 300000 (lw_Z below #[Value.ref b] s) (F0 m 396 ls []) := by
  have hx := S.1
  have hb := S.2.1
  have hbA : ¬ zOld E b := by unfold zOld; omega
  have hA0 : ∀ q, zOld E q → zOld E q := fun q h => h
  have hE := hE0.at hS hA0
  have hMw : ∀ (k : Nat) (q : Nat × va_E), (zWM E mo tb kq mq te tq oq ho hq nl ul mk xq cq pq u2 p2 la f9)[k]? = some q → ¬ zAw (zRo false 0) ad H.size ou q.1 := fun k q hq h => h.elim (fun h => h.elim (fun ⟨i, hi, e9⟩ => (hMn k q hq).2 i hi e9.symm) (fun h => Nat.not_le.mpr (hM k q hq).lt h)) (hMn k q hq).1
  have hAw : ∀ q, zAw (zRo false 0) ad H.size ou q → zOld E q := zAw_old hst.1 hE.2.1 hoo
  refine lv_aload_n hx hb d_law_396 rfl (lv_at hl 3 rfl) ?_
  refine lv_aload_n hx hb d_law_397 rfl (lv_at hl 4 rfl) ?_
  refine lv_iload hx hb d_law_398 (lv_at hl 0 rfl) ?_
  refine zi_iconst hx hb d_law_400 ?_
  refine zi_iadd hx hb d_law_401 ?_
  refine W.eq (g2 := F0 m 402 ls ([.int (iI 2), .ref b, .ref (ad 0)])) rfl ?_
  refine va_sld hx hb hX hbl hbA hS (iI_in (by decide) (by decide) (by decide)) d_law_402 ?_
  refine W.eq (g2 := F0 m 403 ls [.int (iI k0), .ref (ad 0)]) (by rw [ek] <;> rfl) ?_
  refine lv_aload_n hx hb d_law_403 rfl (lv_at hl 1 rfl) ?_
  refine zcW (zrunSW (n := 3) (As := [.ref (ad 0), .int (iI k0), .ref ou]) (rest := []) S (wx_Law_name l htl E false 0 ad en (zS0 u p1) zC0 H.size ou 0 k0 hk0 (by rcases Int.lt_or_le k0 1 with h | h; exact Or.inl h; exact Or.inr (by show (0 : Int) < k0; omega))) zw_507 zw_0 zw_505 zw_506 (by decide +kernel) rfl rfl ⟨Nat.le_of_ble_eq_true rfl, Nat.le_of_ble_eq_true rfl⟩ (zPreS hE ⟨rfl, hst, hou, hne, hoo⟩) rfl rfl hl.1 rfl (lv_room (Nat.le_of_ble_eq_true rfl)) d_law_404 ⟨Nat.le_of_ble_eq_true rfl, Nat.le_of_ble_eq_true rfl⟩) hS (fun q _ h => hAw q h) hAw (fun v H1 locs hq hz1 hk1 hS => ?_)
  obtain ⟨rfl, hou, ad', en', h00, hfr, hst'⟩ := hq
  have hM := zA_kept (wc := []) hM hk1 hMw
  have hE := hE0.at hS hA0
  refine W.widen (k := 2000) (n := 400000) (Nat.le_of_ble_eq_true rfl) (Nat.le_of_ble_eq_true rfl) ?_
  refine W.eq (g2 := F0 m 407 ls [.int (iI 1)]) rfl ?_
  refine lv_istore (lv' := [(5, .int (iI 1)), (4, .int (iI 1)), (3, .ref ou), (2, .ref mo), (1, .ref (ad 0)), (0, .ref b)]) hx hb d_law_407 hl (by decide) rfl (fun ls hl => ?_)
  refine lv_aload_n hx hb d_law_409 rfl (lv_at hl 3 rfl) ?_
  refine lv_aload_n hx hb d_law_410 rfl (lv_at hl 5 rfl) ?_
  refine lv_iload hx hb d_law_411 (lv_at hl 1 rfl) ?_
  refine zi_iconst hx hb d_law_413 ?_
  refine zi_iadd hx hb d_law_414 ?_
  refine W.eq (g2 := F0 m 415 ls ([.int (iI 2), .ref b, .ref mo])) rfl ?_
  refine va_sld hx hb hX hbl hbA hS (iI_in (by decide) (by decide) (by decide)) d_law_415 ?_
  refine W.eq (g2 := F0 m 416 ls [.int (iI k0), .ref mo]) (by rw [ek] <;> rfl) ?_
  have hPc := hM.sub (ws' := [(mo, .inr (10, [.ref tb, .ref te, .ref ho, .ref xq, .int (iI 0), .int (iI 0), .int (iI 0), .int (iI (bN false)), .ref cq, .ref pq, .int (iI 0), .int (iI (-1))])), (ho, .inr (13, [.int (iI 0), .ref hq, .ref nl, .ref ul, .ref mk]))]) [0, 7] rfl
  have hDc := hMD.sub (ws' := [(mo, .inr (10, [.ref tb, .ref te, .ref ho, .ref xq, .int (iI 0), .int (iI 0), .int (iI 0), .int (iI (bN false)), .ref cq, .ref pq, .int (iI 0), .int (iI (-1))])), (ho, .inr (13, [.int (iI 0), .ref hq, .ref nl, .ref ul, .ref mk]))]) [0, 7] (by decide) rfl
  have hFc : ∀ q, va_A [(mo, .inr (10, [.ref tb, .ref te, .ref ho, .ref xq, .int (iI 0), .int (iI 0), .int (iI 0), .int (iI (bN false)), .ref cq, .ref pq, .int (iI 0), .int (iI (-1))])), (ho, .inr (13, [.int (iI 0), .ref hq, .ref nl, .ref ul, .ref mk]))] H1.size q → zOld E q := fun q h => h.elim (fun ⟨k, e9, h9⟩ => hDc.2 k _ h9) (fun h => by have := hE.2.1; unfold zOld; omega)
  have hno : ¬ va_A [(mo, .inr (10, [.ref tb, .ref te, .ref ho, .ref xq, .int (iI 0), .int (iI 0), .int (iI 0), .int (iI (bN false)), .ref cq, .ref pq, .int (iI 0), .int (iI (-1))])), (ho, .inr (13, [.int (iI 0), .ref hq, .ref nl, .ref ul, .ref mk]))] H1.size ou := fun h => h.elim (fun ⟨k, e9, h9⟩ => by
    have hm := zsub_mem (ws := zWM E mo tb kq mq te tq oq ho hq nl ul mk xq cq pq u2 p2 la f9) (ws' := [(mo, .inr (10, [.ref tb, .ref te, .ref ho, .ref xq, .int (iI 0), .int (iI 0), .int (iI 0), .int (iI (bN false)), .ref cq, .ref pq, .int (iI 0), .int (iI (-1))])), (ho, .inr (13, [.int (iI 0), .ref hq, .ref nl, .ref ul, .ref mk]))]) [0, 7] rfl h9
    exact (hMn _ _ hm.choose_spec).1 rfl) (fun h => Nat.not_le.mpr hou.lt h)
  refine zcW (va_runV (As := [.int (iI k0)]) (rest := []) S (c_Mod_name l E _ mo tb te ho xq cq pq hq nl ul mk k0 hk0) ⟨zcwB (n := 1) S zw_1089 zw_14 zw_1086 (by decide +kernel) rfl rfl ⟨Nat.le_of_ble_eq_true rfl, Nat.le_of_ble_eq_true rfl⟩, S.2.2.2.2 _ zw_1087, S.2.2.2.2 _ zw_1088⟩ (zPreV hE (hM 0 _ rfl) rfl ⟨rfl, hPc, hDc, trivial⟩) rfl rfl hl.1 rfl (lv_room (Nat.le_of_ble_eq_true rfl)) d_law_416 ⟨by show _ ≤ (600002 : Nat); omega, by show _ ≤ (7302198 : Nat); omega⟩) hS (fun q _ h => hFc q h) hFc (fun v H2 locs hq hz2 hk2 hS => ?_)
  obtain ⟨rfl, za, zb, zc, zd, zc2, zp2, zsz, zcd, zn, zba, zrs, hmo⟩ := hq
  have hou := hou.kept (hk2 ou hou.lt hno)
  have hE := hE0.at hS hA0
  refine W.eq (g2 := F0 m 419 ls [.int (iI 0)]) rfl ?_
  refine lv_istore (lv' := [(6, .int (iI 0)), (5, .int (iI 1)), (4, .int (iI 1)), (3, .ref ou), (2, .ref mo), (1, .ref (ad 0)), (0, .ref b)]) hx hb d_law_419 hl (by decide) rfl (fun ls hl => ?_)
  refine lv_aload_n hx hb d_law_421 rfl (lv_at hl 4 rfl) ?_
  refine zcR (va_runV (As := []) (rest := []) S (c_Mod_thrown l E mo za zb zc zd zc2 zp2 zsz 1 zcd zn zba zrs) ⟨zcwB (n := 0) S zw_1047 zw_14 zw_1044 (by decide +kernel) rfl rfl ⟨Nat.le_of_ble_eq_true rfl, Nat.le_of_ble_eq_true rfl⟩, S.2.2.2.2 _ zw_1045, S.2.2.2.2 _ zw_1046⟩ (zPreV hE hmo rfl hmo) rfl rfl hl.1 rfl (lv_room (Nat.le_of_ble_eq_true rfl)) d_law_422 ⟨Nat.le_of_ble_eq_true rfl, Nat.le_of_ble_eq_true rfl⟩) ?_
  refine lv_iload hx hb d_law_425 (lv_at hl 1 rfl) ?_
  refine zi_icmp_eq hx hb d_law_427 rfl (by omega) (by omega) (fun h427 => ?_) (fun h => absurd h (by omega))
  refine lv_iload hx hb d_law_432 (lv_at hl 1 rfl) ?_
  refine zi_if_ne hx hb d_law_434 rfl (by omega) (fun h434 => ?_) (fun h434 => absurd h434 (by omega))
  refine lv_goto hx hb d_law_449 rfl ?_
  exact zlaw_tail S hr hlk hEs hX hbl hS (by omega) (by omega) (by decide) (lv_sub hl [2, 6] rfl)

set_option maxRecDepth 100000 in
set_option maxHeartbeats 4000000 in
theorem zlaw_mark0 {p : Program} {l : Launch} {e : Env} {s : State} {m : MethodId} {below : List Frame} {meth : Method} {c : Code} {b : Nat} {xs : Nat → Int32} {E : zP} {H : Heap} {locs : List Loc} {ls : Array Slot} (htl : ∀ e : Env, l.admits e → e.platform.stackTraces = false) (S : CallFix p m c code 7 s #[Value.ref b] zw "ReplacementWriterLaw") (hr : meth.sig.returnType = ret) (hlk : meth.locks = false) (hEs : E.2.2.2 = s.heap.size) (hX : va_X b 7 xs s s.heap) (hbl : b < s.heap.size) (hE0 : zE E s s.heap) (hS : va_S (zOld E) s.heap H locs) {ad : Nat → Nat} {en : Nat → va_E} {ou : Nat} {u p1 : Bool} (hst : zSt E false 0 ad en (zS0 u p1) zC0 H) (hou : zOu E ou 0 H) (hne : ∀ i, zRo false 0 i → ad i ≠ ou) (hoo : zOld E ou) {mo tb kq mq te tq oq ho hq nl ul mk xq cq pq : Nat} {u2 p2 : Bool} {la : Int} {f9 : Nat → Int32} (hM : va_P E.1 zcl (zWM E mo tb kq mq te tq oq ho hq nl ul mk xq cq pq u2 p2 la f9) H) (hMD : va_D (zOld E) (zWM E mo tb kq mq te tq oq ho hq nl ul mk xq cq pq u2 p2 la f9)) (hMn : ∀ (k : Nat) (q : Nat × va_E), (zWM E mo tb kq mq te tq oq ho hq nl ul mk xq cq pq u2 p2 la f9)[k]? = some q → q.1 ≠ ou ∧ ∀ i, zRo false 0 i → ad i ≠ q.1) (hl : lv_has ls 7 [(4, .int (iI 1)), (3, .ref ou), (2, .ref mo), (1, .ref (ad 0)), (0, .ref b)])  : W p l e room_1 s m #[Value.ref b] below meth c H locs 1000 300000 (lw_Z below #[Value.ref b] s) (F0 m 452 ls []) := by
  have hx := S.1
  have hb := S.2.1
  have hbA : ¬ zOld E b := by unfold zOld; omega
  have hA0 : ∀ q, zOld E q → zOld E q := fun q h => h
  have hE := hE0.at hS hA0
  have hMw : ∀ (k : Nat) (q : Nat × va_E), (zWM E mo tb kq mq te tq oq ho hq nl ul mk xq cq pq u2 p2 la f9)[k]? = some q → ¬ zAw (zRo false 0) ad H.size ou q.1 := fun k q hq h => h.elim (fun h => h.elim (fun ⟨i, hi, e9⟩ => (hMn k q hq).2 i hi e9.symm) (fun h => Nat.not_le.mpr (hM k q hq).lt h)) (hMn k q hq).1
  have hAw : ∀ q, zAw (zRo false 0) ad H.size ou q → zOld E q := zAw_old hst.1 hE.2.1 hoo
  refine lv_aload_n hx hb d_law_452 rfl (lv_at hl 3 rfl) ?_
  refine lv_aload_n hx hb d_law_453 rfl (lv_at hl 1 rfl) ?_
  refine zcW (zrunSW (n := 2) (As := [.ref (ad 0), .ref ou]) (rest := []) S (w_Law_mark l E false 0 ad en (zS0 u p1) zC0 H.size ou 0 (zft0 u) (zchr0 u p1)) zw_633 zw_0 zw_631 zw_632 (by decide +kernel) rfl rfl ⟨Nat.le_of_ble_eq_true rfl, Nat.le_of_ble_eq_true rfl⟩ (zPreS hE ⟨rfl, hst, hou, hne, hoo⟩) rfl rfl hl.1 rfl (lv_room (Nat.le_of_ble_eq_true rfl)) d_law_454 ⟨Nat.le_of_ble_eq_true rfl, Nat.le_of_ble_eq_true rfl⟩) hS (fun q _ h => hAw q h) hAw (fun v H1 locs hq hz1 hk1 hS => ?_)
  obtain ⟨rfl, hou, ad', en', h00, hfr, hst'⟩ := hq
  have hM := zA_kept (wc := []) hM hk1 hMw
  have hE := hE0.at hS hA0
  refine W.widen (k := 2000) (n := 400000) (Nat.le_of_ble_eq_true rfl) (Nat.le_of_ble_eq_true rfl) ?_
  refine W.eq (g2 := F0 m 457 ls [.int (iI 0)]) rfl ?_
  refine lv_istore (lv' := [(5, .int (iI 0)), (4, .int (iI 1)), (3, .ref ou), (2, .ref mo), (1, .ref (ad 0)), (0, .ref b)]) hx hb d_law_457 hl (by decide) rfl (fun ls hl => ?_)
  refine lv_aload_n hx hb d_law_459 rfl (lv_at hl 3 rfl) ?_
  have hPc := hM.sub (ws' := [(mo, .inr (10, [.ref tb, .ref te, .ref ho, .ref xq, .int (iI 0), .int (iI 0), .int (iI 0), .int (iI (bN false)), .ref cq, .ref pq, .int (iI 0), .int (iI (-1))])), (ho, .inr (13, [.int (iI 0), .ref hq, .ref nl, .ref ul, .ref mk])), (cq, .inl (E.2.1 2, 65536, .inl (fun _ => 0)))]) [0, 7, 13] rfl
  have hDc := hMD.sub (ws' := [(mo, .inr (10, [.ref tb, .ref te, .ref ho, .ref xq, .int (iI 0), .int (iI 0), .int (iI 0), .int (iI (bN false)), .ref cq, .ref pq, .int (iI 0), .int (iI (-1))])), (ho, .inr (13, [.int (iI 0), .ref hq, .ref nl, .ref ul, .ref mk])), (cq, .inl (E.2.1 2, 65536, .inl (fun _ => 0)))]) [0, 7, 13] (by decide) rfl
  have hFc : ∀ q, va_A [(mo, .inr (10, [.ref tb, .ref te, .ref ho, .ref xq, .int (iI 0), .int (iI 0), .int (iI 0), .int (iI (bN false)), .ref cq, .ref pq, .int (iI 0), .int (iI (-1))])), (ho, .inr (13, [.int (iI 0), .ref hq, .ref nl, .ref ul, .ref mk])), (cq, .inl (E.2.1 2, 65536, .inl (fun _ => 0)))] H1.size q → zOld E q := fun q h => h.elim (fun ⟨k, e9, h9⟩ => hDc.2 k _ h9) (fun h => by have := hE.2.1; unfold zOld; omega)
  have hno : ¬ va_A [(mo, .inr (10, [.ref tb, .ref te, .ref ho, .ref xq, .int (iI 0), .int (iI 0), .int (iI 0), .int (iI (bN false)), .ref cq, .ref pq, .int (iI 0), .int (iI (-1))])), (ho, .inr (13, [.int (iI 0), .ref hq, .ref nl, .ref ul, .ref mk])), (cq, .inl (E.2.1 2, 65536, .inl (fun _ => 0)))] H1.size ou := fun h => h.elim (fun ⟨k, e9, h9⟩ => by
    have hm := zsub_mem (ws := zWM E mo tb kq mq te tq oq ho hq nl ul mk xq cq pq u2 p2 la f9) (ws' := [(mo, .inr (10, [.ref tb, .ref te, .ref ho, .ref xq, .int (iI 0), .int (iI 0), .int (iI 0), .int (iI (bN false)), .ref cq, .ref pq, .int (iI 0), .int (iI (-1))])), (ho, .inr (13, [.int (iI 0), .ref hq, .ref nl, .ref ul, .ref mk])), (cq, .inl (E.2.1 2, 65536, .inl (fun _ => 0)))]) [0, 7, 13] rfl h9
    exact (hMn _ _ hm.choose_spec).1 rfl) (fun h => Nat.not_le.mpr hou.lt h)
  refine zcW (va_runV (As := []) (rest := []) S (c_Mod_mark l E _ mo tb te ho xq cq pq hq nl ul mk (fun _ => 0)) ⟨zcwB (n := 0) S zw_1125 zw_14 zw_1122 (by decide +kernel) rfl rfl ⟨Nat.le_of_ble_eq_true rfl, Nat.le_of_ble_eq_true rfl⟩, S.2.2.2.2 _ zw_1123, S.2.2.2.2 _ zw_1124⟩ (zPreV hE (hM 0 _ rfl) rfl ⟨rfl, hPc, hDc, trivial⟩) rfl rfl hl.1 rfl (lv_room (Nat.le_of_ble_eq_true rfl)) d_law_460 ⟨by show _ ≤ (600002 : Nat); omega, by show _ ≤ (7302198 : Nat); omega⟩) hS (fun q _ h => hFc q h) hFc (fun v H2 locs hq hz2 hk2 hS => ?_)
  obtain ⟨rfl, za, zb, zc, zd, zc2, zp2, zsz, zcd, zn, zba, zrs, hmo⟩ := hq
  have hou := hou.kept (hk2 ou hou.lt hno)
  have hE := hE0.at hS hA0
  refine W.eq (g2 := F0 m 463 ls [.int (iI 0)]) rfl ?_
  refine lv_istore (lv' := [(6, .int (iI 0)), (5, .int (iI 0)), (4, .int (iI 1)), (3, .ref ou), (2, .ref mo), (1, .ref (ad 0)), (0, .ref b)]) hx hb d_law_463 hl (by decide) rfl (fun ls hl => ?_)
  refine lv_aload_n hx hb d_law_465 rfl (lv_at hl 4 rfl) ?_
  refine zcR (va_runV (As := []) (rest := []) S (c_Mod_thrown l E mo za zb zc zd zc2 zp2 zsz 0 zcd zn zba zrs) ⟨zcwB (n := 0) S zw_1047 zw_14 zw_1044 (by decide +kernel) rfl rfl ⟨Nat.le_of_ble_eq_true rfl, Nat.le_of_ble_eq_true rfl⟩, S.2.2.2.2 _ zw_1045, S.2.2.2.2 _ zw_1046⟩ (zPreV hE hmo rfl hmo) rfl rfl hl.1 rfl (lv_room (Nat.le_of_ble_eq_true rfl)) d_law_466 ⟨Nat.le_of_ble_eq_true rfl, Nat.le_of_ble_eq_true rfl⟩) ?_
  refine lv_iload hx hb d_law_469 (lv_at hl 1 rfl) ?_
  refine zi_icmp_eq hx hb d_law_471 rfl (by omega) (by omega) (fun h471 => ?_) (fun h => absurd h (by omega))
  refine lv_iload hx hb d_law_476 (lv_at hl 1 rfl) ?_
  refine zi_if_ne hx hb d_law_478 rfl (by omega) (fun h478 => absurd h478 (by omega)) (fun h478 => ?_)
  refine lv_aload_n hx hb d_law_481 rfl (lv_at hl 3 rfl) ?_
  refine zi_iconst hx hb d_law_482 ?_
  refine zlald0 hx hb hE hou d_law_483 ?_
  refine W.eq (g2 := F0 m 484 ls [.long (jL 0)]) (by cases u <;> rfl) ?_
  refine lv_iload hx hb d_law_484 (lv_at hl 0 rfl) ?_
  refine zl_i2l hx hb d_law_486 (by omega) ?_
  refine zl_if_eq hx hb d_law_487 d_law_488 rfl (by omega) (by omega) (fun h488 => ?_) (fun h488 => ?_)
  · refine lv_goto hx hb d_law_493 rfl ?_
    exact zlaw_tail S hr hlk hEs hX hbl hS (by omega) (by omega) (by decide) (lv_sub hl [2, 6] rfl)
  · refine zi_iconst hx hb d_law_491 ?_
    omega

set_option maxRecDepth 100000 in
set_option maxHeartbeats 4000000 in
theorem zlaw_write0 {p : Program} {l : Launch} {e : Env} {s : State} {m : MethodId} {below : List Frame} {meth : Method} {c : Code} {b : Nat} {xs : Nat → Int32} {E : zP} {H : Heap} {locs : List Loc} {ls : Array Slot} (htl : ∀ e : Env, l.admits e → e.platform.stackTraces = false) (S : CallFix p m c code 7 s #[Value.ref b] zw "ReplacementWriterLaw") (hr : meth.sig.returnType = ret) (hlk : meth.locks = false) (hEs : E.2.2.2 = s.heap.size) (hX : va_X b 7 xs s s.heap) (hbl : b < s.heap.size) (hE0 : zE E s s.heap) (hS : va_S (zOld E) s.heap H locs) {ad : Nat → Nat} {en : Nat → va_E} {ou : Nat} {u p1 : Bool} (hst : zSt E false 0 ad en (zS0 u p1) zC0 H) (hou : zOu E ou 0 H) (hne : ∀ i, zRo false 0 i → ad i ≠ ou) (hoo : zOld E ou) {mo tb kq mq te tq oq ho hq nl ul mk xq cq pq : Nat} {u2 p2 : Bool} {la : Int} {f9 : Nat → Int32} (hM : va_P E.1 zcl (zWM E mo tb kq mq te tq oq ho hq nl ul mk xq cq pq u2 p2 la f9) H) (hMD : va_D (zOld E) (zWM E mo tb kq mq te tq oq ho hq nl ul mk xq cq pq u2 p2 la f9)) (hMn : ∀ (k : Nat) (q : Nat × va_E), (zWM E mo tb kq mq te tq oq ho hq nl ul mk xq cq pq u2 p2 la f9)[k]? = some q → q.1 ≠ ou ∧ ∀ i, zRo false 0 i → ad i ≠ q.1) (hl : lv_has ls 7 [(4, .int (iI 1)), (3, .ref ou), (2, .ref mo), (1, .ref (ad 0)), (0, .ref b)]) (k0 : Int) (hk0 : r32 k0) (ek : iI k0 = xs 2) (hz0 : iI k0 &&& iI (-7681) = iI 0) (ov : Nat) (hov : ov < 16) (eo : iI k0 = iI ((512 * ov : Nat) : Int)) (h8 : 8 ≤ ov) : W p l e room_1 s m #[Value.ref b] below meth c H locs 1000 300000 (lw_Z below #[Value.ref b] s) (F0 m 496 ls []) := by
  have hx := S.1
  have hb := S.2.1
  have hbA : ¬ zOld E b := by unfold zOld; omega
  have hA0 : ∀ q, zOld E q → zOld E q := fun q h => h
  have hE := hE0.at hS hA0
  have hMw : ∀ (k : Nat) (q : Nat × va_E), (zWM E mo tb kq mq te tq oq ho hq nl ul mk xq cq pq u2 p2 la f9)[k]? = some q → ¬ zAw (zRo false 0) ad H.size ou q.1 := fun k q hq h => h.elim (fun h => h.elim (fun ⟨i, hi, e9⟩ => (hMn k q hq).2 i hi e9.symm) (fun h => Nat.not_le.mpr (hM k q hq).lt h)) (hMn k q hq).1
  have hAw : ∀ q, zAw (zRo false 0) ad H.size ou q → zOld E q := zAw_old hst.1 hE.2.1 hoo
  refine lv_aload_n hx hb d_law_496 rfl (lv_at hl 3 rfl) ?_
  refine lv_aload_n hx hb d_law_497 rfl (lv_at hl 4 rfl) ?_
  refine lv_iload hx hb d_law_498 (lv_at hl 0 rfl) ?_
  refine zi_iconst hx hb d_law_500 ?_
  refine zi_iadd hx hb d_law_501 ?_
  refine W.eq (g2 := F0 m 502 ls ([.int (iI 2), .ref b, .ref (ad 0)])) rfl ?_
  refine va_sld hx hb hX hbl hbA hS (iI_in (by decide) (by decide) (by decide)) d_law_502 ?_
  refine W.eq (g2 := F0 m 503 ls [.int (iI k0), .ref (ad 0)]) (by rw [ek] <;> rfl) ?_
  refine lv_aload_n hx hb d_law_503 rfl (lv_at hl 1 rfl) ?_
  refine W.eq (g2 := F0 m 504 ls [.ref ou, .int (iI ((512 * ov : Nat) : Int)), .ref (ad 0)]) (by rw [eo]) ?_
  refine zcW (zrunSW (n := 3) (As := [.ref (ad 0), .int (iI ((512 * ov : Nat) : Int)), .ref ou]) (rest := []) S (w_Law_writeP l E false 0 ad en (zS0 u p1) zC0 H.size ou 0 ov hov [] (by cases u <;> rfl) (zft0 u) h8 (by rw [zwr0]; exact ⟨by decide, by decide⟩)) zw_644 zw_0 zw_642 zw_643 (by decide +kernel) rfl rfl ⟨Nat.le_of_ble_eq_true rfl, Nat.le_of_ble_eq_true rfl⟩ (zPreS hE ⟨rfl, hst, hou, hne, hoo⟩) rfl rfl hl.1 rfl (lv_room (Nat.le_of_ble_eq_true rfl)) d_law_504 ⟨by show 1000 + (max 16 (sp_up 0) - 16) / 16 ≤ 600002; decide, by show 300000 + 2 * (max 16 (sp_up 0) - 16) ≤ 7302198; decide⟩) hS (fun q _ h => hAw q h) hAw (fun v H1 locs hq hz1 hk1 hS => ?_)
  obtain ⟨rfl, hou, ad', en', h00, hfr, hst'⟩ := hq
  have hM := zA_kept (wc := []) hM hk1 hMw
  have hE := hE0.at hS hA0
  refine W.widen (k := 2000) (n := 400000) (by show 1000 + (max 16 (sp_up 0) - 16) / 16 ≤ 2000; decide) (by show 300000 + 2 * (max 16 (sp_up 0) - 16) ≤ 400000; decide) ?_
  refine W.eq (g2 := F0 m 507 ls [.int (iI 0)]) rfl ?_
  refine lv_istore (lv' := [(5, .int (iI 0)), (4, .int (iI 1)), (3, .ref ou), (2, .ref mo), (1, .ref (ad 0)), (0, .ref b)]) hx hb d_law_507 hl (by decide) rfl (fun ls hl => ?_)
  refine lv_aload_n hx hb d_law_509 rfl (lv_at hl 3 rfl) ?_
  refine lv_aload_n hx hb d_law_510 rfl (lv_at hl 5 rfl) ?_
  refine lv_iload hx hb d_law_511 (lv_at hl 1 rfl) ?_
  refine zi_iconst hx hb d_law_513 ?_
  refine zi_iadd hx hb d_law_514 ?_
  refine W.eq (g2 := F0 m 515 ls ([.int (iI 2), .ref b, .ref mo])) rfl ?_
  refine va_sld hx hb hX hbl hbA hS (iI_in (by decide) (by decide) (by decide)) d_law_515 ?_
  refine W.eq (g2 := F0 m 516 ls [.int (iI k0), .ref mo]) (by rw [ek] <;> rfl) ?_
  have hPc := hM.sub (ws' := [(mo, .inr (10, [.ref tb, .ref te, .ref ho, .ref xq, .int (iI 0), .int (iI 0), .int (iI 0), .int (iI (bN false)), .ref cq, .ref pq, .int (iI 0), .int (iI (-1))])), (te, .inr (12, [.ref tb, .null, .int (iI (bN false)), .int (iI (bN false)), .int (iI (bN false)), .ref tq, .int (iI 0), .ref oq, .int (iI 0), .int (iI 0), .int (iI 0), .int (iI (-1)), .int (iI 0)]))]) [0, 4] rfl
  have hDc := hMD.sub (ws' := [(mo, .inr (10, [.ref tb, .ref te, .ref ho, .ref xq, .int (iI 0), .int (iI 0), .int (iI 0), .int (iI (bN false)), .ref cq, .ref pq, .int (iI 0), .int (iI (-1))])), (te, .inr (12, [.ref tb, .null, .int (iI (bN false)), .int (iI (bN false)), .int (iI (bN false)), .ref tq, .int (iI 0), .ref oq, .int (iI 0), .int (iI 0), .int (iI 0), .int (iI (-1)), .int (iI 0)]))]) [0, 4] (by decide) rfl
  have hFc : ∀ q, va_A [(mo, .inr (10, [.ref tb, .ref te, .ref ho, .ref xq, .int (iI 0), .int (iI 0), .int (iI 0), .int (iI (bN false)), .ref cq, .ref pq, .int (iI 0), .int (iI (-1))])), (te, .inr (12, [.ref tb, .null, .int (iI (bN false)), .int (iI (bN false)), .int (iI (bN false)), .ref tq, .int (iI 0), .ref oq, .int (iI 0), .int (iI 0), .int (iI 0), .int (iI (-1)), .int (iI 0)]))] H1.size q → zOld E q := fun q h => h.elim (fun ⟨k, e9, h9⟩ => hDc.2 k _ h9) (fun h => by have := hE.2.1; unfold zOld; omega)
  have hno : ¬ va_A [(mo, .inr (10, [.ref tb, .ref te, .ref ho, .ref xq, .int (iI 0), .int (iI 0), .int (iI 0), .int (iI (bN false)), .ref cq, .ref pq, .int (iI 0), .int (iI (-1))])), (te, .inr (12, [.ref tb, .null, .int (iI (bN false)), .int (iI (bN false)), .int (iI (bN false)), .ref tq, .int (iI 0), .ref oq, .int (iI 0), .int (iI 0), .int (iI 0), .int (iI (-1)), .int (iI 0)]))] H1.size ou := fun h => h.elim (fun ⟨k, e9, h9⟩ => by
    have hm := zsub_mem (ws := zWM E mo tb kq mq te tq oq ho hq nl ul mk xq cq pq u2 p2 la f9) (ws' := [(mo, .inr (10, [.ref tb, .ref te, .ref ho, .ref xq, .int (iI 0), .int (iI 0), .int (iI 0), .int (iI (bN false)), .ref cq, .ref pq, .int (iI 0), .int (iI (-1))])), (te, .inr (12, [.ref tb, .null, .int (iI (bN false)), .int (iI (bN false)), .int (iI (bN false)), .ref tq, .int (iI 0), .ref oq, .int (iI 0), .int (iI 0), .int (iI 0), .int (iI (-1)), .int (iI 0)]))]) [0, 4] rfl h9
    exact (hMn _ _ hm.choose_spec).1 rfl) (fun h => Nat.not_le.mpr hou.lt h)
  refine zcW (va_runV (As := [.int (iI k0)]) (rest := []) S (c_Mod_write l E _ mo tb te ho xq cq pq oq tq k0 0 (by rw [if_pos hz0])) ⟨zcwB (n := 1) S zw_1129 zw_14 zw_1126 (by decide +kernel) rfl rfl ⟨Nat.le_of_ble_eq_true rfl, Nat.le_of_ble_eq_true rfl⟩, S.2.2.2.2 _ zw_1127, S.2.2.2.2 _ zw_1128⟩ (zPreV hE (hM 0 _ rfl) rfl ⟨rfl, hPc, hDc, trivial⟩) rfl rfl hl.1 rfl (lv_room (Nat.le_of_ble_eq_true rfl)) d_law_516 ⟨by show _ ≤ (600002 : Nat); omega, by show _ ≤ (7302198 : Nat); omega⟩) hS (fun q _ h => hFc q h) hFc (fun v H2 locs hq hz2 hk2 hS => ?_)
  obtain ⟨rfl, za, zb, zc, zd, zc2, zp2, zsz, zcd, zn, zba, zrs, hmo⟩ := hq
  have hou := hou.kept (hk2 ou hou.lt hno)
  have hE := hE0.at hS hA0
  refine W.eq (g2 := F0 m 519 ls [.int (iI 0)]) rfl ?_
  refine lv_istore (lv' := [(6, .int (iI 0)), (5, .int (iI 0)), (4, .int (iI 1)), (3, .ref ou), (2, .ref mo), (1, .ref (ad 0)), (0, .ref b)]) hx hb d_law_519 hl (by decide) rfl (fun ls hl => ?_)
  refine lv_aload_n hx hb d_law_521 rfl (lv_at hl 4 rfl) ?_
  refine zcR (va_runV (As := []) (rest := []) S (c_Mod_thrown l E mo za zb zc zd zc2 zp2 zsz 0 zcd zn zba zrs) ⟨zcwB (n := 0) S zw_1047 zw_14 zw_1044 (by decide +kernel) rfl rfl ⟨Nat.le_of_ble_eq_true rfl, Nat.le_of_ble_eq_true rfl⟩, S.2.2.2.2 _ zw_1045, S.2.2.2.2 _ zw_1046⟩ (zPreV hE hmo rfl hmo) rfl rfl hl.1 rfl (lv_room (Nat.le_of_ble_eq_true rfl)) d_law_522 ⟨Nat.le_of_ble_eq_true rfl, Nat.le_of_ble_eq_true rfl⟩) ?_
  refine lv_iload hx hb d_law_525 (lv_at hl 1 rfl) ?_
  refine zi_icmp_eq hx hb d_law_527 rfl (by omega) (by omega) (fun h527 => ?_) (fun h => absurd h (by omega))
  refine lv_iload hx hb d_law_532 (lv_at hl 1 rfl) ?_
  refine zi_if_ne hx hb d_law_534 rfl (by omega) (fun h534 => absurd h534 (by omega)) (fun h534 => ?_)
  refine lv_aload_n hx hb d_law_537 rfl (lv_at hl 3 rfl) ?_
  refine zi_iconst hx hb d_law_538 ?_
  refine zlald0 hx hb hE hou d_law_539 ?_
  refine W.eq (g2 := F0 m 540 ls [.long (jL 0)]) (by rw [zwr0]) ?_
  refine lv_iload hx hb d_law_540 (lv_at hl 0 rfl) ?_
  refine zl_i2l hx hb d_law_542 (by omega) ?_
  refine zl_if_eq hx hb d_law_543 d_law_544 rfl (by omega) (by omega) (fun h544 => ?_) (fun h544 => ?_)
  · refine lv_goto hx hb d_law_549 rfl ?_
    exact zlaw_tail S hr hlk hEs hX hbl hS (by omega) (by omega) (by decide) (lv_sub hl [2, 6] rfl)
  · refine zi_iconst hx hb d_law_547 ?_
    omega

set_option maxRecDepth 100000 in
set_option maxHeartbeats 4000000 in
theorem zlaw_write1 {p : Program} {l : Launch} {e : Env} {s : State} {m : MethodId} {below : List Frame} {meth : Method} {c : Code} {b : Nat} {xs : Nat → Int32} {E : zP} {H : Heap} {locs : List Loc} {ls : Array Slot} (htl : ∀ e : Env, l.admits e → e.platform.stackTraces = false) (S : CallFix p m c code 7 s #[Value.ref b] zw "ReplacementWriterLaw") (hr : meth.sig.returnType = ret) (hlk : meth.locks = false) (hEs : E.2.2.2 = s.heap.size) (hX : va_X b 7 xs s s.heap) (hbl : b < s.heap.size) (hE0 : zE E s s.heap) (hS : va_S (zOld E) s.heap H locs) {ad : Nat → Nat} {en : Nat → va_E} {ou : Nat} {u p1 : Bool} (hst : zSt E false 0 ad en (zS0 u p1) zC0 H) (hou : zOu E ou 0 H) (hne : ∀ i, zRo false 0 i → ad i ≠ ou) (hoo : zOld E ou) {mo tb kq mq te tq oq ho hq nl ul mk xq cq pq : Nat} {u2 p2 : Bool} {la : Int} {f9 : Nat → Int32} (hM : va_P E.1 zcl (zWM E mo tb kq mq te tq oq ho hq nl ul mk xq cq pq u2 p2 la f9) H) (hMD : va_D (zOld E) (zWM E mo tb kq mq te tq oq ho hq nl ul mk xq cq pq u2 p2 la f9)) (hMn : ∀ (k : Nat) (q : Nat × va_E), (zWM E mo tb kq mq te tq oq ho hq nl ul mk xq cq pq u2 p2 la f9)[k]? = some q → q.1 ≠ ou ∧ ∀ i, zRo false 0 i → ad i ≠ q.1) (hl : lv_has ls 7 [(4, .int (iI 1)), (3, .ref ou), (2, .ref mo), (1, .ref (ad 0)), (0, .ref b)]) (k0 : Int) (hk0 : r32 k0) (ek : iI k0 = xs 2) (hz0 : iI k0 &&& iI (-7681) = iI 0) (ov : Nat) (hov : ov < 16) (eo : iI k0 = iI ((512 * ov : Nat) : Int)) (h8 : ov < 8) : W p l e room_1 s m #[Value.ref b] below meth c H locs 1000 300000 (lw_Z below #[Value.ref b] s) (F0 m 496 ls []) := by
  have hx := S.1
  have hb := S.2.1
  have hbA : ¬ zOld E b := by unfold zOld; omega
  have hA0 : ∀ q, zOld E q → zOld E q := fun q h => h
  have hE := hE0.at hS hA0
  have hMw : ∀ (k : Nat) (q : Nat × va_E), (zWM E mo tb kq mq te tq oq ho hq nl ul mk xq cq pq u2 p2 la f9)[k]? = some q → ¬ zAw (zRo false 0) ad H.size ou q.1 := fun k q hq h => h.elim (fun h => h.elim (fun ⟨i, hi, e9⟩ => (hMn k q hq).2 i hi e9.symm) (fun h => Nat.not_le.mpr (hM k q hq).lt h)) (hMn k q hq).1
  have hAw : ∀ q, zAw (zRo false 0) ad H.size ou q → zOld E q := zAw_old hst.1 hE.2.1 hoo
  refine lv_aload_n hx hb d_law_496 rfl (lv_at hl 3 rfl) ?_
  refine lv_aload_n hx hb d_law_497 rfl (lv_at hl 4 rfl) ?_
  refine lv_iload hx hb d_law_498 (lv_at hl 0 rfl) ?_
  refine zi_iconst hx hb d_law_500 ?_
  refine zi_iadd hx hb d_law_501 ?_
  refine W.eq (g2 := F0 m 502 ls ([.int (iI 2), .ref b, .ref (ad 0)])) rfl ?_
  refine va_sld hx hb hX hbl hbA hS (iI_in (by decide) (by decide) (by decide)) d_law_502 ?_
  refine W.eq (g2 := F0 m 503 ls [.int (iI k0), .ref (ad 0)]) (by rw [ek] <;> rfl) ?_
  refine lv_aload_n hx hb d_law_503 rfl (lv_at hl 1 rfl) ?_
  refine W.eq (g2 := F0 m 504 ls [.ref ou, .int (iI ((512 * ov : Nat) : Int)), .ref (ad 0)]) (by rw [eo]) ?_
  refine zcW (zrunSW (n := 3) (As := [.ref (ad 0), .int (iI ((512 * ov : Nat) : Int)), .ref ou]) (rest := []) S (w_Law_writeN l E false 0 ad en (zS0 u p1) zC0 H.size ou 0 ov hov [] (by cases u <;> rfl) (zft0 u) h8 (by rw [zwr0]; exact ⟨by decide, by decide⟩)) zw_644 zw_0 zw_642 zw_643 (by decide +kernel) rfl rfl ⟨Nat.le_of_ble_eq_true rfl, Nat.le_of_ble_eq_true rfl⟩ (zPreS hE ⟨rfl, hst, hou, hne, hoo⟩) rfl rfl hl.1 rfl (lv_room (Nat.le_of_ble_eq_true rfl)) d_law_504 ⟨by show 1000 + (sp_pcap 16 (sp_part (sp_md (zS0 u p1) ov) (0, fun _ => none, [], []) [] 20 0 0 ([], 0, 0)) - 16) / 16 ≤ 600002; rw [zpc0]; decide, by show 300000 + 2 * (sp_pcap 16 (sp_part (sp_md (zS0 u p1) ov) (0, fun _ => none, [], []) [] 20 0 0 ([], 0, 0)) - 16) ≤ 7302198; rw [zpc0]; decide⟩) hS (fun q _ h => hAw q h) hAw (fun v H1 locs hq hz1 hk1 hS => ?_)
  obtain ⟨rfl, hou, ad', en', h00, hfr, hst'⟩ := hq
  have hM := zA_kept (wc := []) hM hk1 hMw
  have hE := hE0.at hS hA0
  refine W.widen (k := 2000) (n := 400000) (by show 1000 + (sp_pcap 16 (sp_part (sp_md (zS0 u p1) ov) (0, fun _ => none, [], []) [] 20 0 0 ([], 0, 0)) - 16) / 16 ≤ 2000; rw [zpc0]; decide) (by show 300000 + 2 * (sp_pcap 16 (sp_part (sp_md (zS0 u p1) ov) (0, fun _ => none, [], []) [] 20 0 0 ([], 0, 0)) - 16) ≤ 400000; rw [zpc0]; decide) ?_
  refine W.eq (g2 := F0 m 507 ls [.int (iI 0)]) rfl ?_
  refine lv_istore (lv' := [(5, .int (iI 0)), (4, .int (iI 1)), (3, .ref ou), (2, .ref mo), (1, .ref (ad 0)), (0, .ref b)]) hx hb d_law_507 hl (by decide) rfl (fun ls hl => ?_)
  refine lv_aload_n hx hb d_law_509 rfl (lv_at hl 3 rfl) ?_
  refine lv_aload_n hx hb d_law_510 rfl (lv_at hl 5 rfl) ?_
  refine lv_iload hx hb d_law_511 (lv_at hl 1 rfl) ?_
  refine zi_iconst hx hb d_law_513 ?_
  refine zi_iadd hx hb d_law_514 ?_
  refine W.eq (g2 := F0 m 515 ls ([.int (iI 2), .ref b, .ref mo])) rfl ?_
  refine va_sld hx hb hX hbl hbA hS (iI_in (by decide) (by decide) (by decide)) d_law_515 ?_
  refine W.eq (g2 := F0 m 516 ls [.int (iI k0), .ref mo]) (by rw [ek] <;> rfl) ?_
  have hPc := hM.sub (ws' := [(mo, .inr (10, [.ref tb, .ref te, .ref ho, .ref xq, .int (iI 0), .int (iI 0), .int (iI 0), .int (iI (bN false)), .ref cq, .ref pq, .int (iI 0), .int (iI (-1))])), (te, .inr (12, [.ref tb, .null, .int (iI (bN false)), .int (iI (bN false)), .int (iI (bN false)), .ref tq, .int (iI 0), .ref oq, .int (iI 0), .int (iI 0), .int (iI 0), .int (iI (-1)), .int (iI 0)]))]) [0, 4] rfl
  have hDc := hMD.sub (ws' := [(mo, .inr (10, [.ref tb, .ref te, .ref ho, .ref xq, .int (iI 0), .int (iI 0), .int (iI 0), .int (iI (bN false)), .ref cq, .ref pq, .int (iI 0), .int (iI (-1))])), (te, .inr (12, [.ref tb, .null, .int (iI (bN false)), .int (iI (bN false)), .int (iI (bN false)), .ref tq, .int (iI 0), .ref oq, .int (iI 0), .int (iI 0), .int (iI 0), .int (iI (-1)), .int (iI 0)]))]) [0, 4] (by decide) rfl
  have hFc : ∀ q, va_A [(mo, .inr (10, [.ref tb, .ref te, .ref ho, .ref xq, .int (iI 0), .int (iI 0), .int (iI 0), .int (iI (bN false)), .ref cq, .ref pq, .int (iI 0), .int (iI (-1))])), (te, .inr (12, [.ref tb, .null, .int (iI (bN false)), .int (iI (bN false)), .int (iI (bN false)), .ref tq, .int (iI 0), .ref oq, .int (iI 0), .int (iI 0), .int (iI 0), .int (iI (-1)), .int (iI 0)]))] H1.size q → zOld E q := fun q h => h.elim (fun ⟨k, e9, h9⟩ => hDc.2 k _ h9) (fun h => by have := hE.2.1; unfold zOld; omega)
  have hno : ¬ va_A [(mo, .inr (10, [.ref tb, .ref te, .ref ho, .ref xq, .int (iI 0), .int (iI 0), .int (iI 0), .int (iI (bN false)), .ref cq, .ref pq, .int (iI 0), .int (iI (-1))])), (te, .inr (12, [.ref tb, .null, .int (iI (bN false)), .int (iI (bN false)), .int (iI (bN false)), .ref tq, .int (iI 0), .ref oq, .int (iI 0), .int (iI 0), .int (iI 0), .int (iI (-1)), .int (iI 0)]))] H1.size ou := fun h => h.elim (fun ⟨k, e9, h9⟩ => by
    have hm := zsub_mem (ws := zWM E mo tb kq mq te tq oq ho hq nl ul mk xq cq pq u2 p2 la f9) (ws' := [(mo, .inr (10, [.ref tb, .ref te, .ref ho, .ref xq, .int (iI 0), .int (iI 0), .int (iI 0), .int (iI (bN false)), .ref cq, .ref pq, .int (iI 0), .int (iI (-1))])), (te, .inr (12, [.ref tb, .null, .int (iI (bN false)), .int (iI (bN false)), .int (iI (bN false)), .ref tq, .int (iI 0), .ref oq, .int (iI 0), .int (iI 0), .int (iI 0), .int (iI (-1)), .int (iI 0)]))]) [0, 4] rfl h9
    exact (hMn _ _ hm.choose_spec).1 rfl) (fun h => Nat.not_le.mpr hou.lt h)
  refine zcW (va_runV (As := [.int (iI k0)]) (rest := []) S (c_Mod_write l E _ mo tb te ho xq cq pq oq tq k0 0 (by rw [if_pos hz0])) ⟨zcwB (n := 1) S zw_1129 zw_14 zw_1126 (by decide +kernel) rfl rfl ⟨Nat.le_of_ble_eq_true rfl, Nat.le_of_ble_eq_true rfl⟩, S.2.2.2.2 _ zw_1127, S.2.2.2.2 _ zw_1128⟩ (zPreV hE (hM 0 _ rfl) rfl ⟨rfl, hPc, hDc, trivial⟩) rfl rfl hl.1 rfl (lv_room (Nat.le_of_ble_eq_true rfl)) d_law_516 ⟨by show _ ≤ (600002 : Nat); omega, by show _ ≤ (7302198 : Nat); omega⟩) hS (fun q _ h => hFc q h) hFc (fun v H2 locs hq hz2 hk2 hS => ?_)
  obtain ⟨rfl, za, zb, zc, zd, zc2, zp2, zsz, zcd, zn, zba, zrs, hmo⟩ := hq
  have hou := hou.kept (hk2 ou hou.lt hno)
  have hE := hE0.at hS hA0
  refine W.eq (g2 := F0 m 519 ls [.int (iI 0)]) rfl ?_
  refine lv_istore (lv' := [(6, .int (iI 0)), (5, .int (iI 0)), (4, .int (iI 1)), (3, .ref ou), (2, .ref mo), (1, .ref (ad 0)), (0, .ref b)]) hx hb d_law_519 hl (by decide) rfl (fun ls hl => ?_)
  refine lv_aload_n hx hb d_law_521 rfl (lv_at hl 4 rfl) ?_
  refine zcR (va_runV (As := []) (rest := []) S (c_Mod_thrown l E mo za zb zc zd zc2 zp2 zsz 0 zcd zn zba zrs) ⟨zcwB (n := 0) S zw_1047 zw_14 zw_1044 (by decide +kernel) rfl rfl ⟨Nat.le_of_ble_eq_true rfl, Nat.le_of_ble_eq_true rfl⟩, S.2.2.2.2 _ zw_1045, S.2.2.2.2 _ zw_1046⟩ (zPreV hE hmo rfl hmo) rfl rfl hl.1 rfl (lv_room (Nat.le_of_ble_eq_true rfl)) d_law_522 ⟨Nat.le_of_ble_eq_true rfl, Nat.le_of_ble_eq_true rfl⟩) ?_
  refine lv_iload hx hb d_law_525 (lv_at hl 1 rfl) ?_
  refine zi_icmp_eq hx hb d_law_527 rfl (by omega) (by omega) (fun h527 => ?_) (fun h => absurd h (by omega))
  refine lv_iload hx hb d_law_532 (lv_at hl 1 rfl) ?_
  refine zi_if_ne hx hb d_law_534 rfl (by omega) (fun h534 => absurd h534 (by omega)) (fun h534 => ?_)
  refine lv_aload_n hx hb d_law_537 rfl (lv_at hl 3 rfl) ?_
  refine zi_iconst hx hb d_law_538 ?_
  refine zlald0 hx hb hE hou d_law_539 ?_
  refine W.eq (g2 := F0 m 540 ls [.long (jL 0)]) (by rw [zwr0]) ?_
  refine lv_iload hx hb d_law_540 (lv_at hl 0 rfl) ?_
  refine zl_i2l hx hb d_law_542 (by omega) ?_
  refine zl_if_eq hx hb d_law_543 d_law_544 rfl (by omega) (by omega) (fun h544 => ?_) (fun h544 => ?_)
  · refine lv_goto hx hb d_law_549 rfl ?_
    exact zlaw_tail S hr hlk hEs hX hbl hS (by omega) (by omega) (by decide) (lv_sub hl [2, 6] rfl)
  · refine zi_iconst hx hb d_law_547 ?_
    omega

set_option maxRecDepth 100000 in
set_option maxHeartbeats 4000000 in
theorem zlaw_write2 {p : Program} {l : Launch} {e : Env} {s : State} {m : MethodId} {below : List Frame} {meth : Method} {c : Code} {b : Nat} {xs : Nat → Int32} {E : zP} {H : Heap} {locs : List Loc} {ls : Array Slot} (htl : ∀ e : Env, l.admits e → e.platform.stackTraces = false) (S : CallFix p m c code 7 s #[Value.ref b] zw "ReplacementWriterLaw") (hr : meth.sig.returnType = ret) (hlk : meth.locks = false) (hEs : E.2.2.2 = s.heap.size) (hX : va_X b 7 xs s s.heap) (hbl : b < s.heap.size) (hE0 : zE E s s.heap) (hS : va_S (zOld E) s.heap H locs) {ad : Nat → Nat} {en : Nat → va_E} {ou : Nat} {u p1 : Bool} (hst : zSt E false 0 ad en (zS0 u p1) zC0 H) (hou : zOu E ou 0 H) (hne : ∀ i, zRo false 0 i → ad i ≠ ou) (hoo : zOld E ou) {mo tb kq mq te tq oq ho hq nl ul mk xq cq pq : Nat} {u2 p2 : Bool} {la : Int} {f9 : Nat → Int32} (hM : va_P E.1 zcl (zWM E mo tb kq mq te tq oq ho hq nl ul mk xq cq pq u2 p2 la f9) H) (hMD : va_D (zOld E) (zWM E mo tb kq mq te tq oq ho hq nl ul mk xq cq pq u2 p2 la f9)) (hMn : ∀ (k : Nat) (q : Nat × va_E), (zWM E mo tb kq mq te tq oq ho hq nl ul mk xq cq pq u2 p2 la f9)[k]? = some q → q.1 ≠ ou ∧ ∀ i, zRo false 0 i → ad i ≠ q.1) (hl : lv_has ls 7 [(4, .int (iI 1)), (3, .ref ou), (2, .ref mo), (1, .ref (ad 0)), (0, .ref b)]) (k0 : Int) (hk0 : r32 k0) (ek : iI k0 = xs 2) (hz0 : ¬ (iI k0 &&& iI (-7681) = iI 0)) : W p l e room_1 s m #[Value.ref b] below meth c H locs 1000 300000 (lw_Z below #[Value.ref b] s) (F0 m 496 ls []) := by
  have hx := S.1
  have hb := S.2.1
  have hbA : ¬ zOld E b := by unfold zOld; omega
  have hA0 : ∀ q, zOld E q → zOld E q := fun q h => h
  have hE := hE0.at hS hA0
  have hMw : ∀ (k : Nat) (q : Nat × va_E), (zWM E mo tb kq mq te tq oq ho hq nl ul mk xq cq pq u2 p2 la f9)[k]? = some q → ¬ zAw (zRo false 0) ad H.size ou q.1 := fun k q hq h => h.elim (fun h => h.elim (fun ⟨i, hi, e9⟩ => (hMn k q hq).2 i hi e9.symm) (fun h => Nat.not_le.mpr (hM k q hq).lt h)) (hMn k q hq).1
  have hAw : ∀ q, zAw (zRo false 0) ad H.size ou q → zOld E q := zAw_old hst.1 hE.2.1 hoo
  refine lv_aload_n hx hb d_law_496 rfl (lv_at hl 3 rfl) ?_
  refine lv_aload_n hx hb d_law_497 rfl (lv_at hl 4 rfl) ?_
  refine lv_iload hx hb d_law_498 (lv_at hl 0 rfl) ?_
  refine zi_iconst hx hb d_law_500 ?_
  refine zi_iadd hx hb d_law_501 ?_
  refine W.eq (g2 := F0 m 502 ls ([.int (iI 2), .ref b, .ref (ad 0)])) rfl ?_
  refine va_sld hx hb hX hbl hbA hS (iI_in (by decide) (by decide) (by decide)) d_law_502 ?_
  refine W.eq (g2 := F0 m 503 ls [.int (iI k0), .ref (ad 0)]) (by rw [ek] <;> rfl) ?_
  refine lv_aload_n hx hb d_law_503 rfl (lv_at hl 1 rfl) ?_
  refine zcW (zrunSW (n := 3) (As := [.ref (ad 0), .int (iI k0), .ref ou]) (rest := []) S (wx_Law_write l htl E false 0 ad en (zS0 u p1) zC0 H.size ou 0 k0 hz0) zw_644 zw_0 zw_642 zw_643 (by decide +kernel) rfl rfl ⟨Nat.le_of_ble_eq_true rfl, Nat.le_of_ble_eq_true rfl⟩ (zPreS hE ⟨rfl, hst, hou, hne, hoo⟩) rfl rfl hl.1 rfl (lv_room (Nat.le_of_ble_eq_true rfl)) d_law_504 ⟨Nat.le_of_ble_eq_true rfl, Nat.le_of_ble_eq_true rfl⟩) hS (fun q _ h => hAw q h) hAw (fun v H1 locs hq hz1 hk1 hS => ?_)
  obtain ⟨rfl, hou, ad', en', h00, hfr, hst'⟩ := hq
  have hM := zA_kept (wc := []) hM hk1 hMw
  have hE := hE0.at hS hA0
  refine W.widen (k := 2000) (n := 400000) (Nat.le_of_ble_eq_true rfl) (Nat.le_of_ble_eq_true rfl) ?_
  refine W.eq (g2 := F0 m 507 ls [.int (iI 1)]) rfl ?_
  refine lv_istore (lv' := [(5, .int (iI 1)), (4, .int (iI 1)), (3, .ref ou), (2, .ref mo), (1, .ref (ad 0)), (0, .ref b)]) hx hb d_law_507 hl (by decide) rfl (fun ls hl => ?_)
  refine lv_aload_n hx hb d_law_509 rfl (lv_at hl 3 rfl) ?_
  refine lv_aload_n hx hb d_law_510 rfl (lv_at hl 5 rfl) ?_
  refine lv_iload hx hb d_law_511 (lv_at hl 1 rfl) ?_
  refine zi_iconst hx hb d_law_513 ?_
  refine zi_iadd hx hb d_law_514 ?_
  refine W.eq (g2 := F0 m 515 ls ([.int (iI 2), .ref b, .ref mo])) rfl ?_
  refine va_sld hx hb hX hbl hbA hS (iI_in (by decide) (by decide) (by decide)) d_law_515 ?_
  refine W.eq (g2 := F0 m 516 ls [.int (iI k0), .ref mo]) (by rw [ek] <;> rfl) ?_
  have hPc := hM.sub (ws' := [(mo, .inr (10, [.ref tb, .ref te, .ref ho, .ref xq, .int (iI 0), .int (iI 0), .int (iI 0), .int (iI (bN false)), .ref cq, .ref pq, .int (iI 0), .int (iI (-1))])), (te, .inr (12, [.ref tb, .null, .int (iI (bN false)), .int (iI (bN false)), .int (iI (bN false)), .ref tq, .int (iI 0), .ref oq, .int (iI 0), .int (iI 0), .int (iI 0), .int (iI (-1)), .int (iI 0)]))]) [0, 4] rfl
  have hDc := hMD.sub (ws' := [(mo, .inr (10, [.ref tb, .ref te, .ref ho, .ref xq, .int (iI 0), .int (iI 0), .int (iI 0), .int (iI (bN false)), .ref cq, .ref pq, .int (iI 0), .int (iI (-1))])), (te, .inr (12, [.ref tb, .null, .int (iI (bN false)), .int (iI (bN false)), .int (iI (bN false)), .ref tq, .int (iI 0), .ref oq, .int (iI 0), .int (iI 0), .int (iI 0), .int (iI (-1)), .int (iI 0)]))]) [0, 4] (by decide) rfl
  have hFc : ∀ q, va_A [(mo, .inr (10, [.ref tb, .ref te, .ref ho, .ref xq, .int (iI 0), .int (iI 0), .int (iI 0), .int (iI (bN false)), .ref cq, .ref pq, .int (iI 0), .int (iI (-1))])), (te, .inr (12, [.ref tb, .null, .int (iI (bN false)), .int (iI (bN false)), .int (iI (bN false)), .ref tq, .int (iI 0), .ref oq, .int (iI 0), .int (iI 0), .int (iI 0), .int (iI (-1)), .int (iI 0)]))] H1.size q → zOld E q := fun q h => h.elim (fun ⟨k, e9, h9⟩ => hDc.2 k _ h9) (fun h => by have := hE.2.1; unfold zOld; omega)
  have hno : ¬ va_A [(mo, .inr (10, [.ref tb, .ref te, .ref ho, .ref xq, .int (iI 0), .int (iI 0), .int (iI 0), .int (iI (bN false)), .ref cq, .ref pq, .int (iI 0), .int (iI (-1))])), (te, .inr (12, [.ref tb, .null, .int (iI (bN false)), .int (iI (bN false)), .int (iI (bN false)), .ref tq, .int (iI 0), .ref oq, .int (iI 0), .int (iI 0), .int (iI 0), .int (iI (-1)), .int (iI 0)]))] H1.size ou := fun h => h.elim (fun ⟨k, e9, h9⟩ => by
    have hm := zsub_mem (ws := zWM E mo tb kq mq te tq oq ho hq nl ul mk xq cq pq u2 p2 la f9) (ws' := [(mo, .inr (10, [.ref tb, .ref te, .ref ho, .ref xq, .int (iI 0), .int (iI 0), .int (iI 0), .int (iI (bN false)), .ref cq, .ref pq, .int (iI 0), .int (iI (-1))])), (te, .inr (12, [.ref tb, .null, .int (iI (bN false)), .int (iI (bN false)), .int (iI (bN false)), .ref tq, .int (iI 0), .ref oq, .int (iI 0), .int (iI 0), .int (iI 0), .int (iI (-1)), .int (iI 0)]))]) [0, 4] rfl h9
    exact (hMn _ _ hm.choose_spec).1 rfl) (fun h => Nat.not_le.mpr hou.lt h)
  refine zcW (va_runV (As := [.int (iI k0)]) (rest := []) S (c_Mod_write l E _ mo tb te ho xq cq pq oq tq k0 1 (by rw [if_neg hz0])) ⟨zcwB (n := 1) S zw_1129 zw_14 zw_1126 (by decide +kernel) rfl rfl ⟨Nat.le_of_ble_eq_true rfl, Nat.le_of_ble_eq_true rfl⟩, S.2.2.2.2 _ zw_1127, S.2.2.2.2 _ zw_1128⟩ (zPreV hE (hM 0 _ rfl) rfl ⟨rfl, hPc, hDc, trivial⟩) rfl rfl hl.1 rfl (lv_room (Nat.le_of_ble_eq_true rfl)) d_law_516 ⟨by show _ ≤ (600002 : Nat); omega, by show _ ≤ (7302198 : Nat); omega⟩) hS (fun q _ h => hFc q h) hFc (fun v H2 locs hq hz2 hk2 hS => ?_)
  obtain ⟨rfl, za, zb, zc, zd, zc2, zp2, zsz, zcd, zn, zba, zrs, hmo⟩ := hq
  have hou := hou.kept (hk2 ou hou.lt hno)
  have hE := hE0.at hS hA0
  refine W.eq (g2 := F0 m 519 ls [.int (iI 0)]) rfl ?_
  refine lv_istore (lv' := [(6, .int (iI 0)), (5, .int (iI 1)), (4, .int (iI 1)), (3, .ref ou), (2, .ref mo), (1, .ref (ad 0)), (0, .ref b)]) hx hb d_law_519 hl (by decide) rfl (fun ls hl => ?_)
  refine lv_aload_n hx hb d_law_521 rfl (lv_at hl 4 rfl) ?_
  refine zcR (va_runV (As := []) (rest := []) S (c_Mod_thrown l E mo za zb zc zd zc2 zp2 zsz 1 zcd zn zba zrs) ⟨zcwB (n := 0) S zw_1047 zw_14 zw_1044 (by decide +kernel) rfl rfl ⟨Nat.le_of_ble_eq_true rfl, Nat.le_of_ble_eq_true rfl⟩, S.2.2.2.2 _ zw_1045, S.2.2.2.2 _ zw_1046⟩ (zPreV hE hmo rfl hmo) rfl rfl hl.1 rfl (lv_room (Nat.le_of_ble_eq_true rfl)) d_law_522 ⟨Nat.le_of_ble_eq_true rfl, Nat.le_of_ble_eq_true rfl⟩) ?_
  refine lv_iload hx hb d_law_525 (lv_at hl 1 rfl) ?_
  refine zi_icmp_eq hx hb d_law_527 rfl (by omega) (by omega) (fun h527 => ?_) (fun h => absurd h (by omega))
  refine lv_iload hx hb d_law_532 (lv_at hl 1 rfl) ?_
  refine zi_if_ne hx hb d_law_534 rfl (by omega) (fun h534 => ?_) (fun h534 => absurd h534 (by omega))
  refine lv_goto hx hb d_law_549 rfl ?_
  exact zlaw_tail S hr hlk hEs hX hbl hS (by omega) (by omega) (by decide) (lv_sub hl [2, 6] rfl)

set_option maxRecDepth 100000 in
set_option maxHeartbeats 4000000 in
theorem zlaw_result0 {p : Program} {l : Launch} {e : Env} {s : State} {m : MethodId} {below : List Frame} {meth : Method} {c : Code} {b : Nat} {xs : Nat → Int32} {E : zP} {H : Heap} {locs : List Loc} {ls : Array Slot} (htl : ∀ e : Env, l.admits e → e.platform.stackTraces = false) (S : CallFix p m c code 7 s #[Value.ref b] zw "ReplacementWriterLaw") (hr : meth.sig.returnType = ret) (hlk : meth.locks = false) (hEs : E.2.2.2 = s.heap.size) (hX : va_X b 7 xs s s.heap) (hbl : b < s.heap.size) (hE0 : zE E s s.heap) (hS : va_S (zOld E) s.heap H locs) {ad : Nat → Nat} {en : Nat → va_E} {ou : Nat} {u p1 : Bool} (hst : zSt E false 0 ad en (zS0 u p1) zC0 H) (hou : zOu E ou 0 H) (hne : ∀ i, zRo false 0 i → ad i ≠ ou) (hoo : zOld E ou) {mo tb kq mq te tq oq ho hq nl ul mk xq cq pq : Nat} {u2 p2 : Bool} {la : Int} {f9 : Nat → Int32} (hM : va_P E.1 zcl (zWM E mo tb kq mq te tq oq ho hq nl ul mk xq cq pq u2 p2 la f9) H) (hMD : va_D (zOld E) (zWM E mo tb kq mq te tq oq ho hq nl ul mk xq cq pq u2 p2 la f9)) (hMn : ∀ (k : Nat) (q : Nat × va_E), (zWM E mo tb kq mq te tq oq ho hq nl ul mk xq cq pq u2 p2 la f9)[k]? = some q → q.1 ≠ ou ∧ ∀ i, zRo false 0 i → ad i ≠ q.1) (hl : lv_has ls 7 [(4, .int (iI 1)), (3, .ref ou), (2, .ref mo), (1, .ref (ad 0)), (0, .ref b)]) (k0 : Int) (hk0 : r32 k0) (ek : iI k0 = xs 2)  : W p l e room_1 s m #[Value.ref b] below meth c H locs 1000 300000 (lw_Z below #[Value.ref b] s) (F0 m 552 ls []) := by
  have hx := S.1
  have hb := S.2.1
  have hbA : ¬ zOld E b := by unfold zOld; omega
  have hA0 : ∀ q, zOld E q → zOld E q := fun q h => h
  have hE := hE0.at hS hA0
  have hMw : ∀ (k : Nat) (q : Nat × va_E), (zWM E mo tb kq mq te tq oq ho hq nl ul mk xq cq pq u2 p2 la f9)[k]? = some q → ¬ zAw (zRo false 0) ad H.size ou q.1 := fun k q hq h => h.elim (fun h => h.elim (fun ⟨i, hi, e9⟩ => (hMn k q hq).2 i hi e9.symm) (fun h => Nat.not_le.mpr (hM k q hq).lt h)) (hMn k q hq).1
  have hAw : ∀ q, zAw (zRo false 0) ad H.size ou q → zOld E q := zAw_old hst.1 hE.2.1 hoo
  refine lv_aload_n hx hb d_law_552 rfl (lv_at hl 3 rfl) ?_
  refine lv_aload_n hx hb d_law_553 rfl (lv_at hl 4 rfl) ?_
  refine lv_iload hx hb d_law_554 (lv_at hl 0 rfl) ?_
  refine zi_iconst hx hb d_law_556 ?_
  refine zi_iadd hx hb d_law_557 ?_
  refine W.eq (g2 := F0 m 558 ls ([.int (iI 2), .ref b, .ref (ad 0)])) rfl ?_
  refine va_sld hx hb hX hbl hbA hS (iI_in (by decide) (by decide) (by decide)) d_law_558 ?_
  refine W.eq (g2 := F0 m 559 ls [.int (iI k0), .ref (ad 0)]) (by rw [ek] <;> rfl) ?_
  refine lv_aload_n hx hb d_law_559 rfl (lv_at hl 1 rfl) ?_
  refine zcW (zrunSW (n := 3) (As := [.ref (ad 0), .int (iI k0), .ref ou]) (rest := []) S (wx_Law_result l htl E false 0 ad en (zS0 u p1) zC0 H.size ou 0 k0 hk0 (by rcases Int.lt_or_le k0 0 with h | h; exact Or.inl h; exact Or.inr h)) zw_835 zw_0 zw_833 zw_834 (by decide +kernel) rfl rfl ⟨Nat.le_of_ble_eq_true rfl, Nat.le_of_ble_eq_true rfl⟩ (zPreS hE ⟨rfl, hst, hou, hne, hoo⟩) rfl rfl hl.1 rfl (lv_room (Nat.le_of_ble_eq_true rfl)) d_law_560 ⟨Nat.le_of_ble_eq_true rfl, Nat.le_of_ble_eq_true rfl⟩) hS (fun q _ h => hAw q h) hAw (fun v H1 locs hq hz1 hk1 hS => ?_)
  obtain ⟨rfl, hou, ad', en', h00, hfr, hst'⟩ := hq
  have hM := zA_kept (wc := []) hM hk1 hMw
  have hE := hE0.at hS hA0
  refine W.widen (k := 2000) (n := 400000) (Nat.le_of_ble_eq_true rfl) (Nat.le_of_ble_eq_true rfl) ?_
  refine W.eq (g2 := F0 m 563 ls [.int (iI 1)]) rfl ?_
  refine lv_istore (lv' := [(5, .int (iI 1)), (4, .int (iI 1)), (3, .ref ou), (2, .ref mo), (1, .ref (ad 0)), (0, .ref b)]) hx hb d_law_563 hl (by decide) rfl (fun ls hl => ?_)
  refine lv_aload_n hx hb d_law_565 rfl (lv_at hl 3 rfl) ?_
  refine lv_aload_n hx hb d_law_566 rfl (lv_at hl 5 rfl) ?_
  refine lv_iload hx hb d_law_567 (lv_at hl 1 rfl) ?_
  refine zi_iconst hx hb d_law_569 ?_
  refine zi_iadd hx hb d_law_570 ?_
  refine W.eq (g2 := F0 m 571 ls ([.int (iI 2), .ref b, .ref mo])) rfl ?_
  refine va_sld hx hb hX hbl hbA hS (iI_in (by decide) (by decide) (by decide)) d_law_571 ?_
  refine W.eq (g2 := F0 m 572 ls [.int (iI k0), .ref mo]) (by rw [ek] <;> rfl) ?_
  have hPc := hM.sub (ws' := [(mo, .inr (10, [.ref tb, .ref te, .ref ho, .ref xq, .int (iI 0), .int (iI 0), .int (iI 0), .int (iI (bN false)), .ref cq, .ref pq, .int (iI 0), .int (iI (-1))])), (te, .inr (12, [.ref tb, .null, .int (iI (bN false)), .int (iI (bN false)), .int (iI (bN false)), .ref tq, .int (iI 0), .ref oq, .int (iI 0), .int (iI 0), .int (iI 0), .int (iI (-1)), .int (iI 0)]))]) [0, 4] rfl
  have hDc := hMD.sub (ws' := [(mo, .inr (10, [.ref tb, .ref te, .ref ho, .ref xq, .int (iI 0), .int (iI 0), .int (iI 0), .int (iI (bN false)), .ref cq, .ref pq, .int (iI 0), .int (iI (-1))])), (te, .inr (12, [.ref tb, .null, .int (iI (bN false)), .int (iI (bN false)), .int (iI (bN false)), .ref tq, .int (iI 0), .ref oq, .int (iI 0), .int (iI 0), .int (iI 0), .int (iI (-1)), .int (iI 0)]))]) [0, 4] (by decide) rfl
  have hFc : ∀ q, va_A [(mo, .inr (10, [.ref tb, .ref te, .ref ho, .ref xq, .int (iI 0), .int (iI 0), .int (iI 0), .int (iI (bN false)), .ref cq, .ref pq, .int (iI 0), .int (iI (-1))])), (te, .inr (12, [.ref tb, .null, .int (iI (bN false)), .int (iI (bN false)), .int (iI (bN false)), .ref tq, .int (iI 0), .ref oq, .int (iI 0), .int (iI 0), .int (iI 0), .int (iI (-1)), .int (iI 0)]))] H1.size q → zOld E q := fun q h => h.elim (fun ⟨k, e9, h9⟩ => hDc.2 k _ h9) (fun h => by have := hE.2.1; unfold zOld; omega)
  have hno : ¬ va_A [(mo, .inr (10, [.ref tb, .ref te, .ref ho, .ref xq, .int (iI 0), .int (iI 0), .int (iI 0), .int (iI (bN false)), .ref cq, .ref pq, .int (iI 0), .int (iI (-1))])), (te, .inr (12, [.ref tb, .null, .int (iI (bN false)), .int (iI (bN false)), .int (iI (bN false)), .ref tq, .int (iI 0), .ref oq, .int (iI 0), .int (iI 0), .int (iI 0), .int (iI (-1)), .int (iI 0)]))] H1.size ou := fun h => h.elim (fun ⟨k, e9, h9⟩ => by
    have hm := zsub_mem (ws := zWM E mo tb kq mq te tq oq ho hq nl ul mk xq cq pq u2 p2 la f9) (ws' := [(mo, .inr (10, [.ref tb, .ref te, .ref ho, .ref xq, .int (iI 0), .int (iI 0), .int (iI 0), .int (iI (bN false)), .ref cq, .ref pq, .int (iI 0), .int (iI (-1))])), (te, .inr (12, [.ref tb, .null, .int (iI (bN false)), .int (iI (bN false)), .int (iI (bN false)), .ref tq, .int (iI 0), .ref oq, .int (iI 0), .int (iI 0), .int (iI 0), .int (iI (-1)), .int (iI 0)]))]) [0, 4] rfl h9
    exact (hMn _ _ hm.choose_spec).1 rfl) (fun h => Nat.not_le.mpr hou.lt h)
  refine zcW (va_runV (As := [.int (iI k0)]) (rest := []) S (c_Mod_result l E _ mo tb te ho xq cq pq oq tq k0 hk0) ⟨zcwB (n := 1) S zw_1383 zw_14 zw_1380 (by decide +kernel) rfl rfl ⟨Nat.le_of_ble_eq_true rfl, Nat.le_of_ble_eq_true rfl⟩, S.2.2.2.2 _ zw_1381, S.2.2.2.2 _ zw_1382⟩ (zPreV hE (hM 0 _ rfl) rfl ⟨rfl, hPc, hDc, trivial⟩) rfl rfl hl.1 rfl (lv_room (Nat.le_of_ble_eq_true rfl)) d_law_572 ⟨by show _ ≤ (600002 : Nat); omega, by show _ ≤ (7302198 : Nat); omega⟩) hS (fun q _ h => hFc q h) hFc (fun v H2 locs hq hz2 hk2 hS => ?_)
  obtain ⟨rfl, za, zb, zc, zd, zc2, zp2, zsz, zcd, zn, zba, zrs, hmo⟩ := hq
  have hou := hou.kept (hk2 ou hou.lt hno)
  have hE := hE0.at hS hA0
  refine W.eq (g2 := F0 m 575 ls [.int (iI 0)]) rfl ?_
  refine lv_istore (lv' := [(6, .int (iI 0)), (5, .int (iI 1)), (4, .int (iI 1)), (3, .ref ou), (2, .ref mo), (1, .ref (ad 0)), (0, .ref b)]) hx hb d_law_575 hl (by decide) rfl (fun ls hl => ?_)
  refine lv_aload_n hx hb d_law_577 rfl (lv_at hl 4 rfl) ?_
  refine zcR (va_runV (As := []) (rest := []) S (c_Mod_thrown l E mo za zb zc zd zc2 zp2 zsz 1 zcd zn zba zrs) ⟨zcwB (n := 0) S zw_1047 zw_14 zw_1044 (by decide +kernel) rfl rfl ⟨Nat.le_of_ble_eq_true rfl, Nat.le_of_ble_eq_true rfl⟩, S.2.2.2.2 _ zw_1045, S.2.2.2.2 _ zw_1046⟩ (zPreV hE hmo rfl hmo) rfl rfl hl.1 rfl (lv_room (Nat.le_of_ble_eq_true rfl)) d_law_578 ⟨Nat.le_of_ble_eq_true rfl, Nat.le_of_ble_eq_true rfl⟩) ?_
  refine lv_iload hx hb d_law_581 (lv_at hl 1 rfl) ?_
  refine zi_icmp_eq hx hb d_law_583 rfl (by omega) (by omega) (fun h583 => ?_) (fun h => absurd h (by omega))
  refine lv_iload hx hb d_law_588 (lv_at hl 1 rfl) ?_
  refine zi_if_ne hx hb d_law_590 rfl (by omega) (fun h590 => ?_) (fun h590 => absurd h590 (by omega))
  refine lv_goto hx hb d_law_605 rfl ?_
  exact zlaw_tail S hr hlk hEs hX hbl hS (by omega) (by omega) (by decide) (lv_sub hl [2, 6] rfl)

set_option maxRecDepth 100000 in
set_option maxHeartbeats 4000000 in
theorem zlaw_fault0 {p : Program} {l : Launch} {e : Env} {s : State} {m : MethodId} {below : List Frame} {meth : Method} {c : Code} {b : Nat} {xs : Nat → Int32} {E : zP} {H : Heap} {locs : List Loc} {ls : Array Slot} (htl : ∀ e : Env, l.admits e → e.platform.stackTraces = false) (S : CallFix p m c code 7 s #[Value.ref b] zw "ReplacementWriterLaw") (hr : meth.sig.returnType = ret) (hlk : meth.locks = false) (hEs : E.2.2.2 = s.heap.size) (hX : va_X b 7 xs s s.heap) (hbl : b < s.heap.size) (hE0 : zE E s s.heap) (hS : va_S (zOld E) s.heap H locs) {ad : Nat → Nat} {en : Nat → va_E} {ou : Nat} {u p1 : Bool} (hst : zSt E false 0 ad en (zS0 u p1) zC0 H) (hou : zOu E ou 0 H) (hne : ∀ i, zRo false 0 i → ad i ≠ ou) (hoo : zOld E ou) {mo tb kq mq te tq oq ho hq nl ul mk xq cq pq : Nat} {u2 p2 : Bool} {la : Int} {f9 : Nat → Int32} (hM : va_P E.1 zcl (zWM E mo tb kq mq te tq oq ho hq nl ul mk xq cq pq u2 p2 la f9) H) (hMD : va_D (zOld E) (zWM E mo tb kq mq te tq oq ho hq nl ul mk xq cq pq u2 p2 la f9)) (hMn : ∀ (k : Nat) (q : Nat × va_E), (zWM E mo tb kq mq te tq oq ho hq nl ul mk xq cq pq u2 p2 la f9)[k]? = some q → q.1 ≠ ou ∧ ∀ i, zRo false 0 i → ad i ≠ q.1) (hl : lv_has ls 7 [(4, .int (iI 1)), (3, .ref ou), (2, .ref mo), (1, .ref (ad 0)), (0, .ref b)]) (k0 : Int) (hk0 : r32 k0) (ek : iI k0 = xs 2) (hz0 : k0 = 0) : W p l e room_1 s m #[Value.ref b] below meth c H locs 1000 300000 (lw_Z below #[Value.ref b] s) (F0 m 608 ls []) := by
  have hx := S.1
  have hb := S.2.1
  have hbA : ¬ zOld E b := by unfold zOld; omega
  have hA0 : ∀ q, zOld E q → zOld E q := fun q h => h
  have hE := hE0.at hS hA0
  have hMw : ∀ (k : Nat) (q : Nat × va_E), (zWM E mo tb kq mq te tq oq ho hq nl ul mk xq cq pq u2 p2 la f9)[k]? = some q → ¬ zAw (zRo false 0) ad H.size ou q.1 := fun k q hq h => h.elim (fun h => h.elim (fun ⟨i, hi, e9⟩ => (hMn k q hq).2 i hi e9.symm) (fun h => Nat.not_le.mpr (hM k q hq).lt h)) (hMn k q hq).1
  have hAw : ∀ q, zAw (zRo false 0) ad H.size ou q → zOld E q := zAw_old hst.1 hE.2.1 hoo
  refine lv_aload_n hx hb d_law_608 rfl (lv_at hl 3 rfl) ?_
  refine lv_aload_n hx hb d_law_609 rfl (lv_at hl 4 rfl) ?_
  refine lv_iload hx hb d_law_610 (lv_at hl 0 rfl) ?_
  refine zi_iconst hx hb d_law_612 ?_
  refine zi_iadd hx hb d_law_613 ?_
  refine W.eq (g2 := F0 m 614 ls ([.int (iI 2), .ref b, .ref (ad 0)])) rfl ?_
  refine va_sld hx hb hX hbl hbA hS (iI_in (by decide) (by decide) (by decide)) d_law_614 ?_
  refine W.eq (g2 := F0 m 615 ls [.int (iI k0), .ref (ad 0)]) (by rw [ek] <;> rfl) ?_
  refine lv_aload_n hx hb d_law_615 rfl (lv_at hl 1 rfl) ?_
  refine W.eq (g2 := F0 m 616 ls [.ref ou, .int (iI 0), .ref (ad 0)]) (by rw [hz0]) ?_
  refine zcW (zrunSW (n := 3) (As := [.ref (ad 0), .int (iI 0), .ref ou]) (rest := []) S (w_Law_fault l E false 0 ad en (zS0 u p1) zC0 H.size ou 0 0 (Or.inl rfl) (zflt0 u p1)) zw_859 zw_0 zw_857 zw_858 (by decide +kernel) rfl rfl ⟨Nat.le_of_ble_eq_true rfl, Nat.le_of_ble_eq_true rfl⟩ (zPreS hE ⟨rfl, hst, hou, hne, hoo⟩) rfl rfl hl.1 rfl (lv_room (Nat.le_of_ble_eq_true rfl)) d_law_616 ⟨Nat.le_of_ble_eq_true rfl, Nat.le_of_ble_eq_true rfl⟩) hS (fun q _ h => hAw q h) hAw (fun v H1 locs hq hz1 hk1 hS => ?_)
  obtain ⟨rfl, hou, ad', en', h00, hfr, hst'⟩ := hq
  have hM := zA_kept (wc := []) hM hk1 hMw
  have hE := hE0.at hS hA0
  refine W.widen (k := 2000) (n := 400000) (Nat.le_of_ble_eq_true rfl) (Nat.le_of_ble_eq_true rfl) ?_
  refine W.eq (g2 := F0 m 619 ls [.int (iI 0)]) rfl ?_
  refine lv_istore (lv' := [(5, .int (iI 0)), (4, .int (iI 1)), (3, .ref ou), (2, .ref mo), (1, .ref (ad 0)), (0, .ref b)]) hx hb d_law_619 hl (by decide) rfl (fun ls hl => ?_)
  refine lv_aload_n hx hb d_law_621 rfl (lv_at hl 3 rfl) ?_
  refine lv_aload_n hx hb d_law_622 rfl (lv_at hl 5 rfl) ?_
  refine lv_iload hx hb d_law_623 (lv_at hl 1 rfl) ?_
  refine zi_iconst hx hb d_law_625 ?_
  refine zi_iadd hx hb d_law_626 ?_
  refine W.eq (g2 := F0 m 627 ls ([.int (iI 2), .ref b, .ref mo])) rfl ?_
  refine va_sld hx hb hX hbl hbA hS (iI_in (by decide) (by decide) (by decide)) d_law_627 ?_
  refine W.eq (g2 := F0 m 628 ls [.int (iI k0), .ref mo]) (by rw [ek] <;> rfl) ?_
  have hPc := hM.sub (ws' := [(mo, .inr (10, [.ref tb, .ref te, .ref ho, .ref xq, .int (iI 0), .int (iI 0), .int (iI 0), .int (iI (bN false)), .ref cq, .ref pq, .int (iI 0), .int (iI (-1))]))]) [0] rfl
  have hDc := hMD.sub (ws' := [(mo, .inr (10, [.ref tb, .ref te, .ref ho, .ref xq, .int (iI 0), .int (iI 0), .int (iI 0), .int (iI (bN false)), .ref cq, .ref pq, .int (iI 0), .int (iI (-1))]))]) [0] (by decide) rfl
  have hFc : ∀ q, va_A [(mo, .inr (10, [.ref tb, .ref te, .ref ho, .ref xq, .int (iI 0), .int (iI 0), .int (iI 0), .int (iI (bN false)), .ref cq, .ref pq, .int (iI 0), .int (iI (-1))]))] H1.size q → zOld E q := fun q h => h.elim (fun ⟨k, e9, h9⟩ => hDc.2 k _ h9) (fun h => by have := hE.2.1; unfold zOld; omega)
  have hno : ¬ va_A [(mo, .inr (10, [.ref tb, .ref te, .ref ho, .ref xq, .int (iI 0), .int (iI 0), .int (iI 0), .int (iI (bN false)), .ref cq, .ref pq, .int (iI 0), .int (iI (-1))]))] H1.size ou := fun h => h.elim (fun ⟨k, e9, h9⟩ => by
    have hm := zsub_mem (ws := zWM E mo tb kq mq te tq oq ho hq nl ul mk xq cq pq u2 p2 la f9) (ws' := [(mo, .inr (10, [.ref tb, .ref te, .ref ho, .ref xq, .int (iI 0), .int (iI 0), .int (iI 0), .int (iI (bN false)), .ref cq, .ref pq, .int (iI 0), .int (iI (-1))]))]) [0] rfl h9
    exact (hMn _ _ hm.choose_spec).1 rfl) (fun h => Nat.not_le.mpr hou.lt h)
  refine zcW (va_runV (As := [.int (iI k0)]) (rest := []) S (c_Mod_fault l E _ mo tb te ho xq cq pq k0 0 0 hk0 (by first | exact (if_pos (by omega)).symm | exact (if_neg (by omega)).symm) (by first | exact (if_pos (by omega)).symm | exact (if_neg (by omega)).symm)) ⟨zcwB (n := 1) S zw_1387 zw_14 zw_1384 (by decide +kernel) rfl rfl ⟨Nat.le_of_ble_eq_true rfl, Nat.le_of_ble_eq_true rfl⟩, S.2.2.2.2 _ zw_1385, S.2.2.2.2 _ zw_1386⟩ (zPreV hE (hM 0 _ rfl) rfl ⟨rfl, hPc, hDc, trivial⟩) rfl rfl hl.1 rfl (lv_room (Nat.le_of_ble_eq_true rfl)) d_law_628 ⟨by show _ ≤ (600002 : Nat); omega, by show _ ≤ (7302198 : Nat); omega⟩) hS (fun q _ h => hFc q h) hFc (fun v H2 locs hq hz2 hk2 hS => ?_)
  obtain ⟨rfl, za, zb, zc, zd, zc2, zp2, zsz, zcd, zn, zba, zrs, hmo⟩ := hq
  have hou := hou.kept (hk2 ou hou.lt hno)
  have hE := hE0.at hS hA0
  refine W.eq (g2 := F0 m 631 ls [.int (iI 0)]) rfl ?_
  refine lv_istore (lv' := [(6, .int (iI 0)), (5, .int (iI 0)), (4, .int (iI 1)), (3, .ref ou), (2, .ref mo), (1, .ref (ad 0)), (0, .ref b)]) hx hb d_law_631 hl (by decide) rfl (fun ls hl => ?_)
  refine lv_aload_n hx hb d_law_633 rfl (lv_at hl 4 rfl) ?_
  refine zcR (va_runV (As := []) (rest := []) S (c_Mod_thrown l E mo za zb zc zd zc2 zp2 zsz 0 zcd zn zba zrs) ⟨zcwB (n := 0) S zw_1047 zw_14 zw_1044 (by decide +kernel) rfl rfl ⟨Nat.le_of_ble_eq_true rfl, Nat.le_of_ble_eq_true rfl⟩, S.2.2.2.2 _ zw_1045, S.2.2.2.2 _ zw_1046⟩ (zPreV hE hmo rfl hmo) rfl rfl hl.1 rfl (lv_room (Nat.le_of_ble_eq_true rfl)) d_law_634 ⟨Nat.le_of_ble_eq_true rfl, Nat.le_of_ble_eq_true rfl⟩) ?_
  refine lv_iload hx hb d_law_637 (lv_at hl 1 rfl) ?_
  refine zi_icmp_eq hx hb d_law_639 rfl (by omega) (by omega) (fun h639 => ?_) (fun h => absurd h (by omega))
  refine lv_iload hx hb d_law_644 (lv_at hl 1 rfl) ?_
  refine zi_if_ne hx hb d_law_646 rfl (by omega) (fun h646 => absurd h646 (by omega)) (fun h646 => ?_)
  refine lv_aload_n hx hb d_law_649 rfl (lv_at hl 3 rfl) ?_
  refine zi_iconst hx hb d_law_650 ?_
  refine zlald0 hx hb hE hou d_law_651 ?_
  refine W.eq (g2 := F0 m 652 ls [.long (jL 0)]) (rfl) ?_
  refine lv_iload hx hb d_law_652 (lv_at hl 0 rfl) ?_
  refine zl_i2l hx hb d_law_654 (by omega) ?_
  refine zl_if_eq hx hb d_law_655 d_law_656 rfl (by omega) (by omega) (fun h656 => ?_) (fun h656 => ?_)
  · refine lv_goto hx hb d_law_661 rfl ?_
    exact zlaw_tail S hr hlk hEs hX hbl hS (by omega) (by omega) (by decide) (lv_sub hl [2, 6] rfl)
  · refine zi_iconst hx hb d_law_659 ?_
    omega

set_option maxRecDepth 100000 in
set_option maxHeartbeats 4000000 in
theorem zlaw_fault1 {p : Program} {l : Launch} {e : Env} {s : State} {m : MethodId} {below : List Frame} {meth : Method} {c : Code} {b : Nat} {xs : Nat → Int32} {E : zP} {H : Heap} {locs : List Loc} {ls : Array Slot} (htl : ∀ e : Env, l.admits e → e.platform.stackTraces = false) (S : CallFix p m c code 7 s #[Value.ref b] zw "ReplacementWriterLaw") (hr : meth.sig.returnType = ret) (hlk : meth.locks = false) (hEs : E.2.2.2 = s.heap.size) (hX : va_X b 7 xs s s.heap) (hbl : b < s.heap.size) (hE0 : zE E s s.heap) (hS : va_S (zOld E) s.heap H locs) {ad : Nat → Nat} {en : Nat → va_E} {ou : Nat} {u p1 : Bool} (hst : zSt E false 0 ad en (zS0 u p1) zC0 H) (hou : zOu E ou 0 H) (hne : ∀ i, zRo false 0 i → ad i ≠ ou) (hoo : zOld E ou) {mo tb kq mq te tq oq ho hq nl ul mk xq cq pq : Nat} {u2 p2 : Bool} {la : Int} {f9 : Nat → Int32} (hM : va_P E.1 zcl (zWM E mo tb kq mq te tq oq ho hq nl ul mk xq cq pq u2 p2 la f9) H) (hMD : va_D (zOld E) (zWM E mo tb kq mq te tq oq ho hq nl ul mk xq cq pq u2 p2 la f9)) (hMn : ∀ (k : Nat) (q : Nat × va_E), (zWM E mo tb kq mq te tq oq ho hq nl ul mk xq cq pq u2 p2 la f9)[k]? = some q → q.1 ≠ ou ∧ ∀ i, zRo false 0 i → ad i ≠ q.1) (hl : lv_has ls 7 [(4, .int (iI 1)), (3, .ref ou), (2, .ref mo), (1, .ref (ad 0)), (0, .ref b)]) (k0 : Int) (hk0 : r32 k0) (ek : iI k0 = xs 2) (hz0 : k0 = 1) : W p l e room_1 s m #[Value.ref b] below meth c H locs 1000 300000 (lw_Z below #[Value.ref b] s) (F0 m 608 ls []) := by
  have hx := S.1
  have hb := S.2.1
  have hbA : ¬ zOld E b := by unfold zOld; omega
  have hA0 : ∀ q, zOld E q → zOld E q := fun q h => h
  have hE := hE0.at hS hA0
  have hMw : ∀ (k : Nat) (q : Nat × va_E), (zWM E mo tb kq mq te tq oq ho hq nl ul mk xq cq pq u2 p2 la f9)[k]? = some q → ¬ zAw (zRo false 0) ad H.size ou q.1 := fun k q hq h => h.elim (fun h => h.elim (fun ⟨i, hi, e9⟩ => (hMn k q hq).2 i hi e9.symm) (fun h => Nat.not_le.mpr (hM k q hq).lt h)) (hMn k q hq).1
  have hAw : ∀ q, zAw (zRo false 0) ad H.size ou q → zOld E q := zAw_old hst.1 hE.2.1 hoo
  refine lv_aload_n hx hb d_law_608 rfl (lv_at hl 3 rfl) ?_
  refine lv_aload_n hx hb d_law_609 rfl (lv_at hl 4 rfl) ?_
  refine lv_iload hx hb d_law_610 (lv_at hl 0 rfl) ?_
  refine zi_iconst hx hb d_law_612 ?_
  refine zi_iadd hx hb d_law_613 ?_
  refine W.eq (g2 := F0 m 614 ls ([.int (iI 2), .ref b, .ref (ad 0)])) rfl ?_
  refine va_sld hx hb hX hbl hbA hS (iI_in (by decide) (by decide) (by decide)) d_law_614 ?_
  refine W.eq (g2 := F0 m 615 ls [.int (iI k0), .ref (ad 0)]) (by rw [ek] <;> rfl) ?_
  refine lv_aload_n hx hb d_law_615 rfl (lv_at hl 1 rfl) ?_
  refine W.eq (g2 := F0 m 616 ls [.ref ou, .int (iI 1), .ref (ad 0)]) (by rw [hz0]) ?_
  refine zcW (zrunSW (n := 3) (As := [.ref (ad 0), .int (iI 1), .ref ou]) (rest := []) S (w_Law_fault l E false 0 ad en (zS0 u p1) zC0 H.size ou 0 1 (Or.inr rfl) (zflt1 u p1)) zw_859 zw_0 zw_857 zw_858 (by decide +kernel) rfl rfl ⟨Nat.le_of_ble_eq_true rfl, Nat.le_of_ble_eq_true rfl⟩ (zPreS hE ⟨rfl, hst, hou, hne, hoo⟩) rfl rfl hl.1 rfl (lv_room (Nat.le_of_ble_eq_true rfl)) d_law_616 ⟨Nat.le_of_ble_eq_true rfl, Nat.le_of_ble_eq_true rfl⟩) hS (fun q _ h => hAw q h) hAw (fun v H1 locs hq hz1 hk1 hS => ?_)
  obtain ⟨rfl, hou, ad', en', h00, hfr, hst'⟩ := hq
  have hM := zA_kept (wc := []) hM hk1 hMw
  have hE := hE0.at hS hA0
  refine W.widen (k := 2000) (n := 400000) (Nat.le_of_ble_eq_true rfl) (Nat.le_of_ble_eq_true rfl) ?_
  refine W.eq (g2 := F0 m 619 ls [.int (iI 0)]) rfl ?_
  refine lv_istore (lv' := [(5, .int (iI 0)), (4, .int (iI 1)), (3, .ref ou), (2, .ref mo), (1, .ref (ad 0)), (0, .ref b)]) hx hb d_law_619 hl (by decide) rfl (fun ls hl => ?_)
  refine lv_aload_n hx hb d_law_621 rfl (lv_at hl 3 rfl) ?_
  refine lv_aload_n hx hb d_law_622 rfl (lv_at hl 5 rfl) ?_
  refine lv_iload hx hb d_law_623 (lv_at hl 1 rfl) ?_
  refine zi_iconst hx hb d_law_625 ?_
  refine zi_iadd hx hb d_law_626 ?_
  refine W.eq (g2 := F0 m 627 ls ([.int (iI 2), .ref b, .ref mo])) rfl ?_
  refine va_sld hx hb hX hbl hbA hS (iI_in (by decide) (by decide) (by decide)) d_law_627 ?_
  refine W.eq (g2 := F0 m 628 ls [.int (iI k0), .ref mo]) (by rw [ek] <;> rfl) ?_
  have hPc := hM.sub (ws' := [(mo, .inr (10, [.ref tb, .ref te, .ref ho, .ref xq, .int (iI 0), .int (iI 0), .int (iI 0), .int (iI (bN false)), .ref cq, .ref pq, .int (iI 0), .int (iI (-1))]))]) [0] rfl
  have hDc := hMD.sub (ws' := [(mo, .inr (10, [.ref tb, .ref te, .ref ho, .ref xq, .int (iI 0), .int (iI 0), .int (iI 0), .int (iI (bN false)), .ref cq, .ref pq, .int (iI 0), .int (iI (-1))]))]) [0] (by decide) rfl
  have hFc : ∀ q, va_A [(mo, .inr (10, [.ref tb, .ref te, .ref ho, .ref xq, .int (iI 0), .int (iI 0), .int (iI 0), .int (iI (bN false)), .ref cq, .ref pq, .int (iI 0), .int (iI (-1))]))] H1.size q → zOld E q := fun q h => h.elim (fun ⟨k, e9, h9⟩ => hDc.2 k _ h9) (fun h => by have := hE.2.1; unfold zOld; omega)
  have hno : ¬ va_A [(mo, .inr (10, [.ref tb, .ref te, .ref ho, .ref xq, .int (iI 0), .int (iI 0), .int (iI 0), .int (iI (bN false)), .ref cq, .ref pq, .int (iI 0), .int (iI (-1))]))] H1.size ou := fun h => h.elim (fun ⟨k, e9, h9⟩ => by
    have hm := zsub_mem (ws := zWM E mo tb kq mq te tq oq ho hq nl ul mk xq cq pq u2 p2 la f9) (ws' := [(mo, .inr (10, [.ref tb, .ref te, .ref ho, .ref xq, .int (iI 0), .int (iI 0), .int (iI 0), .int (iI (bN false)), .ref cq, .ref pq, .int (iI 0), .int (iI (-1))]))]) [0] rfl h9
    exact (hMn _ _ hm.choose_spec).1 rfl) (fun h => Nat.not_le.mpr hou.lt h)
  refine zcW (va_runV (As := [.int (iI k0)]) (rest := []) S (c_Mod_fault l E _ mo tb te ho xq cq pq k0 0 (-1) hk0 (by first | exact (if_pos (by omega)).symm | exact (if_neg (by omega)).symm) (by first | exact (if_pos (by omega)).symm | exact (if_neg (by omega)).symm)) ⟨zcwB (n := 1) S zw_1387 zw_14 zw_1384 (by decide +kernel) rfl rfl ⟨Nat.le_of_ble_eq_true rfl, Nat.le_of_ble_eq_true rfl⟩, S.2.2.2.2 _ zw_1385, S.2.2.2.2 _ zw_1386⟩ (zPreV hE (hM 0 _ rfl) rfl ⟨rfl, hPc, hDc, trivial⟩) rfl rfl hl.1 rfl (lv_room (Nat.le_of_ble_eq_true rfl)) d_law_628 ⟨by show _ ≤ (600002 : Nat); omega, by show _ ≤ (7302198 : Nat); omega⟩) hS (fun q _ h => hFc q h) hFc (fun v H2 locs hq hz2 hk2 hS => ?_)
  obtain ⟨rfl, za, zb, zc, zd, zc2, zp2, zsz, zcd, zn, zba, zrs, hmo⟩ := hq
  have hou := hou.kept (hk2 ou hou.lt hno)
  have hE := hE0.at hS hA0
  refine W.eq (g2 := F0 m 631 ls [.int (iI (-1))]) rfl ?_
  refine lv_istore (lv' := [(6, .int (iI (-1))), (5, .int (iI 0)), (4, .int (iI 1)), (3, .ref ou), (2, .ref mo), (1, .ref (ad 0)), (0, .ref b)]) hx hb d_law_631 hl (by decide) rfl (fun ls hl => ?_)
  refine lv_aload_n hx hb d_law_633 rfl (lv_at hl 4 rfl) ?_
  refine zcR (va_runV (As := []) (rest := []) S (c_Mod_thrown l E mo za zb zc zd zc2 zp2 zsz 0 zcd zn zba zrs) ⟨zcwB (n := 0) S zw_1047 zw_14 zw_1044 (by decide +kernel) rfl rfl ⟨Nat.le_of_ble_eq_true rfl, Nat.le_of_ble_eq_true rfl⟩, S.2.2.2.2 _ zw_1045, S.2.2.2.2 _ zw_1046⟩ (zPreV hE hmo rfl hmo) rfl rfl hl.1 rfl (lv_room (Nat.le_of_ble_eq_true rfl)) d_law_634 ⟨Nat.le_of_ble_eq_true rfl, Nat.le_of_ble_eq_true rfl⟩) ?_
  refine lv_iload hx hb d_law_637 (lv_at hl 1 rfl) ?_
  refine zi_icmp_eq hx hb d_law_639 rfl (by omega) (by omega) (fun h639 => ?_) (fun h => absurd h (by omega))
  refine lv_iload hx hb d_law_644 (lv_at hl 1 rfl) ?_
  refine zi_if_ne hx hb d_law_646 rfl (by omega) (fun h646 => absurd h646 (by omega)) (fun h646 => ?_)
  refine lv_aload_n hx hb d_law_649 rfl (lv_at hl 3 rfl) ?_
  refine zi_iconst hx hb d_law_650 ?_
  refine zlald0 hx hb hE hou d_law_651 ?_
  refine W.eq (g2 := F0 m 652 ls [.long (jL (-1))]) (rfl) ?_
  refine lv_iload hx hb d_law_652 (lv_at hl 0 rfl) ?_
  refine zl_i2l hx hb d_law_654 (by omega) ?_
  refine zl_if_eq hx hb d_law_655 d_law_656 rfl (by omega) (by omega) (fun h656 => ?_) (fun h656 => ?_)
  · refine lv_goto hx hb d_law_661 rfl ?_
    exact zlaw_tail S hr hlk hEs hX hbl hS (by omega) (by omega) (by decide) (lv_sub hl [2, 6] rfl)
  · refine zi_iconst hx hb d_law_659 ?_
    omega

set_option maxRecDepth 100000 in
set_option maxHeartbeats 4000000 in
theorem zlaw_fault2 {p : Program} {l : Launch} {e : Env} {s : State} {m : MethodId} {below : List Frame} {meth : Method} {c : Code} {b : Nat} {xs : Nat → Int32} {E : zP} {H : Heap} {locs : List Loc} {ls : Array Slot} (htl : ∀ e : Env, l.admits e → e.platform.stackTraces = false) (S : CallFix p m c code 7 s #[Value.ref b] zw "ReplacementWriterLaw") (hr : meth.sig.returnType = ret) (hlk : meth.locks = false) (hEs : E.2.2.2 = s.heap.size) (hX : va_X b 7 xs s s.heap) (hbl : b < s.heap.size) (hE0 : zE E s s.heap) (hS : va_S (zOld E) s.heap H locs) {ad : Nat → Nat} {en : Nat → va_E} {ou : Nat} {u p1 : Bool} (hst : zSt E false 0 ad en (zS0 u p1) zC0 H) (hou : zOu E ou 0 H) (hne : ∀ i, zRo false 0 i → ad i ≠ ou) (hoo : zOld E ou) {mo tb kq mq te tq oq ho hq nl ul mk xq cq pq : Nat} {u2 p2 : Bool} {la : Int} {f9 : Nat → Int32} (hM : va_P E.1 zcl (zWM E mo tb kq mq te tq oq ho hq nl ul mk xq cq pq u2 p2 la f9) H) (hMD : va_D (zOld E) (zWM E mo tb kq mq te tq oq ho hq nl ul mk xq cq pq u2 p2 la f9)) (hMn : ∀ (k : Nat) (q : Nat × va_E), (zWM E mo tb kq mq te tq oq ho hq nl ul mk xq cq pq u2 p2 la f9)[k]? = some q → q.1 ≠ ou ∧ ∀ i, zRo false 0 i → ad i ≠ q.1) (hl : lv_has ls 7 [(4, .int (iI 1)), (3, .ref ou), (2, .ref mo), (1, .ref (ad 0)), (0, .ref b)]) (k0 : Int) (hk0 : r32 k0) (ek : iI k0 = xs 2) (hz0 : k0 ≠ 0 ∧ k0 ≠ 1) : W p l e room_1 s m #[Value.ref b] below meth c H locs 1000 300000 (lw_Z below #[Value.ref b] s) (F0 m 608 ls []) := by
  have hx := S.1
  have hb := S.2.1
  have hbA : ¬ zOld E b := by unfold zOld; omega
  have hA0 : ∀ q, zOld E q → zOld E q := fun q h => h
  have hE := hE0.at hS hA0
  have hMw : ∀ (k : Nat) (q : Nat × va_E), (zWM E mo tb kq mq te tq oq ho hq nl ul mk xq cq pq u2 p2 la f9)[k]? = some q → ¬ zAw (zRo false 0) ad H.size ou q.1 := fun k q hq h => h.elim (fun h => h.elim (fun ⟨i, hi, e9⟩ => (hMn k q hq).2 i hi e9.symm) (fun h => Nat.not_le.mpr (hM k q hq).lt h)) (hMn k q hq).1
  have hAw : ∀ q, zAw (zRo false 0) ad H.size ou q → zOld E q := zAw_old hst.1 hE.2.1 hoo
  refine lv_aload_n hx hb d_law_608 rfl (lv_at hl 3 rfl) ?_
  refine lv_aload_n hx hb d_law_609 rfl (lv_at hl 4 rfl) ?_
  refine lv_iload hx hb d_law_610 (lv_at hl 0 rfl) ?_
  refine zi_iconst hx hb d_law_612 ?_
  refine zi_iadd hx hb d_law_613 ?_
  refine W.eq (g2 := F0 m 614 ls ([.int (iI 2), .ref b, .ref (ad 0)])) rfl ?_
  refine va_sld hx hb hX hbl hbA hS (iI_in (by decide) (by decide) (by decide)) d_law_614 ?_
  refine W.eq (g2 := F0 m 615 ls [.int (iI k0), .ref (ad 0)]) (by rw [ek] <;> rfl) ?_
  refine lv_aload_n hx hb d_law_615 rfl (lv_at hl 1 rfl) ?_
  refine zcW (zrunSW (n := 3) (As := [.ref (ad 0), .int (iI k0), .ref ou]) (rest := []) S (wx_Law_fault l htl E false 0 ad en (zS0 u p1) zC0 H.size ou 0 k0 hk0 hz0) zw_859 zw_0 zw_857 zw_858 (by decide +kernel) rfl rfl ⟨Nat.le_of_ble_eq_true rfl, Nat.le_of_ble_eq_true rfl⟩ (zPreS hE ⟨rfl, hst, hou, hne, hoo⟩) rfl rfl hl.1 rfl (lv_room (Nat.le_of_ble_eq_true rfl)) d_law_616 ⟨Nat.le_of_ble_eq_true rfl, Nat.le_of_ble_eq_true rfl⟩) hS (fun q _ h => hAw q h) hAw (fun v H1 locs hq hz1 hk1 hS => ?_)
  obtain ⟨rfl, hou, ad', en', h00, hfr, hst'⟩ := hq
  have hM := zA_kept (wc := []) hM hk1 hMw
  have hE := hE0.at hS hA0
  refine W.widen (k := 2000) (n := 400000) (Nat.le_of_ble_eq_true rfl) (Nat.le_of_ble_eq_true rfl) ?_
  refine W.eq (g2 := F0 m 619 ls [.int (iI 1)]) rfl ?_
  refine lv_istore (lv' := [(5, .int (iI 1)), (4, .int (iI 1)), (3, .ref ou), (2, .ref mo), (1, .ref (ad 0)), (0, .ref b)]) hx hb d_law_619 hl (by decide) rfl (fun ls hl => ?_)
  refine lv_aload_n hx hb d_law_621 rfl (lv_at hl 3 rfl) ?_
  refine lv_aload_n hx hb d_law_622 rfl (lv_at hl 5 rfl) ?_
  refine lv_iload hx hb d_law_623 (lv_at hl 1 rfl) ?_
  refine zi_iconst hx hb d_law_625 ?_
  refine zi_iadd hx hb d_law_626 ?_
  refine W.eq (g2 := F0 m 627 ls ([.int (iI 2), .ref b, .ref mo])) rfl ?_
  refine va_sld hx hb hX hbl hbA hS (iI_in (by decide) (by decide) (by decide)) d_law_627 ?_
  refine W.eq (g2 := F0 m 628 ls [.int (iI k0), .ref mo]) (by rw [ek] <;> rfl) ?_
  have hPc := hM.sub (ws' := [(mo, .inr (10, [.ref tb, .ref te, .ref ho, .ref xq, .int (iI 0), .int (iI 0), .int (iI 0), .int (iI (bN false)), .ref cq, .ref pq, .int (iI 0), .int (iI (-1))]))]) [0] rfl
  have hDc := hMD.sub (ws' := [(mo, .inr (10, [.ref tb, .ref te, .ref ho, .ref xq, .int (iI 0), .int (iI 0), .int (iI 0), .int (iI (bN false)), .ref cq, .ref pq, .int (iI 0), .int (iI (-1))]))]) [0] (by decide) rfl
  have hFc : ∀ q, va_A [(mo, .inr (10, [.ref tb, .ref te, .ref ho, .ref xq, .int (iI 0), .int (iI 0), .int (iI 0), .int (iI (bN false)), .ref cq, .ref pq, .int (iI 0), .int (iI (-1))]))] H1.size q → zOld E q := fun q h => h.elim (fun ⟨k, e9, h9⟩ => hDc.2 k _ h9) (fun h => by have := hE.2.1; unfold zOld; omega)
  have hno : ¬ va_A [(mo, .inr (10, [.ref tb, .ref te, .ref ho, .ref xq, .int (iI 0), .int (iI 0), .int (iI 0), .int (iI (bN false)), .ref cq, .ref pq, .int (iI 0), .int (iI (-1))]))] H1.size ou := fun h => h.elim (fun ⟨k, e9, h9⟩ => by
    have hm := zsub_mem (ws := zWM E mo tb kq mq te tq oq ho hq nl ul mk xq cq pq u2 p2 la f9) (ws' := [(mo, .inr (10, [.ref tb, .ref te, .ref ho, .ref xq, .int (iI 0), .int (iI 0), .int (iI 0), .int (iI (bN false)), .ref cq, .ref pq, .int (iI 0), .int (iI (-1))]))]) [0] rfl h9
    exact (hMn _ _ hm.choose_spec).1 rfl) (fun h => Nat.not_le.mpr hou.lt h)
  refine zcW (va_runV (As := [.int (iI k0)]) (rest := []) S (c_Mod_fault l E _ mo tb te ho xq cq pq k0 1 0 hk0 (by first | exact (if_pos (by omega)).symm | exact (if_neg (by omega)).symm) (by first | exact (if_pos (by omega)).symm | exact (if_neg (by omega)).symm)) ⟨zcwB (n := 1) S zw_1387 zw_14 zw_1384 (by decide +kernel) rfl rfl ⟨Nat.le_of_ble_eq_true rfl, Nat.le_of_ble_eq_true rfl⟩, S.2.2.2.2 _ zw_1385, S.2.2.2.2 _ zw_1386⟩ (zPreV hE (hM 0 _ rfl) rfl ⟨rfl, hPc, hDc, trivial⟩) rfl rfl hl.1 rfl (lv_room (Nat.le_of_ble_eq_true rfl)) d_law_628 ⟨by show _ ≤ (600002 : Nat); omega, by show _ ≤ (7302198 : Nat); omega⟩) hS (fun q _ h => hFc q h) hFc (fun v H2 locs hq hz2 hk2 hS => ?_)
  obtain ⟨rfl, za, zb, zc, zd, zc2, zp2, zsz, zcd, zn, zba, zrs, hmo⟩ := hq
  have hou := hou.kept (hk2 ou hou.lt hno)
  have hE := hE0.at hS hA0
  refine W.eq (g2 := F0 m 631 ls [.int (iI 0)]) rfl ?_
  refine lv_istore (lv' := [(6, .int (iI 0)), (5, .int (iI 1)), (4, .int (iI 1)), (3, .ref ou), (2, .ref mo), (1, .ref (ad 0)), (0, .ref b)]) hx hb d_law_631 hl (by decide) rfl (fun ls hl => ?_)
  refine lv_aload_n hx hb d_law_633 rfl (lv_at hl 4 rfl) ?_
  refine zcR (va_runV (As := []) (rest := []) S (c_Mod_thrown l E mo za zb zc zd zc2 zp2 zsz 1 zcd zn zba zrs) ⟨zcwB (n := 0) S zw_1047 zw_14 zw_1044 (by decide +kernel) rfl rfl ⟨Nat.le_of_ble_eq_true rfl, Nat.le_of_ble_eq_true rfl⟩, S.2.2.2.2 _ zw_1045, S.2.2.2.2 _ zw_1046⟩ (zPreV hE hmo rfl hmo) rfl rfl hl.1 rfl (lv_room (Nat.le_of_ble_eq_true rfl)) d_law_634 ⟨Nat.le_of_ble_eq_true rfl, Nat.le_of_ble_eq_true rfl⟩) ?_
  refine lv_iload hx hb d_law_637 (lv_at hl 1 rfl) ?_
  refine zi_icmp_eq hx hb d_law_639 rfl (by omega) (by omega) (fun h639 => ?_) (fun h => absurd h (by omega))
  refine lv_iload hx hb d_law_644 (lv_at hl 1 rfl) ?_
  refine zi_if_ne hx hb d_law_646 rfl (by omega) (fun h646 => ?_) (fun h646 => absurd h646 (by omega))
  refine lv_goto hx hb d_law_661 rfl ?_
  exact zlaw_tail S hr hlk hEs hX hbl hS (by omega) (by omega) (by decide) (lv_sub hl [2, 6] rfl)

set_option maxRecDepth 100000 in
set_option maxHeartbeats 4000000 in
theorem zlaw_count0 {p : Program} {l : Launch} {e : Env} {s : State} {m : MethodId} {below : List Frame} {meth : Method} {c : Code} {b : Nat} {xs : Nat → Int32} {E : zP} {H : Heap} {locs : List Loc} {ls : Array Slot} (htl : ∀ e : Env, l.admits e → e.platform.stackTraces = false) (S : CallFix p m c code 7 s #[Value.ref b] zw "ReplacementWriterLaw") (hr : meth.sig.returnType = ret) (hlk : meth.locks = false) (hEs : E.2.2.2 = s.heap.size) (hX : va_X b 7 xs s s.heap) (hbl : b < s.heap.size) (hE0 : zE E s s.heap) (hS : va_S (zOld E) s.heap H locs) {ad : Nat → Nat} {en : Nat → va_E} {ou : Nat} {u p1 : Bool} (hst : zSt E false 0 ad en (zS0 u p1) zC0 H) (hou : zOu E ou 0 H) (hne : ∀ i, zRo false 0 i → ad i ≠ ou) (hoo : zOld E ou) {mo tb kq mq te tq oq ho hq nl ul mk xq cq pq : Nat} {u2 p2 : Bool} {la : Int} {f9 : Nat → Int32} (hM : va_P E.1 zcl (zWM E mo tb kq mq te tq oq ho hq nl ul mk xq cq pq u2 p2 la f9) H) (hMD : va_D (zOld E) (zWM E mo tb kq mq te tq oq ho hq nl ul mk xq cq pq u2 p2 la f9)) (hMn : ∀ (k : Nat) (q : Nat × va_E), (zWM E mo tb kq mq te tq oq ho hq nl ul mk xq cq pq u2 p2 la f9)[k]? = some q → q.1 ≠ ou ∧ ∀ i, zRo false 0 i → ad i ≠ q.1) (hl : lv_has ls 7 [(4, .int (iI 1)), (3, .ref ou), (2, .ref mo), (1, .ref (ad 0)), (0, .ref b)]) (k0 : Int) (hk0 : r32 k0) (ek : iI k0 = xs 2) : W p l e room_1 s m #[Value.ref b] below meth c H locs 1000 300000 (lw_Z below #[Value.ref b] s) (F0 m 664 ls []) := by
  have hx := S.1
  have hb := S.2.1
  have hbA : ¬ zOld E b := by unfold zOld; omega
  have hA0 : ∀ q, zOld E q → zOld E q := fun q h => h
  have hE := hE0.at hS hA0
  have hMw : ∀ (k : Nat) (q : Nat × va_E), (zWM E mo tb kq mq te tq oq ho hq nl ul mk xq cq pq u2 p2 la f9)[k]? = some q → ¬ zAw (zRo false 0) ad H.size ou q.1 := fun k q hq h => h.elim (fun h => h.elim (fun ⟨i, hi, e9⟩ => (hMn k q hq).2 i hi e9.symm) (fun h => Nat.not_le.mpr (hM k q hq).lt h)) (hMn k q hq).1
  have hAw : ∀ q, zAw (zRo false 0) ad H.size ou q → zOld E q := zAw_old hst.1 hE.2.1 hoo
  have a0 := hst.1.2.2 0 (zRo.lo (by decide) (by decide))
  rw [hst.2.2.1] at a0
  refine lv_aload_n hx hb d_law_664 rfl (lv_at hl 3 rfl) ?_
  refine lv_aload_n hx hb d_law_665 rfl (lv_at hl 4 rfl) ?_
  refine lv_iload hx hb d_law_666 (lv_at hl 0 rfl) ?_
  refine zi_iconst hx hb d_law_668 ?_
  refine zi_iadd hx hb d_law_669 ?_
  refine W.eq (g2 := F0 m 670 ls ([.int (iI 2), .ref b, .ref (ad 0)])) rfl ?_
  refine va_sld hx hb hX hbl hbA hS (iI_in (by decide) (by decide) (by decide)) d_law_670 ?_
  refine W.eq (g2 := F0 m 671 ls [.int (iI k0), .ref (ad 0)]) (by rw [ek] <;> rfl) ?_
  refine zcR (va_runV (As := [.int (iI k0)]) (rest := []) S (c2_RW_count l E false 0 ad en (zS0 u p1) zC0 k0 hk0) ⟨zcwB (n := 1) S zw_254 zw_1 zw_251 (by decide +kernel) rfl rfl ⟨Nat.le_of_ble_eq_true rfl, Nat.le_of_ble_eq_true rfl⟩, S.2.2.2.2 _ zw_252, S.2.2.2.2 _ zw_253⟩ (zPreV hE a0 rfl hst) rfl rfl hl.1 rfl (lv_room (Nat.le_of_ble_eq_true rfl)) d_law_671 ⟨by show _ ≤ (600002 : Nat); omega, by show _ ≤ (7302198 : Nat); omega⟩) ?_
  refine W.eq (g2 := F0 m 674 ls [.int (iI (sp_count k0 0 0 0 0))]) rfl ?_
  refine lv_aload_n hx hb d_law_674 rfl (lv_at hl 2 rfl) ?_
  refine lv_aload_n hx hb d_law_675 rfl (lv_at hl 4 rfl) ?_
  refine lv_iload hx hb d_law_676 (lv_at hl 0 rfl) ?_
  refine zi_iconst hx hb d_law_678 ?_
  refine zi_iadd hx hb d_law_679 ?_
  refine W.eq (g2 := F0 m 680 ls ([.int (iI 2), .ref b, .ref mo, .int (iI (sp_count k0 0 0 0 0))])) rfl ?_
  refine va_sld hx hb hX hbl hbA hS (iI_in (by decide) (by decide) (by decide)) d_law_680 ?_
  refine W.eq (g2 := F0 m 681 ls [.int (iI k0), .ref mo, .int (iI (sp_count k0 0 0 0 0))]) (by rw [ek] <;> rfl) ?_
  have hPc := hM.sub (ws' := [(mo, .inr (10, [.ref tb, .ref te, .ref ho, .ref xq, .int (iI 0), .int (iI 0), .int (iI 0), .int (iI (bN false)), .ref cq, .ref pq, .int (iI 0), .int (iI (-1))])), (ho, .inr (13, [.int (iI 0), .ref hq, .ref nl, .ref ul, .ref mk])), (te, .inr (12, [.ref tb, .null, .int (iI (bN false)), .int (iI (bN false)), .int (iI (bN false)), .ref tq, .int (iI 0), .ref oq, .int (iI 0), .int (iI 0), .int (iI 0), .int (iI (-1)), .int (iI 0)])), (nl, .inr (9, [.ref (E.2.2.1 4), .int (iI 0), .int (iI 0)]))]) [0, 7, 4, 9] rfl
  have hDc := hMD.sub (ws' := [(mo, .inr (10, [.ref tb, .ref te, .ref ho, .ref xq, .int (iI 0), .int (iI 0), .int (iI 0), .int (iI (bN false)), .ref cq, .ref pq, .int (iI 0), .int (iI (-1))])), (ho, .inr (13, [.int (iI 0), .ref hq, .ref nl, .ref ul, .ref mk])), (te, .inr (12, [.ref tb, .null, .int (iI (bN false)), .int (iI (bN false)), .int (iI (bN false)), .ref tq, .int (iI 0), .ref oq, .int (iI 0), .int (iI 0), .int (iI 0), .int (iI (-1)), .int (iI 0)])), (nl, .inr (9, [.ref (E.2.2.1 4), .int (iI 0), .int (iI 0)]))]) [0, 7, 4, 9] (by decide) rfl
  have hFc : ∀ q, va_A [(mo, .inr (10, [.ref tb, .ref te, .ref ho, .ref xq, .int (iI 0), .int (iI 0), .int (iI 0), .int (iI (bN false)), .ref cq, .ref pq, .int (iI 0), .int (iI (-1))])), (ho, .inr (13, [.int (iI 0), .ref hq, .ref nl, .ref ul, .ref mk])), (te, .inr (12, [.ref tb, .null, .int (iI (bN false)), .int (iI (bN false)), .int (iI (bN false)), .ref tq, .int (iI 0), .ref oq, .int (iI 0), .int (iI 0), .int (iI 0), .int (iI (-1)), .int (iI 0)])), (nl, .inr (9, [.ref (E.2.2.1 4), .int (iI 0), .int (iI 0)]))] H.size q → zOld E q := fun q h => h.elim (fun ⟨k, e9, h9⟩ => hDc.2 k _ h9) (fun h => by have := hE.2.1; unfold zOld; omega)
  refine zcW (va_runV (As := [.int (iI k0)]) (rest := [.int (iI (sp_count k0 0 0 0 0))]) S (c_Mod_count l E _ mo tb te ho xq cq pq hq nl ul mk oq tq k0 hk0) ⟨zcwB (n := 1) S zw_1391 zw_14 zw_1388 (by decide +kernel) rfl rfl ⟨Nat.le_of_ble_eq_true rfl, Nat.le_of_ble_eq_true rfl⟩, S.2.2.2.2 _ zw_1389, S.2.2.2.2 _ zw_1390⟩ (zPreV hE (hM 0 _ rfl) rfl ⟨rfl, hPc, hDc, trivial⟩) rfl rfl hl.1 rfl (lv_room (Nat.le_of_ble_eq_true rfl)) d_law_681 ⟨by show _ ≤ (600002 : Nat); omega, by show _ ≤ (7302198 : Nat); omega⟩) hS (fun q _ h => hFc q h) hFc (fun v H2 locs hq hz2 hk2 hS => ?_)
  obtain rfl := hq
  refine W.eq (g2 := F0 m 684 ls [.int (iI (sp_count k0 0 0 0 0)), .int (iI (sp_count k0 0 0 0 0))]) rfl ?_
  refine zi_icmp_eq hx hb d_law_684 rfl (zcnt0 k0) (zcnt0 k0) (fun _ => ?_) (fun h9 => absurd rfl h9)
  exact zlaw_tail S hr hlk hEs hX hbl hS (by omega) (by omega) (by decide) (lv_sub hl [0, 4] rfl)
