set_option maxRecDepth 100000 in
set_option maxHeartbeats 4000000 in
theorem w_Law_writeB (l : Launch) (E : zP) (own : Bool) (nn : Nat) (ad : Nat → Nat) (en : Nat → va_E) (St : zSp) (C : zCp) (sz ou : Nat) (z0 : Int64) (ov : Nat) (hov : ov < 16) (hbad : 0 ≤ sp_fault St.1.1 St.2.1) (hz9 : r32 (sp_ans (sp_wr St ov))) : Met l y_Law_write (.codeWith y_Law_write b_Law_write 4 ( some FieldType.int ) [(0, 9, 12, 19)] :: zw) { frames := 5, cells := 0, slots := 0, locals := 115 } (zPc E [.ref (ad 0), .int (iI ((512 * ov : Nat) : Int)), .ref ou] (zLp E own nn ad en St C sz ou z0)) (zW (zLq E own nn ad sz ou 0 (jL (sp_ans (sp_wr St ov))) own nn (St.1, [], St.2.2.1, (sp_wr St ov).2.2, (sp_wr St ov).1, (sp_wr St ov).2.1) (C.1, sp_wcap St C.2.1 ov, C.2.2)) (zAw (zRo own nn) ad sz ou)) (0) (0) (zAw (zRo own nn) ad sz ou) := by
  refine zMetW (by decide) (Nat.le_of_ble_eq_true rfl) ?_
  intro p e s m below meth c ls S hr hlk hnm htab hadm hE ⟨hsz, hst, hou, hne, hoo⟩ hl
  have hx := S.1
  have hb := S.2.1
  have hE0 := hE
  have hl : lv_has ls 4 [(0, .ref (ad 0)), (1, .int (iI ((512 * ov : Nat) : Int))), (2, .ref ou)] := hl
  subst hsz
  have hA0 := zAw_old hst.1 hE.2.1 hoo
  have hS : va_S (zAw (zRo own nn) ad s.heap.size ou) s.heap s.heap [] := va_S.rf
  have a0 := hst.1.2.2 0 (zRo.lo (by decide) (by decide))
  rw [hst.2.2.1] at a0
  refine lv_aload_n hx hb d_Law_write_0 rfl (lv_at hl 2 rfl) ?_
  refine zi_iconst hx hb d_Law_write_1 ?_
  refine lv_aload_n hx hb d_Law_write_2 rfl (lv_at hl 0 rfl) ?_
  refine lv_iload_n hx hb d_Law_write_3 rfl (lv_at hl 1 rfl) ?_
  refine zcW (va_runV (As := [.int (iI ((512 * ov : Nat) : Int))]) (rest := [.int (iI 0), .ref ou]) S (c2_RW_writeB l E own nn ad en St C _ ov hov hbad) ⟨zcwB (n := 1) S zw_648 zw_1 zw_645 (by decide +kernel) rfl rfl ⟨Nat.le_of_ble_eq_true rfl, Nat.le_of_ble_eq_true rfl⟩, S.2.2.2.2 _ zw_646, S.2.2.2.2 _ zw_647⟩ (zPreV hE a0 rfl ⟨rfl, hst⟩) rfl rfl hl.1 rfl (lv_room (Nat.le_of_ble_eq_true rfl)) d_Law_write_4 ⟨by (try dsimp only); omega, by (try dsimp only); omega⟩) hS (fun q _ h => Or.inl h) (fun q h => Or.inl h) (fun v H locs hq hz1 hk1 hS => ?_)
  obtain ⟨ad', en', h00, hfr, rfl, hst1⟩ := hq
  have hou1 := hou.kept (hk1 ou hou.lt (zAo_no hne hou.lt))
  refine zl_i2l hx hb d_Law_write_7 hz9 ?_
  refine zlast0 hx hb (hE0.at hS hA0) hou1 hS (Or.inr rfl) d_Law_write_8 (fun H locs ho hz2 hk2 hS => ?_)
  have hst1 := hst1.kept (fun i hi => hk2 _ (zFr_ne hfr hne hou.lt i hi)) (fun q9 hq9 => hk2 _ (fun e9 => absurd hoo (by rw [← e9]; unfold zOld; omega)))
  refine lv_goto hx hb d_Law_write_9 rfl ?_
  refine zi_iconst hx hb d_Law_write_15 ?_
  exact zwi S hr hlk hS (⟨rfl, ho, ad', en', h00, hfr, hst1⟩) (by (try dsimp only); omega) (by (try dsimp only); omega) d_Law_write_16

set_option maxRecDepth 100000 in
set_option maxHeartbeats 4000000 in
theorem w_Law_writeP (l : Launch) (E : zP) (own : Bool) (nn : Nat) (ad : Nat → Nat) (en : Nat → va_E) (St : zSp) (C : zCp) (sz ou : Nat) (z0 : Int64) (ov : Nat) (hov : ov < 16) (tt : List Nat) (htt : tt = sp_chars St.1.1 St.2.1) (hok : sp_fault St.1.1 St.2.1 < 0) (hpl : 8 ≤ ov) (hz9 : r32 (sp_ans (sp_wr St ov))) : Met l y_Law_write (.codeWith y_Law_write b_Law_write 4 ( some FieldType.int ) [(0, 9, 12, 19)] :: zw) { frames := 6, cells := ((max C.2.1 (sp_up St.2.1.length)) - C.2.1) / 16, slots := 2 * ((max C.2.1 (sp_up St.2.1.length)) - C.2.1), locals := 152 } (zPc E [.ref (ad 0), .int (iI ((512 * ov : Nat) : Int)), .ref ou] (zLp E own nn ad en St C sz ou z0)) (zW (zLq E own nn ad sz ou 0 (jL (sp_ans (sp_wr St ov))) own nn (St.1, [], St.2.2.1, (sp_wr St ov).2.2, (sp_wr St ov).1, (sp_wr St ov).2.1) (C.1, sp_wcap St C.2.1 ov, C.2.2)) (zAw (zRo own nn) ad sz ou)) (((max C.2.1 (sp_up St.2.1.length)) - C.2.1) / 16) (2 * ((max C.2.1 (sp_up St.2.1.length)) - C.2.1)) (zAw (zRo own nn) ad sz ou) := by
  refine zMetW (by decide) (Nat.le_of_ble_eq_true rfl) ?_
  intro p e s m below meth c ls S hr hlk hnm htab hadm hE ⟨hsz, hst, hou, hne, hoo⟩ hl
  have hx := S.1
  have hb := S.2.1
  have hE0 := hE
  have hl : lv_has ls 4 [(0, .ref (ad 0)), (1, .int (iI ((512 * ov : Nat) : Int))), (2, .ref ou)] := hl
  subst hsz
  have hA0 := zAw_old hst.1 hE.2.1 hoo
  have hS : va_S (zAw (zRo own nn) ad s.heap.size ou) s.heap s.heap [] := va_S.rf
  have a0 := hst.1.2.2 0 (zRo.lo (by decide) (by decide))
  rw [hst.2.2.1] at a0
  refine lv_aload_n hx hb d_Law_write_0 rfl (lv_at hl 2 rfl) ?_
  refine zi_iconst hx hb d_Law_write_1 ?_
  refine lv_aload_n hx hb d_Law_write_2 rfl (lv_at hl 0 rfl) ?_
  refine lv_iload_n hx hb d_Law_write_3 rfl (lv_at hl 1 rfl) ?_
  refine zcW (va_runV (As := [.int (iI ((512 * ov : Nat) : Int))]) (rest := [.int (iI 0), .ref ou]) S (c2_RW_writeP l E own nn ad en St C _ ov hov tt htt hok hpl) ⟨zcwB (n := 1) S zw_648 zw_1 zw_645 (by decide +kernel) rfl rfl ⟨Nat.le_of_ble_eq_true rfl, Nat.le_of_ble_eq_true rfl⟩, S.2.2.2.2 _ zw_646, S.2.2.2.2 _ zw_647⟩ (zPreV hE a0 rfl ⟨rfl, hst⟩) rfl rfl hl.1 rfl (lv_room (Nat.le_of_ble_eq_true rfl)) d_Law_write_4 ⟨by (try dsimp only); omega, by (try dsimp only); omega⟩) hS (fun q _ h => Or.inl h) (fun q h => Or.inl h) (fun v H locs hq hz1 hk1 hS => ?_)
  obtain ⟨ad', en', h00, hfr, rfl, hst1⟩ := hq
  have hou1 := hou.kept (hk1 ou hou.lt (zAo_no hne hou.lt))
  refine zl_i2l hx hb d_Law_write_7 hz9 ?_
  refine zlast0 hx hb (hE0.at hS hA0) hou1 hS (Or.inr rfl) d_Law_write_8 (fun H locs ho hz2 hk2 hS => ?_)
  have hst1 := hst1.kept (fun i hi => hk2 _ (zFr_ne hfr hne hou.lt i hi)) (fun q9 hq9 => hk2 _ (fun e9 => absurd hoo (by rw [← e9]; unfold zOld; omega)))
  refine lv_goto hx hb d_Law_write_9 rfl ?_
  refine zi_iconst hx hb d_Law_write_15 ?_
  exact zwi S hr hlk hS (⟨rfl, ho, ad', en', h00, hfr, hst1⟩) (by (try dsimp only); omega) (by (try dsimp only); omega) d_Law_write_16

set_option maxRecDepth 100000 in
set_option maxHeartbeats 4000000 in
theorem w_Law_writeN (l : Launch) (E : zP) (own : Bool) (nn : Nat) (ad : Nat → Nat) (en : Nat → va_E) (St : zSp) (C : zCp) (sz ou : Nat) (z0 : Int64) (ov : Nat) (hov : ov < 16) (tt : List Nat) (htt : tt = sp_chars St.1.1 St.2.1) (hok : sp_fault St.1.1 St.2.1 < 0) (hpl : ov < 8) (hz9 : r32 (sp_ans (sp_wr St ov))) : Met l y_Law_write (.codeWith y_Law_write b_Law_write 4 ( some FieldType.int ) [(0, 9, 12, 19)] :: zw) { frames := 94, cells := ((sp_pcap C.2.1 (sp_part (sp_md St ov) St.2.2.1.1 tt 20 0 tt.length ([], 0, 0))) - C.2.1) / 16, slots := 2 * ((sp_pcap C.2.1 (sp_part (sp_md St ov) St.2.2.1.1 tt 20 0 tt.length ([], 0, 0))) - C.2.1), locals := 5118 } (zPc E [.ref (ad 0), .int (iI ((512 * ov : Nat) : Int)), .ref ou] (zLp E own nn ad en St C sz ou z0)) (zW (zLq E own nn ad sz ou 0 (jL (sp_ans (sp_wr St ov))) own nn (St.1, [], St.2.2.1, (sp_wr St ov).2.2, (sp_wr St ov).1, (sp_wr St ov).2.1) (C.1, sp_wcap St C.2.1 ov, C.2.2)) (zAw (zRo own nn) ad sz ou)) (((sp_pcap C.2.1 (sp_part (sp_md St ov) St.2.2.1.1 tt 20 0 tt.length ([], 0, 0))) - C.2.1) / 16) (2 * ((sp_pcap C.2.1 (sp_part (sp_md St ov) St.2.2.1.1 tt 20 0 tt.length ([], 0, 0))) - C.2.1)) (zAw (zRo own nn) ad sz ou) := by
  refine zMetW (by decide) (Nat.le_of_ble_eq_true rfl) ?_
  intro p e s m below meth c ls S hr hlk hnm htab hadm hE ⟨hsz, hst, hou, hne, hoo⟩ hl
  have hx := S.1
  have hb := S.2.1
  have hE0 := hE
  have hl : lv_has ls 4 [(0, .ref (ad 0)), (1, .int (iI ((512 * ov : Nat) : Int))), (2, .ref ou)] := hl
  subst hsz
  have hA0 := zAw_old hst.1 hE.2.1 hoo
  have hS : va_S (zAw (zRo own nn) ad s.heap.size ou) s.heap s.heap [] := va_S.rf
  have a0 := hst.1.2.2 0 (zRo.lo (by decide) (by decide))
  rw [hst.2.2.1] at a0
  refine lv_aload_n hx hb d_Law_write_0 rfl (lv_at hl 2 rfl) ?_
  refine zi_iconst hx hb d_Law_write_1 ?_
  refine lv_aload_n hx hb d_Law_write_2 rfl (lv_at hl 0 rfl) ?_
  refine lv_iload_n hx hb d_Law_write_3 rfl (lv_at hl 1 rfl) ?_
  refine zcW (va_runV (As := [.int (iI ((512 * ov : Nat) : Int))]) (rest := [.int (iI 0), .ref ou]) S (c2_RW_writeN l E own nn ad en St C _ ov hov tt htt hok hpl) ⟨zcwB (n := 1) S zw_648 zw_1 zw_645 (by decide +kernel) rfl rfl ⟨Nat.le_of_ble_eq_true rfl, Nat.le_of_ble_eq_true rfl⟩, S.2.2.2.2 _ zw_646, S.2.2.2.2 _ zw_647⟩ (zPreV hE a0 rfl ⟨rfl, hst⟩) rfl rfl hl.1 rfl (lv_room (Nat.le_of_ble_eq_true rfl)) d_Law_write_4 ⟨by (try dsimp only); omega, by (try dsimp only); omega⟩) hS (fun q _ h => Or.inl h) (fun q h => Or.inl h) (fun v H locs hq hz1 hk1 hS => ?_)
  obtain ⟨ad', en', h00, hfr, rfl, hst1⟩ := hq
  have hou1 := hou.kept (hk1 ou hou.lt (zAo_no hne hou.lt))
  refine zl_i2l hx hb d_Law_write_7 hz9 ?_
  refine zlast0 hx hb (hE0.at hS hA0) hou1 hS (Or.inr rfl) d_Law_write_8 (fun H locs ho hz2 hk2 hS => ?_)
  have hst1 := hst1.kept (fun i hi => hk2 _ (zFr_ne hfr hne hou.lt i hi)) (fun q9 hq9 => hk2 _ (fun e9 => absurd hoo (by rw [← e9]; unfold zOld; omega)))
  refine lv_goto hx hb d_Law_write_9 rfl ?_
  refine zi_iconst hx hb d_Law_write_15 ?_
  exact zwi S hr hlk hS (⟨rfl, ho, ad', en', h00, hfr, hst1⟩) (by (try dsimp only); omega) (by (try dsimp only); omega) d_Law_write_16

set_option maxRecDepth 100000 in
set_option maxHeartbeats 4000000 in
theorem wx_Law_write (l : Launch) (htl : ∀ e : Env, l.admits e → e.platform.stackTraces = false) (E : zP) (own : Bool) (nn : Nat) (ad : Nat → Nat) (en : Nat → va_E) (St : zSp) (C : zCp) (sz ou : Nat) (z0 : Int64) (k0 : Int) (hk0 : iI k0 &&& iI (-7681) ≠ iI 0) : Met l y_Law_write (.codeWith y_Law_write b_Law_write 4 ( some FieldType.int ) [(0, 9, 12, 19)] :: zw) { frames := 8, cells := 1, slots := 6, locals := 103 } (zPc E [.ref (ad 0), .int (iI k0), .ref ou] (zLp E own nn ad en St C sz ou z0)) (zW (zLq E own nn ad sz ou 1 z0 own nn St C) (zAw (zRo own nn) ad sz ou)) (1) (6) (zAw (zRo own nn) ad sz ou) := by
  refine zMetW (by decide) (Nat.le_of_ble_eq_true rfl) ?_
  intro p e s m below meth c ls S hr hlk hnm htab hadm hE ⟨hsz, hst, hou, hne, hoo⟩ hl
  have hx := S.1
  have hb := S.2.1
  have hE0 := hE
  have hl : lv_has ls 4 [(0, .ref (ad 0)), (1, .int (iI k0)), (2, .ref ou)] := hl
  subst hsz
  have hA0 := zAw_old hst.1 hE.2.1 hoo
  have hS : va_S (zAw (zRo own nn) ad s.heap.size ou) s.heap s.heap [] := va_S.rf
  have a0 := hst.1.2.2 0 (zRo.lo (by decide) (by decide))
  rw [hst.2.2.1] at a0
  refine lv_aload_n hx hb d_Law_write_0 rfl (lv_at hl 2 rfl) ?_
  refine zi_iconst hx hb d_Law_write_1 ?_
  refine lv_aload_n hx hb d_Law_write_2 rfl (lv_at hl 0 rfl) ?_
  refine lv_iload_n hx hb d_Law_write_3 rfl (lv_at hl 1 rfl) ?_
  refine zcX (As := [.int (iI k0)]) (rest := [.int (iI 0), .ref ou]) (pre := []) (rst := []) (xe := ⟨0, 9, 12, 19⟩) (name := "java/lang/IllegalArgumentException") S (cx2_RW_write l htl E own nn ad en St C _ k0 hk0) ⟨zcwB (n := 1) S zw_648 zw_1 zw_645 (by decide +kernel) rfl rfl ⟨Nat.le_of_ble_eq_true rfl, Nat.le_of_ble_eq_true rfl⟩, S.2.2.2.2 _ zw_646, S.2.2.2.2 _ zw_647⟩ (zPreV hE a0 rfl ⟨rfl, hst⟩) rfl hl.1 rfl (lv_room (Nat.le_of_ble_eq_true rfl)) d_Law_write_4 ⟨by (try dsimp only); omega, by (try dsimp only); omega⟩ (by rw [htab]; rfl) (fun _ _ z hz => nomatch hz) rfl (by decide) (S.2.2.2.2 _ zw_373) (zcast_IllegalArgumentException hE) hS (fun q _ h => Or.inl h) (fun q h => Or.inl h) (fun x9 H locs hq hz1 hk1 hS => ?_)
  have hou1 := hou.kept (hk1 ou hou.lt (zAo_no hne hou.lt))
  refine lv_astore_n (lv' := [(3, .ref x9), (0, .ref (ad 0)), (1, .int (iI k0)), (2, .ref ou)]) hx hb d_Law_write_12 rfl hl (by decide) rfl (fun ls hl => ?_)
  refine zi_iconst hx hb d_Law_write_13 ?_
  exact zwi S hr hlk hS (⟨rfl, hou1, ad, en, rfl, zFr_rfl, hq⟩) (by (try dsimp only); omega) (by (try dsimp only); omega) d_Law_write_14
