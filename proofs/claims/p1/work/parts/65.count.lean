set_option maxRecDepth 100000 in
set_option maxHeartbeats 4000000 in
theorem cr_Groups_greatest (l : Launch) (E : zP) (gr ta sa al mk : Nat) (gt ng : Int) : Met l y_Groups_greatest (.code y_Groups_greatest b_Groups_greatest 1 ( some FieldType.int ) :: zw) { frames := 0, cells := 0, slots := 0, locals := 0 } (zPc E [.ref gr] (zO E 5 gr [.ref ta, .ref sa, .ref al, .ref mk, .int (iI gt), .int (iI ng)])) (zR (some (.int (iI gt)))) 0 0 (fun _ => False) := by
  refine zMet (by decide) (Nat.le_of_ble_eq_true rfl) ?_
  intro p e s m below meth c ls S hr hlk hnm hE hG hl
  have hx := S.1
  have hb := S.2.1
  have hl : lv_has ls 1 [(0, .ref gr)] := hl
  refine lv_aload_n hx hb d_Groups_greatest_0 rfl (lv_at hl 0 rfl) ?_
  refine zgf S hE (ci := 5) rfl i_Groups hG 4 (by decide) zw_106 rfl d_Groups_greatest_1 ?_
  exact zretI S hr hlk d_Groups_greatest_4 (rfl)

set_option maxRecDepth 100000 in
set_option maxHeartbeats 4000000 in
theorem cr_Groups_namesGiven (l : Launch) (E : zP) (gr ta sa al mk : Nat) (gt ng : Int) : Met l y_Groups_namesGiven (.code y_Groups_namesGiven b_Groups_namesGiven 1 ( some FieldType.int ) :: zw) { frames := 0, cells := 0, slots := 0, locals := 0 } (zPc E [.ref gr] (zO E 5 gr [.ref ta, .ref sa, .ref al, .ref mk, .int (iI gt), .int (iI ng)])) (zR (some (.int (iI ng)))) 0 0 (fun _ => False) := by
  refine zMet (by decide) (Nat.le_of_ble_eq_true rfl) ?_
  intro p e s m below meth c ls S hr hlk hnm hE hG hl
  have hx := S.1
  have hb := S.2.1
  have hl : lv_has ls 1 [(0, .ref gr)] := hl
  refine lv_aload_n hx hb d_Groups_namesGiven_0 rfl (lv_at hl 0 rfl) ?_
  refine zgf S hE (ci := 5) rfl i_Groups hG 5 (by decide) zw_107 rfl d_Groups_namesGiven_1 ?_
  exact zretI S hr hlk d_Groups_namesGiven_4 (rfl)

def sp_count (k : Int) (a b c d : Int) : Int := if k = 0 then a else if k = 1 then b else if k = 2 then c else if k = 3 then d else -1
set_option maxRecDepth 100000 in
set_option maxHeartbeats 4000000 in
theorem c_RW_count (l : Launch) (E : zP) (x en tx gr h w ca rb t1 t2 ta sa al mk : Nat) (lc lo gt ng : Int) (fl : Bool) (b bo : List Nat) (k : Int) (hk : r32 k) : Met l y_RW_count (.code y_RW_count b_RW_count 2 ( some FieldType.int ) :: zw) { frames := 1, cells := 0, slots := 0, locals := 20 } (zPc E [.ref x, .int (iI k)] (fun H => zO E 0 x [.ref en, .ref tx, .ref gr, .ref h, .ref w, .int (iI lc), .int (iI lo)] H ∧ zO E 6 h [.ref en, .ref ca, .ref rb, .ref t1, .ref t2, .int (iI (bN fl))] H ∧ zO E 5 gr [.ref ta, .ref sa, .ref al, .ref mk, .int (iI gt), .int (iI ng)] H ∧ zrow E tx b H ∧ zrow E rb bo H)) (zR (some (.int (iI (sp_count k ((b.length : Nat) : Int) ((bo.length : Nat) : Int) gt ng))))) 0 0 (fun _ => False) := by
  refine zMet (by decide) (Nat.le_of_ble_eq_true rfl) ?_
  intro p e s m below meth c ls S hr hlk hnm hE ⟨hX, hH, hG, htx, hrb⟩ hl
  have hx := S.1
  have hb := S.2.1
  have hl : lv_has ls 2 [(0, .ref x), (1, .int (iI k))] := hl
  obtain ⟨hka, hkb⟩ := hk
  refine lv_iload_n hx hb d_RW_count_0 rfl (lv_at hl 1 rfl) ?_
  by_cases e0 : k = 0
  · refine W.eq (g2 := F0 m 1 ls [.int (iI 0)]) (by rw [e0]) ?_
    refine lv_tableIn (off := 31) (tgt := 32) hx hb d_RW_count_1 (by decide) (by decide) rfl rfl ?_
    refine lv_aload_n hx hb d_RW_count_32 rfl (lv_at hl 0 rfl) ?_
    refine zgf S hE (ci := 0) rfl i_RW hX 1 (by decide) zw_230 rfl d_RW_count_33 ?_
    refine zcR (va_runV (As := []) (rest := []) S (c_Row_length l E tx b) ⟨zcwB (n := 0) S zw_258 zw_2 zw_255 (by decide +kernel) rfl rfl ⟨Nat.le_of_ble_eq_true rfl, Nat.le_of_ble_eq_true rfl⟩, S.2.2.2.2 _ zw_256, S.2.2.2.2 _ zw_257⟩ (zPreVrow hE htx htx) rfl rfl hl.1 rfl (lv_room (Nat.le_of_ble_eq_true rfl)) d_RW_count_36 ⟨Nat.zero_le _, Nat.zero_le _⟩) ?_
    exact zretI S hr hlk d_RW_count_39 (congrArg iI (by unfold sp_count; simp [*]))
  by_cases e1 : k = 1
  · refine W.eq (g2 := F0 m 1 ls [.int (iI 1)]) (by rw [e1]) ?_
    refine lv_tableIn (off := 39) (tgt := 40) hx hb d_RW_count_1 (by decide) (by decide) rfl rfl ?_
    refine lv_aload_n hx hb d_RW_count_40 rfl (lv_at hl 0 rfl) ?_
    refine zgf S hE (ci := 0) rfl i_RW hX 3 (by decide) zw_232 rfl d_RW_count_41 ?_
    refine zcR (va_runV (As := []) (rest := []) S (c_Output_bytes l E h en ca rb t1 t2 fl) ⟨zcwB (n := 0) S zw_262 zw_8 zw_259 (by decide +kernel) rfl rfl ⟨Nat.le_of_ble_eq_true rfl, Nat.le_of_ble_eq_true rfl⟩, S.2.2.2.2 _ zw_260, S.2.2.2.2 _ zw_261⟩ (zPreV hE hH rfl hH) rfl rfl hl.1 rfl (lv_room (Nat.le_of_ble_eq_true rfl)) d_RW_count_44 ⟨Nat.zero_le _, Nat.zero_le _⟩) ?_
    refine zcR (va_runV (As := []) (rest := []) S (c_Row_length l E rb bo) ⟨zcwB (n := 0) S zw_258 zw_2 zw_255 (by decide +kernel) rfl rfl ⟨Nat.le_of_ble_eq_true rfl, Nat.le_of_ble_eq_true rfl⟩, S.2.2.2.2 _ zw_256, S.2.2.2.2 _ zw_257⟩ (zPreVrow hE hrb hrb) rfl rfl hl.1 rfl (lv_room (Nat.le_of_ble_eq_true rfl)) d_RW_count_47 ⟨Nat.zero_le _, Nat.zero_le _⟩) ?_
    exact zretI S hr hlk d_RW_count_50 (congrArg iI (by unfold sp_count; simp [*]))
  by_cases e2 : k = 2
  · refine W.eq (g2 := F0 m 1 ls [.int (iI 2)]) (by rw [e2]) ?_
    refine lv_tableIn (off := 50) (tgt := 51) hx hb d_RW_count_1 (by decide) (by decide) rfl rfl ?_
    refine lv_aload_n hx hb d_RW_count_51 rfl (lv_at hl 0 rfl) ?_
    refine zgf S hE (ci := 0) rfl i_RW hX 2 (by decide) zw_231 rfl d_RW_count_52 ?_
    refine zcR (va_runV (As := []) (rest := []) S (cr_Groups_greatest l E gr ta sa al mk gt ng) ⟨zcwB (n := 0) S zw_266 zw_3 zw_263 (by decide +kernel) rfl rfl ⟨Nat.le_of_ble_eq_true rfl, Nat.le_of_ble_eq_true rfl⟩, S.2.2.2.2 _ zw_264, S.2.2.2.2 _ zw_265⟩ (zPreV hE hG rfl hG) rfl rfl hl.1 rfl (lv_room (Nat.le_of_ble_eq_true rfl)) d_RW_count_55 ⟨Nat.zero_le _, Nat.zero_le _⟩) ?_
    exact zretI S hr hlk d_RW_count_58 (congrArg iI (by unfold sp_count; simp [*]))
  by_cases e3 : k = 3
  · refine W.eq (g2 := F0 m 1 ls [.int (iI 3)]) (by rw [e3]) ?_
    refine lv_tableIn (off := 58) (tgt := 59) hx hb d_RW_count_1 (by decide) (by decide) rfl rfl ?_
    refine lv_aload_n hx hb d_RW_count_59 rfl (lv_at hl 0 rfl) ?_
    refine zgf S hE (ci := 0) rfl i_RW hX 2 (by decide) zw_231 rfl d_RW_count_60 ?_
    refine zcR (va_runV (As := []) (rest := []) S (cr_Groups_namesGiven l E gr ta sa al mk gt ng) ⟨zcwB (n := 0) S zw_270 zw_3 zw_267 (by decide +kernel) rfl rfl ⟨Nat.le_of_ble_eq_true rfl, Nat.le_of_ble_eq_true rfl⟩, S.2.2.2.2 _ zw_268, S.2.2.2.2 _ zw_269⟩ (zPreV hE hG rfl hG) rfl rfl hl.1 rfl (lv_room (Nat.le_of_ble_eq_true rfl)) d_RW_count_63 ⟨Nat.zero_le _, Nat.zero_le _⟩) ?_
    exact zretI S hr hlk d_RW_count_66 (congrArg iI (by unfold sp_count; simp [*]))
  refine lv_tableOut (tgt := 67) hx hb d_RW_count_1 (by rw [iI_toInt ⟨by omega, by omega⟩]; omega) rfl ?_
  refine zi_iconst hx hb d_RW_count_67 ?_
  exact zretI S hr hlk d_RW_count_68 (congrArg iI (by unfold sp_count; simp [*]))
