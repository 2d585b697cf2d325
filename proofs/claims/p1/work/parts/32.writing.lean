set_option maxRecDepth 100000 in
set_option maxHeartbeats 4000000 in
theorem c_Writing_peek (l : Launch) (E : zP) (w tx gr h en es : Nat) (rich uemp uunk : Bool) (cd of : Int) (utf : Bool) (t : List Nat) (k j : Int) (hk : r32 k) (hj : r32 j) : Met l y_Writing_peek (.code y_Writing_peek b_Writing_peek 3 ( some FieldType.int ) :: zw) { frames := 1, cells := 0, slots := 0, locals := 21 } (zPc E [.ref w, .int (iI k), .int (iI j)] (fun H => zO E 8 w [.ref tx, .ref gr, .ref h, .ref en, .ref es, .int (iI (bN rich)), .int (iI (bN uemp)), .int (iI (bN uunk)), .int (iI cd), .int (iI of)] H ∧ zrow E tx (sp_encs utf t) H)) (zR (some (.int (iI (sp_pk (sp_encs utf t) k j))))) 0 0 (fun _ => False) := by
  refine zMet (by decide) (Nat.le_of_ble_eq_true rfl) ?_
  intro p e s m below meth c ls S hr hlk hnm hE ⟨hp, hrow⟩ hl
  have hx := S.1
  have hb := S.2.1
  have hl : lv_has ls 3 [(0, .ref w), (1, .int (iI k)), (2, .int (iI j))] := hl
  have hbl := zrow.len hrow
  refine lv_iload_n hx hb d_Writing_peek_0 rfl (lv_at hl 1 rfl) ?_
  refine lv_iload_n hx hb d_Writing_peek_1 rfl (lv_at hl 2 rfl) ?_
  refine zi_icmp_ge hx hb d_Writing_peek_2 rfl (by omega) (by omega) (fun h2 => ?_) (fun h2 => ?_)
  · refine zi_iconst hx hb d_Writing_peek_16 ?_
    exact zretI S hr hlk d_Writing_peek_17 (congrArg iI (by unfold sp_pk; first | rw [if_pos (by omega)] | rw [if_neg (by omega)]))
  · refine lv_aload_n hx hb d_Writing_peek_5 rfl (lv_at hl 0 rfl) ?_
    refine zgf S hE (ci := 8) rfl i_Writing hp 0 (by decide) zw_198 rfl d_Writing_peek_6 ?_
    refine lv_iload_n hx hb d_Writing_peek_9 rfl (lv_at hl 1 rfl) ?_
    refine zcR (va_runV (As := [.int (iI k)]) (rest := []) S (c_Row_at l E tx (sp_encs utf t) k (by omega)) ⟨zcwB (n := 1) S zw_437 zw_2 zw_692 (by decide +kernel) rfl rfl ⟨Nat.le_of_ble_eq_true rfl, Nat.le_of_ble_eq_true rfl⟩, S.2.2.2.2 _ zw_435, S.2.2.2.2 _ zw_436⟩ (zPreVrow hE hrow hrow) rfl rfl hl.1 rfl (lv_room (Nat.le_of_ble_eq_true rfl)) d_Writing_peek_10 ⟨Nat.zero_le _, Nat.zero_le _⟩) ?_
    have hb10 := sp_at_r (sp_encs utf t) k (zrow.lt hrow)
    refine lv_goto hx hb d_Writing_peek_13 rfl ?_
    exact zretI S hr hlk d_Writing_peek_17 (congrArg iI (by unfold sp_pk; first | rw [if_pos (by omega)] | rw [if_neg (by omega)]))

set_option maxRecDepth 100000 in
set_option maxHeartbeats 4000000 in
theorem c_Writing_referenceEnd (l : Launch) (E : zP) (w tx gr h en es : Nat) (rich uemp uunk : Bool) (cd of : Int) (utf : Bool) (t : List Nat) (i j : Nat) (hie : i ≤ j) (he : j ≤ t.length) (htl : (sp_encs utf t).length ≤ 65536) : Met l y_Writing_referenceEnd (.code y_Writing_referenceEnd b_Writing_referenceEnd 5 ( some FieldType.int ) :: zw) { frames := 3, cells := 0, slots := 0, locals := 60 } (zPc E [.ref w, .int (iI ((sp_off utf t i : Nat) : Int)), .int (iI ((sp_off utf t j : Nat) : Int))] (fun H => zO E 8 w [.ref tx, .ref gr, .ref h, .ref en, .ref es, .int (iI (bN rich)), .int (iI (bN uemp)), .int (iI (bN uunk)), .int (iI cd), .int (iI of)] H ∧ zrow E tx (sp_encs utf t) H)) (zR (some (.int (iI ((sp_off utf t (sp_refEnd t i j) : Nat) : Int))))) 0 0 (fun _ => False) := by
  refine zMet (by decide) (Nat.le_of_ble_eq_true rfl) ?_
  intro p e s m below meth c ls S hr hlk hnm hE ⟨hp, hrow⟩ hl
  have hx := S.1
  have hb := S.2.1
  have hl : lv_has ls 5 [(0, .ref w), (1, .int (iI ((sp_off utf t i : Nat) : Int))), (2, .int (iI ((sp_off utf t j : Nat) : Int)))] := hl
  have hbl := zrow.len hrow
  have hbe := sp_off_le_len utf he
  have hbi := sp_off_le_len utf (t := t) (i := i) (by omega)
  have hmn := sp_off_mono utf hie he
  refine lv_iload_n hx hb d_Writing_referenceEnd_0 rfl (lv_at hl 1 rfl) ?_
  refine lv_istore_n (lv' := [(3, .int (iI ((sp_off utf t i : Nat) : Int))), (0, .ref w), (1, .int (iI ((sp_off utf t i : Nat) : Int))), (2, .int (iI ((sp_off utf t j : Nat) : Int)))]) hx hb d_Writing_referenceEnd_1 rfl hl (by decide) rfl (fun ls hl => ?_)
  refine lv_aload_n hx hb d_Writing_referenceEnd_2 rfl (lv_at hl 1 rfl) ?_
  refine lv_iload_n hx hb d_Writing_referenceEnd_3 rfl (lv_at hl 2 rfl) ?_
  refine lv_iload_n hx hb d_Writing_referenceEnd_4 rfl (lv_at hl 3 rfl) ?_
  refine zcR (va_runV (As := [.int (iI ((sp_off utf t i : Nat) : Int)), .int (iI ((sp_off utf t j : Nat) : Int))]) (rest := []) S (c_Writing_peek l E w tx gr h en es rich uemp uunk cd of utf t ((sp_off utf t i : Nat) : Int) ((sp_off utf t j : Nat) : Int) (by omega) (by omega)) ⟨zcwB (n := 2) S zw_700 zw_12 zw_697 (by decide +kernel) rfl rfl ⟨Nat.le_of_ble_eq_true rfl, Nat.le_of_ble_eq_true rfl⟩, S.2.2.2.2 _ zw_699, S.2.2.2.2 _ zs_9⟩ (zPreV hE hp rfl ⟨hp, hrow⟩) rfl rfl hl.1 rfl (lv_room (Nat.le_of_ble_eq_true rfl)) d_Writing_referenceEnd_5 ⟨Nat.zero_le _, Nat.zero_le _⟩) ?_
  have hs5 := sp_pk_see utf (t := t) (i := i) (e := j) (by omega) (by omega)
  have hr5 := sp_pk_r (sp_encs utf t) ((sp_off utf t i : Nat) : Int) ((sp_off utf t j : Nat) : Int) (zrow.lt hrow)
  obtain ⟨z5, ez5⟩ : ∃ x, x = sp_pk (sp_encs utf t) ((sp_off utf t i : Nat) : Int) ((sp_off utf t j : Nat) : Int) := ⟨_, rfl⟩
  rw [← ez5] at hs5 hr5
  rw [← ez5]
  refine zcR (va_runS (As := [.int (iI z5)]) (rest := []) S (c_Ascii_isDigit l E z5 (by omega)) ⟨zcwB (n := 1) S zw_519 zw_27 zw_716 (by decide +kernel) rfl rfl ⟨Nat.le_of_ble_eq_true rfl, Nat.le_of_ble_eq_true rfl⟩, S.2.2.2.2 _ zw_518⟩ (zPreS hE trivial) rfl rfl hl.1 rfl (lv_room (Nat.le_of_ble_eq_true rfl)) d_Writing_referenceEnd_8 ⟨Nat.zero_le _, Nat.zero_le _⟩) ?_
  rw [sp_dig_asc hs5]
  refine zb_ifeq hx hb d_Writing_referenceEnd_11 rfl (fun h11 => ?_) (fun h11 => ?_)
  · refine lv_iload_n hx hb d_Writing_referenceEnd_41 rfl (lv_at hl 3 rfl) ?_
    refine lv_iload_n hx hb d_Writing_referenceEnd_42 rfl (lv_at hl 2 rfl) ?_
    refine zi_bipush hx hb d_Writing_referenceEnd_43 (by decide) ?_
    refine zi_iadd hx hb d_Writing_referenceEnd_45 ?_
    refine zcR (va_runS (As := [.int (iI ((sp_off utf t j : Nat) : Int)), .int (iI (((sp_off utf t i : Nat) : Int) + 32))]) (rest := []) S (c_Math_min l E ((sp_off utf t j : Nat) : Int) (((sp_off utf t i : Nat) : Int) + 32) (by omega) (by omega)) ⟨zcwB (n := 2) S zw_366 zw_23 zw_717 (by decide +kernel) rfl rfl ⟨Nat.le_of_ble_eq_true rfl, Nat.le_of_ble_eq_true rfl⟩, S.2.2.2.2 _ zw_365⟩ (zPreS hE trivial) rfl rfl hl.1 rfl (lv_room (Nat.le_of_ble_eq_true rfl)) d_Writing_referenceEnd_46 ⟨Nat.zero_le _, Nat.zero_le _⟩) ?_
    refine lv_istore (lv' := [(4, .int (iI (min ((sp_off utf t j : Nat) : Int) (((sp_off utf t i : Nat) : Int) + 32)))), (3, .int (iI ((sp_off utf t i : Nat) : Int))), (0, .ref w), (1, .int (iI ((sp_off utf t i : Nat) : Int))), (2, .int (iI ((sp_off utf t j : Nat) : Int)))]) hx hb d_Writing_referenceEnd_49 hl (by decide) rfl (fun ls hl => ?_)
    have key : ∃ (k : Nat), (i ≤ k ∧ k ≤ min j (i + 32) ∧ sp_off utf t k = sp_off utf t i + (k - i) ∧ sp_to sp_wrd t k (min j (i + 32)) = sp_to sp_wrd t i (min j (i + 32))) ∧ lv_has ls 5 [(4, .int (iI (min ((sp_off utf t j : Nat) : Int) (((sp_off utf t i : Nat) : Int) + 32)))), (3, .int (iI ((sp_off utf t k : Nat) : Int))), (0, .ref w), (1, .int (iI ((sp_off utf t i : Nat) : Int))), (2, .int (iI ((sp_off utf t j : Nat) : Int)))] := ⟨i, ⟨by omega, by omega, by omega, rfl⟩, hl⟩
    clear hl
    obtain ⟨k, hinv, hl⟩ := key
    obtain ⟨n, hn⟩ : ∃ n : Nat, j - k < n := ⟨_, Nat.lt_succ_self _⟩
    induction n generalizing k ls with
    | zero => exact absurd hn (Nat.not_lt_zero _)
    | succ n ih =>
      obtain ⟨h1, h2, h3, h4⟩ := hinv
      have hke := sp_off_lt utf (t := t) (i := k) (j := j) (by omega) (by omega); have hbk := sp_off_le_len utf (t := t) (i := k) (by omega)
      refine lv_iload_n hx hb d_Writing_referenceEnd_51 rfl (lv_at hl 1 rfl) ?_
      refine lv_iload hx hb d_Writing_referenceEnd_52 (lv_at hl 0 rfl) ?_
      refine zi_icmp_ge hx hb d_Writing_referenceEnd_54 rfl (by omega) (by omega) (fun h54 => ?_) (fun h54 => ?_)
      · refine lv_iload_n hx hb d_Writing_referenceEnd_77 rfl (lv_at hl 1 rfl) ?_
        exact zretI S hr hlk d_Writing_referenceEnd_78 (congrArg iI (by rw [show sp_refEnd t i j = sp_to sp_wrd t i (min j (i + 32)) from if_neg (by rw [h11]; decide), ← h4]; first | rw [sp_to_end (by omega)] | rw [sp_to_stop h68]))
      · refine lv_aload_n hx hb d_Writing_referenceEnd_57 rfl (lv_at hl 2 rfl) ?_
        refine zgf S hE (ci := 8) rfl i_Writing hp 0 (by decide) zw_198 rfl d_Writing_referenceEnd_58 ?_
        refine lv_iload_n hx hb d_Writing_referenceEnd_61 rfl (lv_at hl 1 rfl) ?_
        refine zcR (va_runV (As := [.int (iI ((sp_off utf t k : Nat) : Int))]) (rest := []) S (c_Row_at l E tx (sp_encs utf t) ((sp_off utf t k : Nat) : Int) (by omega)) ⟨zcwB (n := 1) S zw_437 zw_2 zw_692 (by decide +kernel) rfl rfl ⟨Nat.le_of_ble_eq_true rfl, Nat.le_of_ble_eq_true rfl⟩, S.2.2.2.2 _ zw_435, S.2.2.2.2 _ zw_436⟩ (zPreVrow hE hrow hrow) rfl rfl hl.1 rfl (lv_room (Nat.le_of_ble_eq_true rfl)) d_Writing_referenceEnd_62 ⟨Nat.zero_le _, Nat.zero_le _⟩) ?_
        rw [sp_at_in (n := sp_off utf t k) (by omega) (sp_off_lt_len (by omega))]
        have hb62 := sp_b_lt (zrow.lt hrow) (sp_off utf t k)
        have hasc := sp_off_b (utf := utf) (t := t) (i := k) (by omega)
        refine zcR (va_runS (As := [.int (iI ((sp_b (sp_encs utf t) (sp_off utf t k) : Nat) : Int))]) (rest := []) S (c_Ascii_isWord l E ((sp_b (sp_encs utf t) (sp_off utf t k) : Nat) : Int) (by omega)) ⟨zcwB (n := 1) S zw_522 zw_27 zw_718 (by decide +kernel) rfl rfl ⟨Nat.le_of_ble_eq_true rfl, Nat.le_of_ble_eq_true rfl⟩, S.2.2.2.2 _ zw_521⟩ (zPreS hE trivial) rfl rfl hl.1 rfl (lv_room (Nat.le_of_ble_eq_true rfl)) d_Writing_referenceEnd_65 ⟨Nat.zero_le _, Nat.zero_le _⟩) ?_
        rw [sp_wrd_asc (show ((sp_b (sp_encs utf t) (sp_off utf t k) : Nat) : Int) = ((t.getD k 0 : Nat) : Int) ∨ (128 ≤ ((sp_b (sp_encs utf t) (sp_off utf t k) : Nat) : Int) ∧ 128 ≤ ((t.getD k 0 : Nat) : Int)) by omega)]
        refine zb_ifeq hx hb d_Writing_referenceEnd_68 rfl (fun h68 => ?_) (fun h68 => ?_)
        · refine lv_iload_n hx hb d_Writing_referenceEnd_77 rfl (lv_at hl 1 rfl) ?_
          exact zretI S hr hlk d_Writing_referenceEnd_78 (congrArg iI (by rw [show sp_refEnd t i j = sp_to sp_wrd t i (min j (i + 32)) from if_neg (by rw [h11]; decide), ← h4]; first | rw [sp_to_end (by omega)] | rw [sp_to_stop h68]))
        · have hrg := sp_wrd_r h68
          have hsc : sp_off utf t (k + 1) = sp_off utf t k + 1 := sp_off_asc utf (by omega) (by omega)
          refine lv_iinc (k := 1) (v := iI ((sp_off utf t (k + 1) : Nat) : Int)) (lv' := [(3, .int (iI ((sp_off utf t (k + 1) : Nat) : Int))), (4, .int (iI (min ((sp_off utf t j : Nat) : Int) (((sp_off utf t i : Nat) : Int) + 32)))), (0, .ref w), (1, .int (iI ((sp_off utf t i : Nat) : Int))), (2, .int (iI ((sp_off utf t j : Nat) : Int)))]) hx hb d_Writing_referenceEnd_71 hl rfl (by rw [show Int32.ofInt 1 = iI 1 from rfl, iI_add]; congr 1; omega) (by decide) rfl (fun ls hl => ?_)
          refine lv_goto hx hb d_Writing_referenceEnd_74 rfl ?_
          exact ih ls (k + 1) (⟨by omega, by omega, by omega, by rw [← h4]; exact (sp_to_go (by omega) h68).symm⟩) (lv_sub hl [1, 0, 2, 3, 4] rfl) (by omega)
  · have key : ∃ (k : Nat), (i ≤ k ∧ k ≤ j ∧ sp_off utf t k = sp_off utf t i + (k - i) ∧ sp_to sp_dig t k (j) = sp_to sp_dig t i (j)) ∧ lv_has ls 5 [(3, .int (iI ((sp_off utf t k : Nat) : Int))), (0, .ref w), (1, .int (iI ((sp_off utf t i : Nat) : Int))), (2, .int (iI ((sp_off utf t j : Nat) : Int)))] := ⟨i, ⟨by omega, by omega, by omega, rfl⟩, hl⟩
    clear hl
    obtain ⟨k, hinv, hl⟩ := key
    obtain ⟨n, hn⟩ : ∃ n : Nat, j - k < n := ⟨_, Nat.lt_succ_self _⟩
    induction n generalizing k ls with
    | zero => exact absurd hn (Nat.not_lt_zero _)
    | succ n ih =>
      obtain ⟨h1, h2, h3, h4⟩ := hinv
      have hke := sp_off_lt utf (t := t) (i := k) (j := j) (by omega) (by omega); have hbk := sp_off_le_len utf (t := t) (i := k) (by omega)
      refine lv_iload_n hx hb d_Writing_referenceEnd_14 rfl (lv_at hl 0 rfl) ?_
      refine lv_iload_n hx hb d_Writing_referenceEnd_15 rfl (lv_at hl 3 rfl) ?_
      refine zi_icmp_ge hx hb d_Writing_referenceEnd_16 rfl (by omega) (by omega) (fun h16 => ?_) (fun h16 => ?_)
      · refine lv_iload_n hx hb d_Writing_referenceEnd_39 rfl (lv_at hl 0 rfl) ?_
        exact zretI S hr hlk d_Writing_referenceEnd_40 (congrArg iI (by rw [show sp_refEnd t i j = sp_to sp_dig t i j from if_pos h11, ← h4]; first | rw [sp_to_end (by omega)] | rw [sp_to_stop h30]))
      · refine lv_aload_n hx hb d_Writing_referenceEnd_19 rfl (lv_at hl 1 rfl) ?_
        refine zgf S hE (ci := 8) rfl i_Writing hp 0 (by decide) zw_198 rfl d_Writing_referenceEnd_20 ?_
        refine lv_iload_n hx hb d_Writing_referenceEnd_23 rfl (lv_at hl 0 rfl) ?_
        refine zcR (va_runV (As := [.int (iI ((sp_off utf t k : Nat) : Int))]) (rest := []) S (c_Row_at l E tx (sp_encs utf t) ((sp_off utf t k : Nat) : Int) (by omega)) ⟨zcwB (n := 1) S zw_437 zw_2 zw_692 (by decide +kernel) rfl rfl ⟨Nat.le_of_ble_eq_true rfl, Nat.le_of_ble_eq_true rfl⟩, S.2.2.2.2 _ zw_435, S.2.2.2.2 _ zw_436⟩ (zPreVrow hE hrow hrow) rfl rfl hl.1 rfl (lv_room (Nat.le_of_ble_eq_true rfl)) d_Writing_referenceEnd_24 ⟨Nat.zero_le _, Nat.zero_le _⟩) ?_
        rw [sp_at_in (n := sp_off utf t k) (by omega) (sp_off_lt_len (by omega))]
        have hb24 := sp_b_lt (zrow.lt hrow) (sp_off utf t k)
        have hasc := sp_off_b (utf := utf) (t := t) (i := k) (by omega)
        refine zcR (va_runS (As := [.int (iI ((sp_b (sp_encs utf t) (sp_off utf t k) : Nat) : Int))]) (rest := []) S (c_Ascii_isDigit l E ((sp_b (sp_encs utf t) (sp_off utf t k) : Nat) : Int) (by omega)) ⟨zcwB (n := 1) S zw_519 zw_27 zw_716 (by decide +kernel) rfl rfl ⟨Nat.le_of_ble_eq_true rfl, Nat.le_of_ble_eq_true rfl⟩, S.2.2.2.2 _ zw_518⟩ (zPreS hE trivial) rfl rfl hl.1 rfl (lv_room (Nat.le_of_ble_eq_true rfl)) d_Writing_referenceEnd_27 ⟨Nat.zero_le _, Nat.zero_le _⟩) ?_
        rw [sp_dig_asc (show ((sp_b (sp_encs utf t) (sp_off utf t k) : Nat) : Int) = ((t.getD k 0 : Nat) : Int) ∨ (128 ≤ ((sp_b (sp_encs utf t) (sp_off utf t k) : Nat) : Int) ∧ 128 ≤ ((t.getD k 0 : Nat) : Int)) by omega)]
        refine zb_ifeq hx hb d_Writing_referenceEnd_30 rfl (fun h30 => ?_) (fun h30 => ?_)
        · refine lv_iload_n hx hb d_Writing_referenceEnd_39 rfl (lv_at hl 0 rfl) ?_
          exact zretI S hr hlk d_Writing_referenceEnd_40 (congrArg iI (by rw [show sp_refEnd t i j = sp_to sp_dig t i j from if_pos h11, ← h4]; first | rw [sp_to_end (by omega)] | rw [sp_to_stop h30]))
        · have hrg := sp_dig_r h30
          have hsc : sp_off utf t (k + 1) = sp_off utf t k + 1 := sp_off_asc utf (by omega) (by omega)
          refine lv_iinc (k := 0) (v := iI ((sp_off utf t (k + 1) : Nat) : Int)) (lv' := [(3, .int (iI ((sp_off utf t (k + 1) : Nat) : Int))), (0, .ref w), (1, .int (iI ((sp_off utf t i : Nat) : Int))), (2, .int (iI ((sp_off utf t j : Nat) : Int)))]) hx hb d_Writing_referenceEnd_33 hl rfl (by rw [show Int32.ofInt 1 = iI 1 from rfl, iI_add]; congr 1; omega) (by decide) rfl (fun ls hl => ?_)
          refine lv_goto hx hb d_Writing_referenceEnd_36 rfl ?_
          exact ih ls (k + 1) (⟨by omega, by omega, by omega, by rw [← h4]; exact (sp_to_go (by omega) h30).symm⟩) (lv_sub hl [0, 1, 2, 3] rfl) (by omega)
