set_option maxRecDepth 100000 in
set_option maxHeartbeats 4000000 in
theorem c_Encoding_lengthOf (l : Launch) (E : zP) (h : Nat) (utf : Bool) (k : Nat) (hk : k < 2147483648) : Met l y_Encoding_lengthOf (.code y_Encoding_lengthOf b_Encoding_lengthOf 2 ( some FieldType.int ) :: zw) { frames := 0, cells := 0, slots := 0, locals := 0 } (zPc E [.ref h, .int (iI ((k : Nat) : Int))] (zO E 2 h [.int (iI (bN utf))])) (zR (some (.int (iI (sp_len utf k : Nat))))) 0 0 (fun _ => False) := by
  refine zMet (by decide) (Nat.le_of_ble_eq_true rfl) ?_
  intro p e s m below meth c ls S hr hlk hnm hE hp hl
  have hx := S.1
  have hb := S.2.1
  have hl : lv_has ls 2 [(0, .ref h), (1, .int (iI ((k : Nat) : Int)))] := hl
  refine lv_aload_n hx hb d_Encoding_lengthOf_0 rfl (lv_at hl 0 rfl) ?_
  refine zgf S hE (ci := 2) rfl i_Encoding hp 0 (by decide) zw_127 rfl d_Encoding_lengthOf_1 ?_
  refine zb_ifeq hx hb d_Encoding_lengthOf_4 rfl (fun h4 => ?_) (fun h4 => ?_)
  · refine zi_iconst hx hb d_Encoding_lengthOf_14 ?_
    exact zretI S hr hlk d_Encoding_lengthOf_15 (congrArg iI (by subst h4; unfold sp_len; simp only [Bool.true_eq_false, Bool.false_eq_true, reduceCtorEq, false_or, true_or, if_true, if_false, ite_true]; first | rfl | ((repeat' split) <;> omega)))
  · refine lv_iload_n hx hb d_Encoding_lengthOf_7 rfl (lv_at hl 1 rfl) ?_
    refine zi_sipush hx hb d_Encoding_lengthOf_8 (by decide) ?_
    refine zi_icmp_ge hx hb d_Encoding_lengthOf_11 rfl (by omega) (by omega) (fun h11 => ?_) (fun h11 => ?_)
    · refine lv_iload_n hx hb d_Encoding_lengthOf_16 rfl (lv_at hl 1 rfl) ?_
      refine zi_sipush hx hb d_Encoding_lengthOf_17 (by decide) ?_
      refine zi_icmp_ge hx hb d_Encoding_lengthOf_20 rfl (by omega) (by omega) (fun h20 => ?_) (fun h20 => ?_)
      · refine lv_iload_n hx hb d_Encoding_lengthOf_25 rfl (lv_at hl 1 rfl) ?_
        refine zldc (n := 65536) S zw_458 (by decide) d_Encoding_lengthOf_26 ?_
        refine zi_icmp_ge hx hb d_Encoding_lengthOf_28 rfl (by omega) (by omega) (fun h28 => ?_) (fun h28 => ?_)
        · refine zi_iconst hx hb d_Encoding_lengthOf_35 ?_
          exact zretI S hr hlk d_Encoding_lengthOf_36 (congrArg iI (by subst h4; unfold sp_len; simp only [Bool.true_eq_false, Bool.false_eq_true, reduceCtorEq, false_or, true_or, if_true, if_false, ite_true]; first | rfl | ((repeat' split) <;> omega)))
        · refine zi_iconst hx hb d_Encoding_lengthOf_31 ?_
          refine lv_goto hx hb d_Encoding_lengthOf_32 rfl ?_
          exact zretI S hr hlk d_Encoding_lengthOf_36 (congrArg iI (by subst h4; unfold sp_len; simp only [Bool.true_eq_false, Bool.false_eq_true, reduceCtorEq, false_or, true_or, if_true, if_false, ite_true]; first | rfl | ((repeat' split) <;> omega)))
      · refine zi_iconst hx hb d_Encoding_lengthOf_23 ?_
        exact zretI S hr hlk d_Encoding_lengthOf_24 (congrArg iI (by subst h4; unfold sp_len; simp only [Bool.true_eq_false, Bool.false_eq_true, reduceCtorEq, false_or, true_or, if_true, if_false, ite_true]; first | rfl | ((repeat' split) <;> omega)))
    · refine zi_iconst hx hb d_Encoding_lengthOf_14 ?_
      exact zretI S hr hlk d_Encoding_lengthOf_15 (congrArg iI (by subst h4; unfold sp_len; simp only [Bool.true_eq_false, Bool.false_eq_true, reduceCtorEq, false_or, true_or, if_true, if_false, ite_true]; first | rfl | ((repeat' split) <;> omega)))

set_option maxRecDepth 100000 in
set_option maxHeartbeats 4000000 in
theorem c_Encoding_lengthBehind (l : Launch) (E : zP) (h : Nat) (utf : Bool) (k : Nat) (hk : k < 256) : Met l y_Encoding_lengthBehind (.code y_Encoding_lengthBehind b_Encoding_lengthBehind 2 ( some FieldType.int ) :: zw) { frames := 0, cells := 0, slots := 0, locals := 0 } (zPc E [.ref h, .int (iI ((k : Nat) : Int))] (zO E 2 h [.int (iI (bN utf))])) (zR (some (.int (iI (sp_lead utf k : Nat))))) 0 0 (fun _ => False) := by
  refine zMet (by decide) (Nat.le_of_ble_eq_true rfl) ?_
  intro p e s m below meth c ls S hr hlk hnm hE hp hl
  have hx := S.1
  have hb := S.2.1
  have hl : lv_has ls 2 [(0, .ref h), (1, .int (iI ((k : Nat) : Int)))] := hl
  refine lv_aload_n hx hb d_Encoding_lengthBehind_0 rfl (lv_at hl 0 rfl) ?_
  refine zgf S hE (ci := 2) rfl i_Encoding hp 0 (by decide) zw_127 rfl d_Encoding_lengthBehind_1 ?_
  refine zb_ifeq hx hb d_Encoding_lengthBehind_4 rfl (fun h4 => ?_) (fun h4 => ?_)
  · refine zi_iconst hx hb d_Encoding_lengthBehind_14 ?_
    exact zretI S hr hlk d_Encoding_lengthBehind_15 (congrArg iI (by subst h4; unfold sp_lead; simp only [Bool.true_eq_false, Bool.false_eq_true, reduceCtorEq, false_or, true_or, if_true, if_false, ite_true]; first | rfl | ((repeat' split) <;> omega)))
  · refine lv_iload_n hx hb d_Encoding_lengthBehind_7 rfl (lv_at hl 1 rfl) ?_
    refine zi_sipush hx hb d_Encoding_lengthBehind_8 (by decide) ?_
    refine zi_icmp_ge hx hb d_Encoding_lengthBehind_11 rfl (by omega) (by omega) (fun h11 => ?_) (fun h11 => ?_)
    · refine lv_iload_n hx hb d_Encoding_lengthBehind_16 rfl (lv_at hl 1 rfl) ?_
      refine zi_sipush hx hb d_Encoding_lengthBehind_17 (by decide) ?_
      refine zi_icmp_lt hx hb d_Encoding_lengthBehind_20 rfl (by omega) (by omega) (fun h20 => ?_) (fun h20 => ?_)
      · refine zi_iconst hx hb d_Encoding_lengthBehind_30 ?_
        exact zretI S hr hlk d_Encoding_lengthBehind_31 (congrArg iI (by subst h4; unfold sp_lead; simp only [Bool.true_eq_false, Bool.false_eq_true, reduceCtorEq, false_or, true_or, if_true, if_false, ite_true]; first | rfl | ((repeat' split) <;> omega)))
      · refine lv_iload_n hx hb d_Encoding_lengthBehind_23 rfl (lv_at hl 1 rfl) ?_
        refine zi_sipush hx hb d_Encoding_lengthBehind_24 (by decide) ?_
        refine zi_icmp_le hx hb d_Encoding_lengthBehind_27 rfl (by omega) (by omega) (fun h27 => ?_) (fun h27 => ?_)
        · refine lv_iload_n hx hb d_Encoding_lengthBehind_32 rfl (lv_at hl 1 rfl) ?_
          refine zi_sipush hx hb d_Encoding_lengthBehind_33 (by decide) ?_
          refine zi_icmp_ge hx hb d_Encoding_lengthBehind_36 rfl (by omega) (by omega) (fun h36 => ?_) (fun h36 => ?_)
          · refine lv_iload_n hx hb d_Encoding_lengthBehind_41 rfl (lv_at hl 1 rfl) ?_
            refine zi_sipush hx hb d_Encoding_lengthBehind_42 (by decide) ?_
            refine zi_icmp_ge hx hb d_Encoding_lengthBehind_45 rfl (by omega) (by omega) (fun h45 => ?_) (fun h45 => ?_)
            · refine zi_iconst hx hb d_Encoding_lengthBehind_52 ?_
              exact zretI S hr hlk d_Encoding_lengthBehind_53 (congrArg iI (by subst h4; unfold sp_lead; simp only [Bool.true_eq_false, Bool.false_eq_true, reduceCtorEq, false_or, true_or, if_true, if_false, ite_true]; first | rfl | ((repeat' split) <;> omega)))
            · refine zi_iconst hx hb d_Encoding_lengthBehind_48 ?_
              refine lv_goto hx hb d_Encoding_lengthBehind_49 rfl ?_
              exact zretI S hr hlk d_Encoding_lengthBehind_53 (congrArg iI (by subst h4; unfold sp_lead; simp only [Bool.true_eq_false, Bool.false_eq_true, reduceCtorEq, false_or, true_or, if_true, if_false, ite_true]; first | rfl | ((repeat' split) <;> omega)))
          · refine zi_iconst hx hb d_Encoding_lengthBehind_39 ?_
            exact zretI S hr hlk d_Encoding_lengthBehind_40 (congrArg iI (by subst h4; unfold sp_lead; simp only [Bool.true_eq_false, Bool.false_eq_true, reduceCtorEq, false_or, true_or, if_true, if_false, ite_true]; first | rfl | ((repeat' split) <;> omega)))
        · refine zi_iconst hx hb d_Encoding_lengthBehind_30 ?_
          exact zretI S hr hlk d_Encoding_lengthBehind_31 (congrArg iI (by subst h4; unfold sp_lead; simp only [Bool.true_eq_false, Bool.false_eq_true, reduceCtorEq, false_or, true_or, if_true, if_false, ite_true]; first | rfl | ((repeat' split) <;> omega)))
    · refine zi_iconst hx hb d_Encoding_lengthBehind_14 ?_
      exact zretI S hr hlk d_Encoding_lengthBehind_15 (congrArg iI (by subst h4; unfold sp_lead; simp only [Bool.true_eq_false, Bool.false_eq_true, reduceCtorEq, false_or, true_or, if_true, if_false, ite_true]; first | rfl | ((repeat' split) <;> omega)))

set_option maxRecDepth 100000 in
set_option maxHeartbeats 4000000 in
theorem c_Encoding_exists (l : Launch) (E : zP) (h : Nat) (utf : Bool) (k : Nat) (hk : k < 1099511627776) : Met l y_Encoding_exists (.code y_Encoding_exists b_Encoding_exists 3 ( some FieldType.boolean ) :: zw) { frames := 0, cells := 0, slots := 0, locals := 0 } (zPc E [.ref h, .long (jL ((k : Nat) : Int))] (zO E 2 h [.int (iI (bN utf))])) (zR (some (.int (iI (bN (sp_ok utf k)))))) 0 0 (fun _ => False) := by
  refine zMet (by decide) (Nat.le_of_ble_eq_true rfl) ?_
  intro p e s m below meth c ls S hr hlk hnm hE hp hl
  have hx := S.1
  have hb := S.2.1
  have hl : lv_has ls 3 [(0, .ref h), (1, .long (jL ((k : Nat) : Int)))] := hl
  refine lv_aload_n hx hb d_Encoding_exists_0 rfl (lv_at hl 0 rfl) ?_
  refine zgf S hE (ci := 2) rfl i_Encoding hp 0 (by decide) zw_127 rfl d_Encoding_exists_1 ?_
  refine zb_ifne hx hb d_Encoding_exists_4 rfl (fun h4 => ?_) (fun h4 => ?_)
  · refine lv_lload_n hx hb d_Encoding_exists_27 rfl (lv_at hl 1 rfl) ?_
    refine zl_lconst (a := 0) hx hb d_Encoding_exists_28 (by decide) ?_
    refine zl_if_lt hx hb d_Encoding_exists_29 d_Encoding_exists_30 rfl (by omega) (by omega) (fun h30 => ?_) (fun h30 => ?_)
    · refine zi_iconst hx hb d_Encoding_exists_61 ?_
      exact zretZ (b := false) S hr hlk d_Encoding_exists_62 (by refine Eq.symm ?_; unfold sp_ok; subst h4; simp; omega)
    · refine lv_lload_n hx hb d_Encoding_exists_33 rfl (lv_at hl 1 rfl) ?_
      refine zl_ldc2 S zw_451 (show _ = jL 1114111 by decide) d_Encoding_exists_34 ?_
      refine zl_if_gt hx hb d_Encoding_exists_37 d_Encoding_exists_38 rfl (by omega) (by omega) (fun h38 => ?_) (fun h38 => ?_)
      · refine zi_iconst hx hb d_Encoding_exists_61 ?_
        exact zretZ (b := false) S hr hlk d_Encoding_exists_62 (by refine Eq.symm ?_; unfold sp_ok; subst h4; simp; omega)
      · refine lv_lload_n hx hb d_Encoding_exists_41 rfl (lv_at hl 1 rfl) ?_
        refine zl_ldc2 S zw_452 (show _ = jL 55296 by decide) d_Encoding_exists_42 ?_
        refine zl_if_lt hx hb d_Encoding_exists_45 d_Encoding_exists_46 rfl (by omega) (by omega) (fun h46 => ?_) (fun h46 => ?_)
        · refine zi_iconst hx hb d_Encoding_exists_57 ?_
          refine lv_goto hx hb d_Encoding_exists_58 rfl ?_
          exact zretZ (b := true) S hr hlk d_Encoding_exists_62 (by refine Eq.symm ?_; unfold sp_ok; subst h4; simp; omega)
        · refine lv_lload_n hx hb d_Encoding_exists_49 rfl (lv_at hl 1 rfl) ?_
          refine zl_ldc2 S zw_453 (show _ = jL 57343 by decide) d_Encoding_exists_50 ?_
          refine zl_if_le hx hb d_Encoding_exists_53 d_Encoding_exists_54 rfl (by omega) (by omega) (fun h54 => ?_) (fun h54 => ?_)
          · refine zi_iconst hx hb d_Encoding_exists_61 ?_
            exact zretZ (b := false) S hr hlk d_Encoding_exists_62 (by refine Eq.symm ?_; unfold sp_ok; subst h4; simp; omega)
          · refine zi_iconst hx hb d_Encoding_exists_57 ?_
            refine lv_goto hx hb d_Encoding_exists_58 rfl ?_
            exact zretZ (b := true) S hr hlk d_Encoding_exists_62 (by refine Eq.symm ?_; unfold sp_ok; subst h4; simp; omega)
  · refine lv_lload_n hx hb d_Encoding_exists_7 rfl (lv_at hl 1 rfl) ?_
    refine zl_lconst (a := 0) hx hb d_Encoding_exists_8 (by decide) ?_
    refine zl_if_lt hx hb d_Encoding_exists_9 d_Encoding_exists_10 rfl (by omega) (by omega) (fun h10 => ?_) (fun h10 => ?_)
    · refine zi_iconst hx hb d_Encoding_exists_25 ?_
      exact zretZ (b := false) S hr hlk d_Encoding_exists_26 (by refine Eq.symm ?_; unfold sp_ok; subst h4; simp; omega)
    · refine lv_lload_n hx hb d_Encoding_exists_13 rfl (lv_at hl 1 rfl) ?_
      refine zl_ldc2 S zw_450 (show _ = jL 255 by decide) d_Encoding_exists_14 ?_
      refine zl_if_gt hx hb d_Encoding_exists_17 d_Encoding_exists_18 rfl (by omega) (by omega) (fun h18 => ?_) (fun h18 => ?_)
      · refine zi_iconst hx hb d_Encoding_exists_25 ?_
        exact zretZ (b := false) S hr hlk d_Encoding_exists_26 (by refine Eq.symm ?_; unfold sp_ok; subst h4; simp; omega)
      · refine zi_iconst hx hb d_Encoding_exists_21 ?_
        refine lv_goto hx hb d_Encoding_exists_22 rfl ?_
        exact zretZ (b := true) S hr hlk d_Encoding_exists_26 (by refine Eq.symm ?_; unfold sp_ok; subst h4; simp; omega)

set_option maxRecDepth 100000 in
set_option maxHeartbeats 4000000 in
theorem c_Math_max (l : Launch) (E : zP) (x y : Int) (hxx : r32 x) (hy : r32 y) : Met l y_Math_max (.code y_Math_max b_Math_max 2 ( some FieldType.int ) :: zw) { frames := 0, cells := 0, slots := 0, locals := 0 } (zPc E [.int (iI x), .int (iI y)] (fun _ => True)) (zR (some (.int (iI (max x y))))) 0 0 (fun _ => False) := by
  refine zMetF (by decide +kernel) (Nat.le_of_ble_eq_true rfl) ?_
  intro p e s m below meth c ls S hr hlk hnm hE hp hl
  have hx := S.1
  have hb := S.2.1
  have hl : lv_has ls 2 [(0, .int (iI x)), (1, .int (iI y))] := hl
  refine lv_iload_n hx hb d_Math_max_0 rfl (lv_at hl 0 rfl) ?_
  refine lv_iload_n hx hb d_Math_max_1 rfl (lv_at hl 1 rfl) ?_
  refine zi_icmp_lt hx hb d_Math_max_2 rfl (by omega) (by omega) (fun h2 => ?_) (fun h2 => ?_)
  · refine lv_iload_n hx hb d_Math_max_9 rfl (lv_at hl 1 rfl) ?_
    exact zretI S hr hlk d_Math_max_10 (congrArg iI (by omega))
  · refine lv_iload_n hx hb d_Math_max_5 rfl (lv_at hl 0 rfl) ?_
    refine lv_goto hx hb d_Math_max_6 rfl ?_
    exact zretI S hr hlk d_Math_max_10 (congrArg iI (by omega))

set_option maxRecDepth 100000 in
set_option maxHeartbeats 4000000 in
theorem c_Math_min (l : Launch) (E : zP) (x y : Int) (hxx : r32 x) (hy : r32 y) : Met l y_Math_min (.code y_Math_min b_Math_min 2 ( some FieldType.int ) :: zw) { frames := 0, cells := 0, slots := 0, locals := 0 } (zPc E [.int (iI x), .int (iI y)] (fun _ => True)) (zR (some (.int (iI (min x y))))) 0 0 (fun _ => False) := by
  refine zMetF (by decide +kernel) (Nat.le_of_ble_eq_true rfl) ?_
  intro p e s m below meth c ls S hr hlk hnm hE hp hl
  have hx := S.1
  have hb := S.2.1
  have hl : lv_has ls 2 [(0, .int (iI x)), (1, .int (iI y))] := hl
  refine lv_iload_n hx hb d_Math_min_0 rfl (lv_at hl 0 rfl) ?_
  refine lv_iload_n hx hb d_Math_min_1 rfl (lv_at hl 1 rfl) ?_
  refine zi_icmp_gt hx hb d_Math_min_2 rfl (by omega) (by omega) (fun h2 => ?_) (fun h2 => ?_)
  · refine lv_iload_n hx hb d_Math_min_9 rfl (lv_at hl 1 rfl) ?_
    exact zretI S hr hlk d_Math_min_10 (congrArg iI (by omega))
  · refine lv_iload_n hx hb d_Math_min_5 rfl (lv_at hl 0 rfl) ?_
    refine lv_goto hx hb d_Math_min_6 rfl ?_
    exact zretI S hr hlk d_Math_min_10 (congrArg iI (by omega))

set_option maxRecDepth 100000 in
set_option maxHeartbeats 4000000 in
theorem c_Encoding_characterAt (l : Launch) (E : zP) (h r : Nat) (utf : Bool) (b : List Nat) (k : Nat) (hk : k < b.length) (hlen : k + sp_lead utf (sp_b b k) ≤ b.length) : Met l y_Encoding_characterAt (.code y_Encoding_characterAt b_Encoding_characterAt 7 ( some FieldType.int ) :: zw) { frames := 1, cells := 0, slots := 0, locals := 21 } (zPc E [.ref h, .ref r, .int (iI ((k : Nat) : Int))] (fun H => zO E 2 h [.int (iI (bN utf))] H ∧ zrow E r b H)) (zR (some (.int (iI (sp_chr utf b k : Nat))))) 0 0 (fun _ => False) := by
  refine zMet (by decide) (Nat.le_of_ble_eq_true rfl) ?_
  intro p e s m below meth c ls S hr hlk hnm hE ⟨hp, hrow⟩ hl
  have hx := S.1
  have hb := S.2.1
  have hl : lv_has ls 7 [(0, .ref h), (1, .ref r), (2, .int (iI ((k : Nat) : Int)))] := hl
  have hbl := zrow.len hrow
  refine lv_aload_n hx hb d_Encoding_characterAt_0 rfl (lv_at hl 1 rfl) ?_
  refine lv_iload_n hx hb d_Encoding_characterAt_1 rfl (lv_at hl 2 rfl) ?_
  refine zcR (va_runV (As := [.int (iI ((k : Nat) : Int))]) (rest := []) S (c_Row_at l E r b ((k : Nat) : Int) (by omega)) ⟨zcwB (n := 1) S zw_437 zw_2 zw_434 (by decide +kernel) rfl rfl ⟨Nat.le_of_ble_eq_true rfl, Nat.le_of_ble_eq_true rfl⟩, S.2.2.2.2 _ zw_435, S.2.2.2.2 _ zw_436⟩ (zPreVrow hE hrow hrow) rfl rfl hl.1 rfl (lv_room (Nat.le_of_ble_eq_true rfl)) d_Encoding_characterAt_2 ⟨Nat.zero_le _, Nat.zero_le _⟩) ?_
  rw [sp_at_in (n := k) (by omega) (by omega)]
  have hb2 := sp_b_lt (zrow.lt hrow) (k)
  refine lv_istore_n (lv' := [(3, .int (iI ((sp_b b k : Nat) : Int))), (0, .ref h), (1, .ref r), (2, .int (iI ((k : Nat) : Int)))]) hx hb d_Encoding_characterAt_5 rfl hl (by decide) rfl (fun ls hl => ?_)
  refine lv_aload_n hx hb d_Encoding_characterAt_6 rfl (lv_at hl 1 rfl) ?_
  refine lv_iload_n hx hb d_Encoding_characterAt_7 rfl (lv_at hl 0 rfl) ?_
  refine zcR (va_runV (As := [.int (iI ((sp_b b k : Nat) : Int))]) (rest := []) S (c_Encoding_lengthBehind l E h utf (sp_b b k) (by omega)) ⟨zcwB (n := 1) S zw_441 zw_7 zw_438 (by decide +kernel) rfl rfl ⟨Nat.le_of_ble_eq_true rfl, Nat.le_of_ble_eq_true rfl⟩, S.2.2.2.2 _ zw_439, S.2.2.2.2 _ zw_440⟩ (zPreV hE hp rfl hp) rfl rfl hl.1 rfl (lv_room (Nat.le_of_ble_eq_true rfl)) d_Encoding_characterAt_8 ⟨Nat.zero_le _, Nat.zero_le _⟩) ?_
  have hb8 := sp_lead_le utf (sp_b b k)
  refine lv_istore (lv' := [(4, .int (iI ((sp_lead utf (sp_b b k) : Nat) : Int))), (3, .int (iI ((sp_b b k : Nat) : Int))), (0, .ref h), (1, .ref r), (2, .int (iI ((k : Nat) : Int)))]) hx hb d_Encoding_characterAt_11 hl (by decide) rfl (fun ls hl => ?_)
  refine lv_iload hx hb d_Encoding_characterAt_13 (lv_at hl 0 rfl) ?_
  refine zi_iconst hx hb d_Encoding_characterAt_15 ?_
  refine zi_icmp_ge hx hb d_Encoding_characterAt_16 rfl (by omega) (by omega) (fun h16 => ?_) (fun h16 => ?_)
  · have hle := sp_lead_le utf (sp_b b k)
    have h3 : sp_lead utf (sp_b b k) = 2 ∨ sp_lead utf (sp_b b k) = 3 ∨ sp_lead utf (sp_b b k) = 4 := by omega
    rcases h3 with e3 | e3 | e3
    · rw [e3] at hl hlen
      have hl : lv_has ls 7 [(4, .int (iI 2)), (3, .int (iI ((sp_b b k : Nat) : Int))), (0, .ref h), (1, .ref r), (2, .int (iI ((k : Nat) : Int)))] := hl
      refine lv_iload_n hx hb d_Encoding_characterAt_21 rfl (lv_at hl 1 rfl) ?_
      refine zi_bipush hx hb d_Encoding_characterAt_22 (by decide) ?_
      refine lv_iload hx hb d_Encoding_characterAt_24 (lv_at hl 0 rfl) ?_
      refine zi_ishr (r := 31) hx hb d_Encoding_characterAt_26 (by decide) ?_
      refine zi_iand hx hb d_Encoding_characterAt_27 (iI_mask 5 31 32 (by omega) (by decide) (by decide)) ?_
      refine lv_istore (lv' := [(5, .int (iI (((sp_b b k : Nat) : Int) % 32))), (4, .int (iI 2)), (3, .int (iI ((sp_b b k : Nat) : Int))), (0, .ref h), (1, .ref r), (2, .int (iI ((k : Nat) : Int)))]) hx hb d_Encoding_characterAt_28 hl (by decide) rfl (fun ls hl => ?_)
      refine zi_iconst hx hb d_Encoding_characterAt_30 ?_
      refine lv_istore (lv' := [(6, .int (iI 1)), (5, .int (iI (((sp_b b k : Nat) : Int) % 32))), (4, .int (iI 2)), (3, .int (iI ((sp_b b k : Nat) : Int))), (0, .ref h), (1, .ref r), (2, .int (iI ((k : Nat) : Int)))]) hx hb d_Encoding_characterAt_31 hl (by decide) rfl (fun ls hl => ?_)
      refine lv_iload hx hb d_Encoding_characterAt_33 (lv_at hl 0 rfl) ?_
      refine lv_iload hx hb d_Encoding_characterAt_35 (lv_at hl 2 rfl) ?_
      refine zi_icmp_ge hx hb d_Encoding_characterAt_37 rfl (by omega) (by omega) (fun h => absurd h (by omega)) (fun h37 => ?_)
      refine lv_iload hx hb d_Encoding_characterAt_40 (lv_at hl 1 rfl) ?_
      refine zi_bipush hx hb d_Encoding_characterAt_42 (by decide) ?_
      refine zi_ishl hx hb d_Encoding_characterAt_44 (iI_shl6 _) ?_
      refine lv_aload_n hx hb d_Encoding_characterAt_45 rfl (lv_at hl 5 rfl) ?_
      refine lv_iload_n hx hb d_Encoding_characterAt_46 rfl (lv_at hl 6 rfl) ?_
      refine lv_iload hx hb d_Encoding_characterAt_47 (lv_at hl 0 rfl) ?_
      refine zi_iadd hx hb d_Encoding_characterAt_49 ?_
      refine zcR (va_runV (As := [.int (iI (((k : Nat) : Int) + 1))]) (rest := [.int (iI ((((sp_b b k : Nat) : Int) % 32) * 64))]) S (c_Row_at l E r b (((k : Nat) : Int) + 1) (by omega)) ⟨zcwB (n := 1) S zw_437 zw_2 zw_434 (by decide +kernel) rfl rfl ⟨Nat.le_of_ble_eq_true rfl, Nat.le_of_ble_eq_true rfl⟩, S.2.2.2.2 _ zw_435, S.2.2.2.2 _ zw_436⟩ (zPreVrow hE hrow hrow) rfl rfl hl.1 rfl (lv_room (Nat.le_of_ble_eq_true rfl)) d_Encoding_characterAt_50 ⟨Nat.zero_le _, Nat.zero_le _⟩) ?_
      rw [sp_at_in (n := k + 1) (by omega) (by omega)]
      have hb50 := sp_b_lt (zrow.lt hrow) (k + 1)
      refine zi_bipush hx hb d_Encoding_characterAt_53 (by decide) ?_
      refine zi_iand hx hb d_Encoding_characterAt_55 (iI_mask 6 63 64 (by omega) (by decide) (by decide)) ?_
      refine zi_ior hx hb d_Encoding_characterAt_56 (iI_or6 (by omega) (by omega) (by omega)) ?_
      refine lv_istore (lv' := [(5, .int (iI ((((sp_b b k : Nat) : Int) % 32) * 64 + (((sp_b b (k + 1) : Nat) : Int) % 64)))), (6, .int (iI 1)), (4, .int (iI 2)), (3, .int (iI ((sp_b b k : Nat) : Int))), (0, .ref h), (1, .ref r), (2, .int (iI ((k : Nat) : Int)))]) hx hb d_Encoding_characterAt_57 hl (by decide) rfl (fun ls hl => ?_)
      refine lv_iinc (k := 1) (v := (iI 2)) (lv' := [(6, .int (iI 2)), (5, .int (iI ((((sp_b b k : Nat) : Int) % 32) * 64 + (((sp_b b (k + 1) : Nat) : Int) % 64)))), (4, .int (iI 2)), (3, .int (iI ((sp_b b k : Nat) : Int))), (0, .ref h), (1, .ref r), (2, .int (iI ((k : Nat) : Int)))]) hx hb d_Encoding_characterAt_59 hl rfl (by decide) (by decide) rfl (fun ls hl => ?_)
      refine lv_goto hx hb d_Encoding_characterAt_62 rfl ?_
      refine lv_iload hx hb d_Encoding_characterAt_33 (lv_at hl 0 rfl) ?_
      refine lv_iload hx hb d_Encoding_characterAt_35 (lv_at hl 2 rfl) ?_
      refine zi_icmp_ge hx hb d_Encoding_characterAt_37 rfl (by omega) (by omega) (fun h37 => ?_) (fun h => absurd h (by omega))
      refine lv_iload hx hb d_Encoding_characterAt_65 (lv_at hl 1 rfl) ?_
      exact zretI S hr hlk d_Encoding_characterAt_67 (congrArg iI (by unfold sp_chr; simp only; first | (rw [e3]; simp; done) | (rw [if_neg (by omega), if_neg (by omega), if_neg (by omega)])))
    · rw [e3] at hl hlen
      have hl : lv_has ls 7 [(4, .int (iI 3)), (3, .int (iI ((sp_b b k : Nat) : Int))), (0, .ref h), (1, .ref r), (2, .int (iI ((k : Nat) : Int)))] := hl
      refine lv_iload_n hx hb d_Encoding_characterAt_21 rfl (lv_at hl 1 rfl) ?_
      refine zi_bipush hx hb d_Encoding_characterAt_22 (by decide) ?_
      refine lv_iload hx hb d_Encoding_characterAt_24 (lv_at hl 0 rfl) ?_
      refine zi_ishr (r := 15) hx hb d_Encoding_characterAt_26 (by decide) ?_
      refine zi_iand hx hb d_Encoding_characterAt_27 (iI_mask 4 15 16 (by omega) (by decide) (by decide)) ?_
      refine lv_istore (lv' := [(5, .int (iI (((sp_b b k : Nat) : Int) % 16))), (4, .int (iI 3)), (3, .int (iI ((sp_b b k : Nat) : Int))), (0, .ref h), (1, .ref r), (2, .int (iI ((k : Nat) : Int)))]) hx hb d_Encoding_characterAt_28 hl (by decide) rfl (fun ls hl => ?_)
      refine zi_iconst hx hb d_Encoding_characterAt_30 ?_
      refine lv_istore (lv' := [(6, .int (iI 1)), (5, .int (iI (((sp_b b k : Nat) : Int) % 16))), (4, .int (iI 3)), (3, .int (iI ((sp_b b k : Nat) : Int))), (0, .ref h), (1, .ref r), (2, .int (iI ((k : Nat) : Int)))]) hx hb d_Encoding_characterAt_31 hl (by decide) rfl (fun ls hl => ?_)
      refine lv_iload hx hb d_Encoding_characterAt_33 (lv_at hl 0 rfl) ?_
      refine lv_iload hx hb d_Encoding_characterAt_35 (lv_at hl 2 rfl) ?_
      refine zi_icmp_ge hx hb d_Encoding_characterAt_37 rfl (by omega) (by omega) (fun h => absurd h (by omega)) (fun h37 => ?_)
      refine lv_iload hx hb d_Encoding_characterAt_40 (lv_at hl 1 rfl) ?_
      refine zi_bipush hx hb d_Encoding_characterAt_42 (by decide) ?_
      refine zi_ishl hx hb d_Encoding_characterAt_44 (iI_shl6 _) ?_
      refine lv_aload_n hx hb d_Encoding_characterAt_45 rfl (lv_at hl 5 rfl) ?_
      refine lv_iload_n hx hb d_Encoding_characterAt_46 rfl (lv_at hl 6 rfl) ?_
      refine lv_iload hx hb d_Encoding_characterAt_47 (lv_at hl 0 rfl) ?_
      refine zi_iadd hx hb d_Encoding_characterAt_49 ?_
      refine zcR (va_runV (As := [.int (iI (((k : Nat) : Int) + 1))]) (rest := [.int (iI ((((sp_b b k : Nat) : Int) % 16) * 64))]) S (c_Row_at l E r b (((k : Nat) : Int) + 1) (by omega)) ⟨zcwB (n := 1) S zw_437 zw_2 zw_434 (by decide +kernel) rfl rfl ⟨Nat.le_of_ble_eq_true rfl, Nat.le_of_ble_eq_true rfl⟩, S.2.2.2.2 _ zw_435, S.2.2.2.2 _ zw_436⟩ (zPreVrow hE hrow hrow) rfl rfl hl.1 rfl (lv_room (Nat.le_of_ble_eq_true rfl)) d_Encoding_characterAt_50 ⟨Nat.zero_le _, Nat.zero_le _⟩) ?_
      rw [sp_at_in (n := k + 1) (by omega) (by omega)]
      have hb50 := sp_b_lt (zrow.lt hrow) (k + 1)
      refine zi_bipush hx hb d_Encoding_characterAt_53 (by decide) ?_
      refine zi_iand hx hb d_Encoding_characterAt_55 (iI_mask 6 63 64 (by omega) (by decide) (by decide)) ?_
      refine zi_ior hx hb d_Encoding_characterAt_56 (iI_or6 (by omega) (by omega) (by omega)) ?_
      refine lv_istore (lv' := [(5, .int (iI ((((sp_b b k : Nat) : Int) % 16) * 64 + (((sp_b b (k + 1) : Nat) : Int) % 64)))), (6, .int (iI 1)), (4, .int (iI 3)), (3, .int (iI ((sp_b b k : Nat) : Int))), (0, .ref h), (1, .ref r), (2, .int (iI ((k : Nat) : Int)))]) hx hb d_Encoding_characterAt_57 hl (by decide) rfl (fun ls hl => ?_)
      refine lv_iinc (k := 1) (v := (iI 2)) (lv' := [(6, .int (iI 2)), (5, .int (iI ((((sp_b b k : Nat) : Int) % 16) * 64 + (((sp_b b (k + 1) : Nat) : Int) % 64)))), (4, .int (iI 3)), (3, .int (iI ((sp_b b k : Nat) : Int))), (0, .ref h), (1, .ref r), (2, .int (iI ((k : Nat) : Int)))]) hx hb d_Encoding_characterAt_59 hl rfl (by decide) (by decide) rfl (fun ls hl => ?_)
      refine lv_goto hx hb d_Encoding_characterAt_62 rfl ?_
      refine lv_iload hx hb d_Encoding_characterAt_33 (lv_at hl 0 rfl) ?_
      refine lv_iload hx hb d_Encoding_characterAt_35 (lv_at hl 2 rfl) ?_
      refine zi_icmp_ge hx hb d_Encoding_characterAt_37 rfl (by omega) (by omega) (fun h => absurd h (by omega)) (fun h37 => ?_)
      refine lv_iload hx hb d_Encoding_characterAt_40 (lv_at hl 1 rfl) ?_
      refine zi_bipush hx hb d_Encoding_characterAt_42 (by decide) ?_
      refine zi_ishl hx hb d_Encoding_characterAt_44 (iI_shl6 _) ?_
      refine lv_aload_n hx hb d_Encoding_characterAt_45 rfl (lv_at hl 5 rfl) ?_
      refine lv_iload_n hx hb d_Encoding_characterAt_46 rfl (lv_at hl 6 rfl) ?_
      refine lv_iload hx hb d_Encoding_characterAt_47 (lv_at hl 0 rfl) ?_
      refine zi_iadd hx hb d_Encoding_characterAt_49 ?_
      refine zcR (va_runV (As := [.int (iI (((k : Nat) : Int) + 2))]) (rest := [.int (iI (((((sp_b b k : Nat) : Int) % 16) * 64 + (((sp_b b (k + 1) : Nat) : Int) % 64)) * 64))]) S (c_Row_at l E r b (((k : Nat) : Int) + 2) (by omega)) ⟨zcwB (n := 1) S zw_437 zw_2 zw_434 (by decide +kernel) rfl rfl ⟨Nat.le_of_ble_eq_true rfl, Nat.le_of_ble_eq_true rfl⟩, S.2.2.2.2 _ zw_435, S.2.2.2.2 _ zw_436⟩ (zPreVrow hE hrow hrow) rfl rfl hl.1 rfl (lv_room (Nat.le_of_ble_eq_true rfl)) d_Encoding_characterAt_50 ⟨Nat.zero_le _, Nat.zero_le _⟩) ?_
      rw [sp_at_in (n := k + 2) (by omega) (by omega)]
      have hb50 := sp_b_lt (zrow.lt hrow) (k + 2)
      refine zi_bipush hx hb d_Encoding_characterAt_53 (by decide) ?_
      refine zi_iand hx hb d_Encoding_characterAt_55 (iI_mask 6 63 64 (by omega) (by decide) (by decide)) ?_
      refine zi_ior hx hb d_Encoding_characterAt_56 (iI_or6 (by omega) (by omega) (by omega)) ?_
      refine lv_istore (lv' := [(5, .int (iI (((((sp_b b k : Nat) : Int) % 16) * 64 + (((sp_b b (k + 1) : Nat) : Int) % 64)) * 64 + (((sp_b b (k + 2) : Nat) : Int) % 64)))), (6, .int (iI 2)), (4, .int (iI 3)), (3, .int (iI ((sp_b b k : Nat) : Int))), (0, .ref h), (1, .ref r), (2, .int (iI ((k : Nat) : Int)))]) hx hb d_Encoding_characterAt_57 hl (by decide) rfl (fun ls hl => ?_)
      refine lv_iinc (k := 1) (v := (iI 3)) (lv' := [(6, .int (iI 3)), (5, .int (iI (((((sp_b b k : Nat) : Int) % 16) * 64 + (((sp_b b (k + 1) : Nat) : Int) % 64)) * 64 + (((sp_b b (k + 2) : Nat) : Int) % 64)))), (4, .int (iI 3)), (3, .int (iI ((sp_b b k : Nat) : Int))), (0, .ref h), (1, .ref r), (2, .int (iI ((k : Nat) : Int)))]) hx hb d_Encoding_characterAt_59 hl rfl (by decide) (by decide) rfl (fun ls hl => ?_)
      refine lv_goto hx hb d_Encoding_characterAt_62 rfl ?_
      refine lv_iload hx hb d_Encoding_characterAt_33 (lv_at hl 0 rfl) ?_
      refine lv_iload hx hb d_Encoding_characterAt_35 (lv_at hl 2 rfl) ?_
      refine zi_icmp_ge hx hb d_Encoding_characterAt_37 rfl (by omega) (by omega) (fun h37 => ?_) (fun h => absurd h (by omega))
      refine lv_iload hx hb d_Encoding_characterAt_65 (lv_at hl 1 rfl) ?_
      exact zretI S hr hlk d_Encoding_characterAt_67 (congrArg iI (by unfold sp_chr; simp only; first | (rw [e3]; simp; done) | (rw [if_neg (by omega), if_neg (by omega), if_neg (by omega)])))
    · rw [e3] at hl hlen
      have hl : lv_has ls 7 [(4, .int (iI 4)), (3, .int (iI ((sp_b b k : Nat) : Int))), (0, .ref h), (1, .ref r), (2, .int (iI ((k : Nat) : Int)))] := hl
      refine lv_iload_n hx hb d_Encoding_characterAt_21 rfl (lv_at hl 1 rfl) ?_
      refine zi_bipush hx hb d_Encoding_characterAt_22 (by decide) ?_
      refine lv_iload hx hb d_Encoding_characterAt_24 (lv_at hl 0 rfl) ?_
      refine zi_ishr (r := 7) hx hb d_Encoding_characterAt_26 (by decide) ?_
      refine zi_iand hx hb d_Encoding_characterAt_27 (iI_mask 3 7 8 (by omega) (by decide) (by decide)) ?_
      refine lv_istore (lv' := [(5, .int (iI (((sp_b b k : Nat) : Int) % 8))), (4, .int (iI 4)), (3, .int (iI ((sp_b b k : Nat) : Int))), (0, .ref h), (1, .ref r), (2, .int (iI ((k : Nat) : Int)))]) hx hb d_Encoding_characterAt_28 hl (by decide) rfl (fun ls hl => ?_)
      refine zi_iconst hx hb d_Encoding_characterAt_30 ?_
      refine lv_istore (lv' := [(6, .int (iI 1)), (5, .int (iI (((sp_b b k : Nat) : Int) % 8))), (4, .int (iI 4)), (3, .int (iI ((sp_b b k : Nat) : Int))), (0, .ref h), (1, .ref r), (2, .int (iI ((k : Nat) : Int)))]) hx hb d_Encoding_characterAt_31 hl (by decide) rfl (fun ls hl => ?_)
      refine lv_iload hx hb d_Encoding_characterAt_33 (lv_at hl 0 rfl) ?_
      refine lv_iload hx hb d_Encoding_characterAt_35 (lv_at hl 2 rfl) ?_
      refine zi_icmp_ge hx hb d_Encoding_characterAt_37 rfl (by omega) (by omega) (fun h => absurd h (by omega)) (fun h37 => ?_)
      refine lv_iload hx hb d_Encoding_characterAt_40 (lv_at hl 1 rfl) ?_
      refine zi_bipush hx hb d_Encoding_characterAt_42 (by decide) ?_
      refine zi_ishl hx hb d_Encoding_characterAt_44 (iI_shl6 _) ?_
      refine lv_aload_n hx hb d_Encoding_characterAt_45 rfl (lv_at hl 5 rfl) ?_
      refine lv_iload_n hx hb d_Encoding_characterAt_46 rfl (lv_at hl 6 rfl) ?_
      refine lv_iload hx hb d_Encoding_characterAt_47 (lv_at hl 0 rfl) ?_
      refine zi_iadd hx hb d_Encoding_characterAt_49 ?_
      refine zcR (va_runV (As := [.int (iI (((k : Nat) : Int) + 1))]) (rest := [.int (iI ((((sp_b b k : Nat) : Int) % 8) * 64))]) S (c_Row_at l E r b (((k : Nat) : Int) + 1) (by omega)) ⟨zcwB (n := 1) S zw_437 zw_2 zw_434 (by decide +kernel) rfl rfl ⟨Nat.le_of_ble_eq_true rfl, Nat.le_of_ble_eq_true rfl⟩, S.2.2.2.2 _ zw_435, S.2.2.2.2 _ zw_436⟩ (zPreVrow hE hrow hrow) rfl rfl hl.1 rfl (lv_room (Nat.le_of_ble_eq_true rfl)) d_Encoding_characterAt_50 ⟨Nat.zero_le _, Nat.zero_le _⟩) ?_
      rw [sp_at_in (n := k + 1) (by omega) (by omega)]
      have hb50 := sp_b_lt (zrow.lt hrow) (k + 1)
      refine zi_bipush hx hb d_Encoding_characterAt_53 (by decide) ?_
      refine zi_iand hx hb d_Encoding_characterAt_55 (iI_mask 6 63 64 (by omega) (by decide) (by decide)) ?_
      refine zi_ior hx hb d_Encoding_characterAt_56 (iI_or6 (by omega) (by omega) (by omega)) ?_
      refine lv_istore (lv' := [(5, .int (iI ((((sp_b b k : Nat) : Int) % 8) * 64 + (((sp_b b (k + 1) : Nat) : Int) % 64)))), (6, .int (iI 1)), (4, .int (iI 4)), (3, .int (iI ((sp_b b k : Nat) : Int))), (0, .ref h), (1, .ref r), (2, .int (iI ((k : Nat) : Int)))]) hx hb d_Encoding_characterAt_57 hl (by decide) rfl (fun ls hl => ?_)
      refine lv_iinc (k := 1) (v := (iI 2)) (lv' := [(6, .int (iI 2)), (5, .int (iI ((((sp_b b k : Nat) : Int) % 8) * 64 + (((sp_b b (k + 1) : Nat) : Int) % 64)))), (4, .int (iI 4)), (3, .int (iI ((sp_b b k : Nat) : Int))), (0, .ref h), (1, .ref r), (2, .int (iI ((k : Nat) : Int)))]) hx hb d_Encoding_characterAt_59 hl rfl (by decide) (by decide) rfl (fun ls hl => ?_)
      refine lv_goto hx hb d_Encoding_characterAt_62 rfl ?_
      refine lv_iload hx hb d_Encoding_characterAt_33 (lv_at hl 0 rfl) ?_
      refine lv_iload hx hb d_Encoding_characterAt_35 (lv_at hl 2 rfl) ?_
      refine zi_icmp_ge hx hb d_Encoding_characterAt_37 rfl (by omega) (by omega) (fun h => absurd h (by omega)) (fun h37 => ?_)
      refine lv_iload hx hb d_Encoding_characterAt_40 (lv_at hl 1 rfl) ?_
      refine zi_bipush hx hb d_Encoding_characterAt_42 (by decide) ?_
      refine zi_ishl hx hb d_Encoding_characterAt_44 (iI_shl6 _) ?_
      refine lv_aload_n hx hb d_Encoding_characterAt_45 rfl (lv_at hl 5 rfl) ?_
      refine lv_iload_n hx hb d_Encoding_characterAt_46 rfl (lv_at hl 6 rfl) ?_
      refine lv_iload hx hb d_Encoding_characterAt_47 (lv_at hl 0 rfl) ?_
      refine zi_iadd hx hb d_Encoding_characterAt_49 ?_
      refine zcR (va_runV (As := [.int (iI (((k : Nat) : Int) + 2))]) (rest := [.int (iI (((((sp_b b k : Nat) : Int) % 8) * 64 + (((sp_b b (k + 1) : Nat) : Int) % 64)) * 64))]) S (c_Row_at l E r b (((k : Nat) : Int) + 2) (by omega)) ⟨zcwB (n := 1) S zw_437 zw_2 zw_434 (by decide +kernel) rfl rfl ⟨Nat.le_of_ble_eq_true rfl, Nat.le_of_ble_eq_true rfl⟩, S.2.2.2.2 _ zw_435, S.2.2.2.2 _ zw_436⟩ (zPreVrow hE hrow hrow) rfl rfl hl.1 rfl (lv_room (Nat.le_of_ble_eq_true rfl)) d_Encoding_characterAt_50 ⟨Nat.zero_le _, Nat.zero_le _⟩) ?_
      rw [sp_at_in (n := k + 2) (by omega) (by omega)]
      have hb50 := sp_b_lt (zrow.lt hrow) (k + 2)
      refine zi_bipush hx hb d_Encoding_characterAt_53 (by decide) ?_
      refine zi_iand hx hb d_Encoding_characterAt_55 (iI_mask 6 63 64 (by omega) (by decide) (by decide)) ?_
      refine zi_ior hx hb d_Encoding_characterAt_56 (iI_or6 (by omega) (by omega) (by omega)) ?_
      refine lv_istore (lv' := [(5, .int (iI (((((sp_b b k : Nat) : Int) % 8) * 64 + (((sp_b b (k + 1) : Nat) : Int) % 64)) * 64 + (((sp_b b (k + 2) : Nat) : Int) % 64)))), (6, .int (iI 2)), (4, .int (iI 4)), (3, .int (iI ((sp_b b k : Nat) : Int))), (0, .ref h), (1, .ref r), (2, .int (iI ((k : Nat) : Int)))]) hx hb d_Encoding_characterAt_57 hl (by decide) rfl (fun ls hl => ?_)
      refine lv_iinc (k := 1) (v := (iI 3)) (lv' := [(6, .int (iI 3)), (5, .int (iI (((((sp_b b k : Nat) : Int) % 8) * 64 + (((sp_b b (k + 1) : Nat) : Int) % 64)) * 64 + (((sp_b b (k + 2) : Nat) : Int) % 64)))), (4, .int (iI 4)), (3, .int (iI ((sp_b b k : Nat) : Int))), (0, .ref h), (1, .ref r), (2, .int (iI ((k : Nat) : Int)))]) hx hb d_Encoding_characterAt_59 hl rfl (by decide) (by decide) rfl (fun ls hl => ?_)
      refine lv_goto hx hb d_Encoding_characterAt_62 rfl ?_
      refine lv_iload hx hb d_Encoding_characterAt_33 (lv_at hl 0 rfl) ?_
      refine lv_iload hx hb d_Encoding_characterAt_35 (lv_at hl 2 rfl) ?_
      refine zi_icmp_ge hx hb d_Encoding_characterAt_37 rfl (by omega) (by omega) (fun h => absurd h (by omega)) (fun h37 => ?_)
      refine lv_iload hx hb d_Encoding_characterAt_40 (lv_at hl 1 rfl) ?_
      refine zi_bipush hx hb d_Encoding_characterAt_42 (by decide) ?_
      refine zi_ishl hx hb d_Encoding_characterAt_44 (iI_shl6 _) ?_
      refine lv_aload_n hx hb d_Encoding_characterAt_45 rfl (lv_at hl 5 rfl) ?_
      refine lv_iload_n hx hb d_Encoding_characterAt_46 rfl (lv_at hl 6 rfl) ?_
      refine lv_iload hx hb d_Encoding_characterAt_47 (lv_at hl 0 rfl) ?_
      refine zi_iadd hx hb d_Encoding_characterAt_49 ?_
      refine zcR (va_runV (As := [.int (iI (((k : Nat) : Int) + 3))]) (rest := [.int (iI ((((((sp_b b k : Nat) : Int) % 8) * 64 + (((sp_b b (k + 1) : Nat) : Int) % 64)) * 64 + (((sp_b b (k + 2) : Nat) : Int) % 64)) * 64))]) S (c_Row_at l E r b (((k : Nat) : Int) + 3) (by omega)) ⟨zcwB (n := 1) S zw_437 zw_2 zw_434 (by decide +kernel) rfl rfl ⟨Nat.le_of_ble_eq_true rfl, Nat.le_of_ble_eq_true rfl⟩, S.2.2.2.2 _ zw_435, S.2.2.2.2 _ zw_436⟩ (zPreVrow hE hrow hrow) rfl rfl hl.1 rfl (lv_room (Nat.le_of_ble_eq_true rfl)) d_Encoding_characterAt_50 ⟨Nat.zero_le _, Nat.zero_le _⟩) ?_
      rw [sp_at_in (n := k + 3) (by omega) (by omega)]
      have hb50 := sp_b_lt (zrow.lt hrow) (k + 3)
      refine zi_bipush hx hb d_Encoding_characterAt_53 (by decide) ?_
      refine zi_iand hx hb d_Encoding_characterAt_55 (iI_mask 6 63 64 (by omega) (by decide) (by decide)) ?_
      refine zi_ior hx hb d_Encoding_characterAt_56 (iI_or6 (by omega) (by omega) (by omega)) ?_
      refine lv_istore (lv' := [(5, .int (iI ((((((sp_b b k : Nat) : Int) % 8) * 64 + (((sp_b b (k + 1) : Nat) : Int) % 64)) * 64 + (((sp_b b (k + 2) : Nat) : Int) % 64)) * 64 + (((sp_b b (k + 3) : Nat) : Int) % 64)))), (6, .int (iI 3)), (4, .int (iI 4)), (3, .int (iI ((sp_b b k : Nat) : Int))), (0, .ref h), (1, .ref r), (2, .int (iI ((k : Nat) : Int)))]) hx hb d_Encoding_characterAt_57 hl (by decide) rfl (fun ls hl => ?_)
      refine lv_iinc (k := 1) (v := (iI 4)) (lv' := [(6, .int (iI 4)), (5, .int (iI ((((((sp_b b k : Nat) : Int) % 8) * 64 + (((sp_b b (k + 1) : Nat) : Int) % 64)) * 64 + (((sp_b b (k + 2) : Nat) : Int) % 64)) * 64 + (((sp_b b (k + 3) : Nat) : Int) % 64)))), (4, .int (iI 4)), (3, .int (iI ((sp_b b k : Nat) : Int))), (0, .ref h), (1, .ref r), (2, .int (iI ((k : Nat) : Int)))]) hx hb d_Encoding_characterAt_59 hl rfl (by decide) (by decide) rfl (fun ls hl => ?_)
      refine lv_goto hx hb d_Encoding_characterAt_62 rfl ?_
      refine lv_iload hx hb d_Encoding_characterAt_33 (lv_at hl 0 rfl) ?_
      refine lv_iload hx hb d_Encoding_characterAt_35 (lv_at hl 2 rfl) ?_
      refine zi_icmp_ge hx hb d_Encoding_characterAt_37 rfl (by omega) (by omega) (fun h37 => ?_) (fun h => absurd h (by omega))
      refine lv_iload hx hb d_Encoding_characterAt_65 (lv_at hl 1 rfl) ?_
      exact zretI S hr hlk d_Encoding_characterAt_67 (congrArg iI (by unfold sp_chr; simp only; first | (rw [e3]; simp; done) | (rw [if_neg (by omega), if_neg (by omega), if_neg (by omega)])))
  · refine lv_iload_n hx hb d_Encoding_characterAt_19 rfl (lv_at hl 1 rfl) ?_
    exact zretI S hr hlk d_Encoding_characterAt_20 (congrArg iI (by unfold sp_chr; simp only; first | (rw [e3]; simp; done) | (rw [if_neg (by omega), if_neg (by omega), if_neg (by omega)])))

set_option maxRecDepth 100000 in
set_option maxHeartbeats 4000000 in
theorem c_Encoding_isGood (l : Launch) (E : zP) (h r : Nat) (utf : Bool) (b : List Nat) (k : Nat) (hk : k < b.length) : Met l y_Encoding_isGood (.code y_Encoding_isGood b_Encoding_isGood 5 ( some FieldType.boolean ) :: zw) { frames := 2, cells := 0, slots := 0, locals := 47 } (zPc E [.ref h, .ref r, .int (iI ((k : Nat) : Int))] (fun H => zO E 2 h [.int (iI (bN utf))] H ∧ zrow E r b H)) (zR (some (.int (iI (bN (sp_good utf b k)))))) 0 0 (fun _ => False) := by
  refine zMet (by decide) (Nat.le_of_ble_eq_true rfl) ?_
  intro p e s m below meth c ls S hr hlk hnm hE ⟨hp, hrow⟩ hl
  have hx := S.1
  have hb := S.2.1
  have hl : lv_has ls 5 [(0, .ref h), (1, .ref r), (2, .int (iI ((k : Nat) : Int)))] := hl
  have hbl := zrow.len hrow
  refine lv_aload_n hx hb d_Encoding_isGood_0 rfl (lv_at hl 0 rfl) ?_
  refine lv_aload_n hx hb d_Encoding_isGood_1 rfl (lv_at hl 1 rfl) ?_
  refine lv_iload_n hx hb d_Encoding_isGood_2 rfl (lv_at hl 2 rfl) ?_
  refine zcR (va_runV (As := [.int (iI ((k : Nat) : Int))]) (rest := [.ref h]) S (c_Row_at l E r b ((k : Nat) : Int) (by omega)) ⟨zcwB (n := 1) S zw_437 zw_2 zw_434 (by decide +kernel) rfl rfl ⟨Nat.le_of_ble_eq_true rfl, Nat.le_of_ble_eq_true rfl⟩, S.2.2.2.2 _ zw_435, S.2.2.2.2 _ zw_436⟩ (zPreVrow hE hrow hrow) rfl rfl hl.1 rfl (lv_room (Nat.le_of_ble_eq_true rfl)) d_Encoding_isGood_3 ⟨Nat.zero_le _, Nat.zero_le _⟩) ?_
  rw [sp_at_in (n := k) (by omega) (by omega)]
  have hb3 := sp_b_lt (zrow.lt hrow) (k)
  refine zcR (va_runV (As := [.int (iI ((sp_b b k : Nat) : Int))]) (rest := []) S (c_Encoding_lengthBehind l E h utf (sp_b b k) (by omega)) ⟨zcwB (n := 1) S zw_441 zw_7 zw_438 (by decide +kernel) rfl rfl ⟨Nat.le_of_ble_eq_true rfl, Nat.le_of_ble_eq_true rfl⟩, S.2.2.2.2 _ zw_439, S.2.2.2.2 _ zw_440⟩ (zPreV hE hp rfl hp) rfl rfl hl.1 rfl (lv_room (Nat.le_of_ble_eq_true rfl)) d_Encoding_isGood_6 ⟨Nat.zero_le _, Nat.zero_le _⟩) ?_
  have hb6 := sp_lead_le utf (sp_b b k)
  refine lv_istore_n (lv' := [(3, .int (iI ((sp_lead utf (sp_b b k) : Nat) : Int))), (0, .ref h), (1, .ref r), (2, .int (iI ((k : Nat) : Int)))]) hx hb d_Encoding_isGood_9 rfl hl (by decide) rfl (fun ls hl => ?_)
  refine lv_iload_n hx hb d_Encoding_isGood_10 rfl (lv_at hl 0 rfl) ?_
  refine zi_if_ne hx hb d_Encoding_isGood_11 rfl (by omega) (fun h11 => ?_) (fun h11 => ?_)
  · have hle := sp_lead_le utf (sp_b b k)
    have h3 : sp_lead utf (sp_b b k) = 1 ∨ sp_lead utf (sp_b b k) = 2 ∨ sp_lead utf (sp_b b k) = 3 ∨ sp_lead utf (sp_b b k) = 4 := by omega
    rcases h3 with e3 | e3 | e3 | e3
    · rw [e3] at hl
      have hl : lv_has ls 5 [(3, .int (iI 1)), (0, .ref h), (1, .ref r), (2, .int (iI ((k : Nat) : Int)))] := hl
      refine zi_iconst hx hb d_Encoding_isGood_16 ?_
      refine lv_istore (lv' := [(4, .int (iI 1)), (3, .int (iI 1)), (0, .ref h), (1, .ref r), (2, .int (iI ((k : Nat) : Int)))]) hx hb d_Encoding_isGood_17 hl (by decide) rfl (fun ls hl => ?_)
      refine lv_iload hx hb d_Encoding_isGood_19 (lv_at hl 0 rfl) ?_
      refine lv_iload_n hx hb d_Encoding_isGood_21 rfl (lv_at hl 1 rfl) ?_
      refine zi_icmp_ge hx hb d_Encoding_isGood_22 rfl (by omega) (by omega) (fun h22 => ?_) (fun h => absurd h (by omega))
      refine lv_aload_n hx hb d_Encoding_isGood_51 rfl (lv_at hl 2 rfl) ?_
      refine lv_aload_n hx hb d_Encoding_isGood_52 rfl (lv_at hl 3 rfl) ?_
      refine lv_iload_n hx hb d_Encoding_isGood_53 rfl (lv_at hl 4 rfl) ?_
      refine zcR (va_runV (As := [.ref r, .int (iI ((k : Nat) : Int))]) (rest := []) S (c_Encoding_characterAt l E h r utf b k (by omega) (by omega)) ⟨zcwB (n := 2) S zw_445 zw_7 zw_442 (by decide +kernel) rfl rfl ⟨Nat.le_of_ble_eq_true rfl, Nat.le_of_ble_eq_true rfl⟩, S.2.2.2.2 _ zw_443, S.2.2.2.2 _ zw_444⟩ (zPreV hE hp rfl ⟨hp, hrow⟩) rfl rfl hl.1 rfl (lv_room (Nat.le_of_ble_eq_true rfl)) d_Encoding_isGood_54 ⟨Nat.zero_le _, Nat.zero_le _⟩) ?_
      have hch := sp_chr_lt utf (zrow.lt hrow) k
      refine lv_istore (lv' := [(4, .int (iI ((sp_chr utf b k : Nat) : Int))), (3, .int (iI 1)), (0, .ref h), (1, .ref r), (2, .int (iI ((k : Nat) : Int)))]) hx hb d_Encoding_isGood_57 hl (by decide) rfl (fun ls hl => ?_)
      refine lv_aload_n hx hb d_Encoding_isGood_59 rfl (lv_at hl 2 rfl) ?_
      refine lv_iload hx hb d_Encoding_isGood_60 (lv_at hl 0 rfl) ?_
      refine zl_i2l hx hb d_Encoding_isGood_62 (by omega) ?_
      refine zcR (va_runV (As := [.long (jL ((sp_chr utf b k : Nat) : Int))]) (rest := []) S (c_Encoding_exists l E h utf (sp_chr utf b k) (by omega)) ⟨zcwB (n := 1) S zw_449 zw_7 zw_446 (by decide +kernel) rfl rfl ⟨Nat.le_of_ble_eq_true rfl, Nat.le_of_ble_eq_true rfl⟩, S.2.2.2.2 _ zw_447, S.2.2.2.2 _ zw_448⟩ (zPreV hE hp rfl hp) rfl rfl hl.1 rfl (lv_room (Nat.le_of_ble_eq_true rfl)) d_Encoding_isGood_63 ⟨Nat.zero_le _, Nat.zero_le _⟩) ?_
      refine zb_ifeq hx hb d_Encoding_isGood_66 rfl (fun h66 => ?_) (fun h66 => ?_)
      · refine zi_iconst hx hb d_Encoding_isGood_83 ?_
        exact zretZ (b := false) S hr hlk d_Encoding_isGood_84 (by refine Eq.symm ?_; unfold sp_good; simp [*] <;> omega)
      · refine lv_aload_n hx hb d_Encoding_isGood_69 rfl (lv_at hl 2 rfl) ?_
        refine lv_iload hx hb d_Encoding_isGood_70 (lv_at hl 0 rfl) ?_
        refine zcR (va_runV (As := [.int (iI ((sp_chr utf b k : Nat) : Int))]) (rest := []) S (c_Encoding_lengthOf l E h utf (sp_chr utf b k) (by omega)) ⟨zcwB (n := 1) S zw_457 zw_7 zw_454 (by decide +kernel) rfl rfl ⟨Nat.le_of_ble_eq_true rfl, Nat.le_of_ble_eq_true rfl⟩, S.2.2.2.2 _ zw_455, S.2.2.2.2 _ zw_456⟩ (zPreV hE hp rfl hp) rfl rfl hl.1 rfl (lv_room (Nat.le_of_ble_eq_true rfl)) d_Encoding_isGood_72 ⟨Nat.zero_le _, Nat.zero_le _⟩) ?_
        have hb72 := sp_len_le utf (sp_chr utf b k)
        refine lv_iload_n hx hb d_Encoding_isGood_75 rfl (lv_at hl 1 rfl) ?_
        refine zi_icmp_ne hx hb d_Encoding_isGood_76 rfl (by omega) (by omega) (fun h76 => ?_) (fun h76 => ?_)
        · refine zi_iconst hx hb d_Encoding_isGood_83 ?_
          exact zretZ (b := false) S hr hlk d_Encoding_isGood_84 (by refine Eq.symm ?_; unfold sp_good; simp [*] <;> omega)
        · refine zi_iconst hx hb d_Encoding_isGood_79 ?_
          refine lv_goto hx hb d_Encoding_isGood_80 rfl ?_
          exact zretZ (b := true) S hr hlk d_Encoding_isGood_84 (by refine Eq.symm ?_; unfold sp_good; simp [*] <;> omega)
    · rw [e3] at hl
      have hl : lv_has ls 5 [(3, .int (iI 2)), (0, .ref h), (1, .ref r), (2, .int (iI ((k : Nat) : Int)))] := hl
      refine zi_iconst hx hb d_Encoding_isGood_16 ?_
      refine lv_istore (lv' := [(4, .int (iI 1)), (3, .int (iI 2)), (0, .ref h), (1, .ref r), (2, .int (iI ((k : Nat) : Int)))]) hx hb d_Encoding_isGood_17 hl (by decide) rfl (fun ls hl => ?_)
      refine lv_iload hx hb d_Encoding_isGood_19 (lv_at hl 0 rfl) ?_
      refine lv_iload_n hx hb d_Encoding_isGood_21 rfl (lv_at hl 1 rfl) ?_
      refine zi_icmp_ge hx hb d_Encoding_isGood_22 rfl (by omega) (by omega) (fun h => absurd h (by omega)) (fun h22 => ?_)
      refine lv_aload_n hx hb d_Encoding_isGood_25 rfl (lv_at hl 3 rfl) ?_
      refine lv_iload_n hx hb d_Encoding_isGood_26 rfl (lv_at hl 4 rfl) ?_
      refine lv_iload hx hb d_Encoding_isGood_27 (lv_at hl 0 rfl) ?_
      refine zi_iadd hx hb d_Encoding_isGood_29 ?_
      refine zcR (va_runV (As := [.int (iI (((k : Nat) : Int) + 1))]) (rest := []) S (c_Row_at l E r b (((k : Nat) : Int) + 1) (by omega)) ⟨zcwB (n := 1) S zw_437 zw_2 zw_434 (by decide +kernel) rfl rfl ⟨Nat.le_of_ble_eq_true rfl, Nat.le_of_ble_eq_true rfl⟩, S.2.2.2.2 _ zw_435, S.2.2.2.2 _ zw_436⟩ (zPreVrow hE hrow hrow) rfl rfl hl.1 rfl (lv_room (Nat.le_of_ble_eq_true rfl)) d_Encoding_isGood_30 ⟨Nat.zero_le _, Nat.zero_le _⟩) ?_
      have hb30 := sp_at_r b (((k : Nat) : Int) + 1) (zrow.lt hrow)
      refine zi_sipush hx hb d_Encoding_isGood_33 (by decide) ?_
      refine zi_iand hx hb d_Encoding_isGood_36 (iI_c0 (by omega) (by omega)) ?_
      refine zi_sipush hx hb d_Encoding_isGood_37 (by decide) ?_
      refine zi_icmp_eq hx hb d_Encoding_isGood_40 rfl (by omega) (by omega) (fun hc => ?_) (fun hc => ?_)
      · have q1 : sp_con b (k + 1) = true := by rw [sp_con_at, show ((k + 1 : Nat) : Int) = (k : Int) + 1 by omega]; exact decide_eq_true (by omega)
        have hq1 : k + 1 < b.length := by unfold sp_con at q1; simp at q1; omega
        refine lv_iinc (k := 0) (v := (iI 2)) (lv' := [(4, .int (iI 2)), (3, .int (iI 2)), (0, .ref h), (1, .ref r), (2, .int (iI ((k : Nat) : Int)))]) hx hb d_Encoding_isGood_45 hl rfl (by decide) (by decide) rfl (fun ls hl => ?_)
        refine lv_goto hx hb d_Encoding_isGood_48 rfl ?_
        refine lv_iload hx hb d_Encoding_isGood_19 (lv_at hl 0 rfl) ?_
        refine lv_iload_n hx hb d_Encoding_isGood_21 rfl (lv_at hl 1 rfl) ?_
        refine zi_icmp_ge hx hb d_Encoding_isGood_22 rfl (by omega) (by omega) (fun h22 => ?_) (fun h => absurd h (by omega))
        refine lv_aload_n hx hb d_Encoding_isGood_51 rfl (lv_at hl 2 rfl) ?_
        refine lv_aload_n hx hb d_Encoding_isGood_52 rfl (lv_at hl 3 rfl) ?_
        refine lv_iload_n hx hb d_Encoding_isGood_53 rfl (lv_at hl 4 rfl) ?_
        refine zcR (va_runV (As := [.ref r, .int (iI ((k : Nat) : Int))]) (rest := []) S (c_Encoding_characterAt l E h r utf b k (by omega) (by omega)) ⟨zcwB (n := 2) S zw_445 zw_7 zw_442 (by decide +kernel) rfl rfl ⟨Nat.le_of_ble_eq_true rfl, Nat.le_of_ble_eq_true rfl⟩, S.2.2.2.2 _ zw_443, S.2.2.2.2 _ zw_444⟩ (zPreV hE hp rfl ⟨hp, hrow⟩) rfl rfl hl.1 rfl (lv_room (Nat.le_of_ble_eq_true rfl)) d_Encoding_isGood_54 ⟨Nat.zero_le _, Nat.zero_le _⟩) ?_
        have hch := sp_chr_lt utf (zrow.lt hrow) k
        refine lv_istore (lv' := [(4, .int (iI ((sp_chr utf b k : Nat) : Int))), (3, .int (iI 2)), (0, .ref h), (1, .ref r), (2, .int (iI ((k : Nat) : Int)))]) hx hb d_Encoding_isGood_57 hl (by decide) rfl (fun ls hl => ?_)
        refine lv_aload_n hx hb d_Encoding_isGood_59 rfl (lv_at hl 2 rfl) ?_
        refine lv_iload hx hb d_Encoding_isGood_60 (lv_at hl 0 rfl) ?_
        refine zl_i2l hx hb d_Encoding_isGood_62 (by omega) ?_
        refine zcR (va_runV (As := [.long (jL ((sp_chr utf b k : Nat) : Int))]) (rest := []) S (c_Encoding_exists l E h utf (sp_chr utf b k) (by omega)) ⟨zcwB (n := 1) S zw_449 zw_7 zw_446 (by decide +kernel) rfl rfl ⟨Nat.le_of_ble_eq_true rfl, Nat.le_of_ble_eq_true rfl⟩, S.2.2.2.2 _ zw_447, S.2.2.2.2 _ zw_448⟩ (zPreV hE hp rfl hp) rfl rfl hl.1 rfl (lv_room (Nat.le_of_ble_eq_true rfl)) d_Encoding_isGood_63 ⟨Nat.zero_le _, Nat.zero_le _⟩) ?_
        refine zb_ifeq hx hb d_Encoding_isGood_66 rfl (fun h66 => ?_) (fun h66 => ?_)
        · refine zi_iconst hx hb d_Encoding_isGood_83 ?_
          exact zretZ (b := false) S hr hlk d_Encoding_isGood_84 (by refine Eq.symm ?_; unfold sp_good; simp [*] <;> omega)
        · refine lv_aload_n hx hb d_Encoding_isGood_69 rfl (lv_at hl 2 rfl) ?_
          refine lv_iload hx hb d_Encoding_isGood_70 (lv_at hl 0 rfl) ?_
          refine zcR (va_runV (As := [.int (iI ((sp_chr utf b k : Nat) : Int))]) (rest := []) S (c_Encoding_lengthOf l E h utf (sp_chr utf b k) (by omega)) ⟨zcwB (n := 1) S zw_457 zw_7 zw_454 (by decide +kernel) rfl rfl ⟨Nat.le_of_ble_eq_true rfl, Nat.le_of_ble_eq_true rfl⟩, S.2.2.2.2 _ zw_455, S.2.2.2.2 _ zw_456⟩ (zPreV hE hp rfl hp) rfl rfl hl.1 rfl (lv_room (Nat.le_of_ble_eq_true rfl)) d_Encoding_isGood_72 ⟨Nat.zero_le _, Nat.zero_le _⟩) ?_
          have hb72 := sp_len_le utf (sp_chr utf b k)
          refine lv_iload_n hx hb d_Encoding_isGood_75 rfl (lv_at hl 1 rfl) ?_
          refine zi_icmp_ne hx hb d_Encoding_isGood_76 rfl (by omega) (by omega) (fun h76 => ?_) (fun h76 => ?_)
          · refine zi_iconst hx hb d_Encoding_isGood_83 ?_
            exact zretZ (b := false) S hr hlk d_Encoding_isGood_84 (by refine Eq.symm ?_; unfold sp_good; simp [*] <;> omega)
          · refine zi_iconst hx hb d_Encoding_isGood_79 ?_
            refine lv_goto hx hb d_Encoding_isGood_80 rfl ?_
            exact zretZ (b := true) S hr hlk d_Encoding_isGood_84 (by refine Eq.symm ?_; unfold sp_good; simp [*] <;> omega)
      · have q1 : sp_con b (k + 1) = false := by rw [sp_con_at, show ((k + 1 : Nat) : Int) = (k : Int) + 1 by omega]; exact decide_eq_false (by omega)
        refine zi_iconst hx hb d_Encoding_isGood_43 ?_
        exact zretZ (b := false) S hr hlk d_Encoding_isGood_44 (by refine Eq.symm ?_; unfold sp_good; simp [*] <;> omega)
    · rw [e3] at hl
      have hl : lv_has ls 5 [(3, .int (iI 3)), (0, .ref h), (1, .ref r), (2, .int (iI ((k : Nat) : Int)))] := hl
      refine zi_iconst hx hb d_Encoding_isGood_16 ?_
      refine lv_istore (lv' := [(4, .int (iI 1)), (3, .int (iI 3)), (0, .ref h), (1, .ref r), (2, .int (iI ((k : Nat) : Int)))]) hx hb d_Encoding_isGood_17 hl (by decide) rfl (fun ls hl => ?_)
      refine lv_iload hx hb d_Encoding_isGood_19 (lv_at hl 0 rfl) ?_
      refine lv_iload_n hx hb d_Encoding_isGood_21 rfl (lv_at hl 1 rfl) ?_
      refine zi_icmp_ge hx hb d_Encoding_isGood_22 rfl (by omega) (by omega) (fun h => absurd h (by omega)) (fun h22 => ?_)
      refine lv_aload_n hx hb d_Encoding_isGood_25 rfl (lv_at hl 3 rfl) ?_
      refine lv_iload_n hx hb d_Encoding_isGood_26 rfl (lv_at hl 4 rfl) ?_
      refine lv_iload hx hb d_Encoding_isGood_27 (lv_at hl 0 rfl) ?_
      refine zi_iadd hx hb d_Encoding_isGood_29 ?_
      refine zcR (va_runV (As := [.int (iI (((k : Nat) : Int) + 1))]) (rest := []) S (c_Row_at l E r b (((k : Nat) : Int) + 1) (by omega)) ⟨zcwB (n := 1) S zw_437 zw_2 zw_434 (by decide +kernel) rfl rfl ⟨Nat.le_of_ble_eq_true rfl, Nat.le_of_ble_eq_true rfl⟩, S.2.2.2.2 _ zw_435, S.2.2.2.2 _ zw_436⟩ (zPreVrow hE hrow hrow) rfl rfl hl.1 rfl (lv_room (Nat.le_of_ble_eq_true rfl)) d_Encoding_isGood_30 ⟨Nat.zero_le _, Nat.zero_le _⟩) ?_
      have hb30 := sp_at_r b (((k : Nat) : Int) + 1) (zrow.lt hrow)
      refine zi_sipush hx hb d_Encoding_isGood_33 (by decide) ?_
      refine zi_iand hx hb d_Encoding_isGood_36 (iI_c0 (by omega) (by omega)) ?_
      refine zi_sipush hx hb d_Encoding_isGood_37 (by decide) ?_
      refine zi_icmp_eq hx hb d_Encoding_isGood_40 rfl (by omega) (by omega) (fun hc => ?_) (fun hc => ?_)
      · have q1 : sp_con b (k + 1) = true := by rw [sp_con_at, show ((k + 1 : Nat) : Int) = (k : Int) + 1 by omega]; exact decide_eq_true (by omega)
        have hq1 : k + 1 < b.length := by unfold sp_con at q1; simp at q1; omega
        refine lv_iinc (k := 0) (v := (iI 2)) (lv' := [(4, .int (iI 2)), (3, .int (iI 3)), (0, .ref h), (1, .ref r), (2, .int (iI ((k : Nat) : Int)))]) hx hb d_Encoding_isGood_45 hl rfl (by decide) (by decide) rfl (fun ls hl => ?_)
        refine lv_goto hx hb d_Encoding_isGood_48 rfl ?_
        refine lv_iload hx hb d_Encoding_isGood_19 (lv_at hl 0 rfl) ?_
        refine lv_iload_n hx hb d_Encoding_isGood_21 rfl (lv_at hl 1 rfl) ?_
        refine zi_icmp_ge hx hb d_Encoding_isGood_22 rfl (by omega) (by omega) (fun h => absurd h (by omega)) (fun h22 => ?_)
        refine lv_aload_n hx hb d_Encoding_isGood_25 rfl (lv_at hl 3 rfl) ?_
        refine lv_iload_n hx hb d_Encoding_isGood_26 rfl (lv_at hl 4 rfl) ?_
        refine lv_iload hx hb d_Encoding_isGood_27 (lv_at hl 0 rfl) ?_
        refine zi_iadd hx hb d_Encoding_isGood_29 ?_
        refine zcR (va_runV (As := [.int (iI (((k : Nat) : Int) + 2))]) (rest := []) S (c_Row_at l E r b (((k : Nat) : Int) + 2) (by omega)) ⟨zcwB (n := 1) S zw_437 zw_2 zw_434 (by decide +kernel) rfl rfl ⟨Nat.le_of_ble_eq_true rfl, Nat.le_of_ble_eq_true rfl⟩, S.2.2.2.2 _ zw_435, S.2.2.2.2 _ zw_436⟩ (zPreVrow hE hrow hrow) rfl rfl hl.1 rfl (lv_room (Nat.le_of_ble_eq_true rfl)) d_Encoding_isGood_30 ⟨Nat.zero_le _, Nat.zero_le _⟩) ?_
        have hb30 := sp_at_r b (((k : Nat) : Int) + 2) (zrow.lt hrow)
        refine zi_sipush hx hb d_Encoding_isGood_33 (by decide) ?_
        refine zi_iand hx hb d_Encoding_isGood_36 (iI_c0 (by omega) (by omega)) ?_
        refine zi_sipush hx hb d_Encoding_isGood_37 (by decide) ?_
        refine zi_icmp_eq hx hb d_Encoding_isGood_40 rfl (by omega) (by omega) (fun hc => ?_) (fun hc => ?_)
        · have q2 : sp_con b (k + 2) = true := by rw [sp_con_at, show ((k + 2 : Nat) : Int) = (k : Int) + 2 by omega]; exact decide_eq_true (by omega)
          have hq2 : k + 2 < b.length := by unfold sp_con at q2; simp at q2; omega
          refine lv_iinc (k := 0) (v := (iI 3)) (lv' := [(4, .int (iI 3)), (3, .int (iI 3)), (0, .ref h), (1, .ref r), (2, .int (iI ((k : Nat) : Int)))]) hx hb d_Encoding_isGood_45 hl rfl (by decide) (by decide) rfl (fun ls hl => ?_)
          refine lv_goto hx hb d_Encoding_isGood_48 rfl ?_
          refine lv_iload hx hb d_Encoding_isGood_19 (lv_at hl 0 rfl) ?_
          refine lv_iload_n hx hb d_Encoding_isGood_21 rfl (lv_at hl 1 rfl) ?_
          refine zi_icmp_ge hx hb d_Encoding_isGood_22 rfl (by omega) (by omega) (fun h22 => ?_) (fun h => absurd h (by omega))
          refine lv_aload_n hx hb d_Encoding_isGood_51 rfl (lv_at hl 2 rfl) ?_
          refine lv_aload_n hx hb d_Encoding_isGood_52 rfl (lv_at hl 3 rfl) ?_
          refine lv_iload_n hx hb d_Encoding_isGood_53 rfl (lv_at hl 4 rfl) ?_
          refine zcR (va_runV (As := [.ref r, .int (iI ((k : Nat) : Int))]) (rest := []) S (c_Encoding_characterAt l E h r utf b k (by omega) (by omega)) ⟨zcwB (n := 2) S zw_445 zw_7 zw_442 (by decide +kernel) rfl rfl ⟨Nat.le_of_ble_eq_true rfl, Nat.le_of_ble_eq_true rfl⟩, S.2.2.2.2 _ zw_443, S.2.2.2.2 _ zw_444⟩ (zPreV hE hp rfl ⟨hp, hrow⟩) rfl rfl hl.1 rfl (lv_room (Nat.le_of_ble_eq_true rfl)) d_Encoding_isGood_54 ⟨Nat.zero_le _, Nat.zero_le _⟩) ?_
          have hch := sp_chr_lt utf (zrow.lt hrow) k
          refine lv_istore (lv' := [(4, .int (iI ((sp_chr utf b k : Nat) : Int))), (3, .int (iI 3)), (0, .ref h), (1, .ref r), (2, .int (iI ((k : Nat) : Int)))]) hx hb d_Encoding_isGood_57 hl (by decide) rfl (fun ls hl => ?_)
          refine lv_aload_n hx hb d_Encoding_isGood_59 rfl (lv_at hl 2 rfl) ?_
          refine lv_iload hx hb d_Encoding_isGood_60 (lv_at hl 0 rfl) ?_
          refine zl_i2l hx hb d_Encoding_isGood_62 (by omega) ?_
          refine zcR (va_runV (As := [.long (jL ((sp_chr utf b k : Nat) : Int))]) (rest := []) S (c_Encoding_exists l E h utf (sp_chr utf b k) (by omega)) ⟨zcwB (n := 1) S zw_449 zw_7 zw_446 (by decide +kernel) rfl rfl ⟨Nat.le_of_ble_eq_true rfl, Nat.le_of_ble_eq_true rfl⟩, S.2.2.2.2 _ zw_447, S.2.2.2.2 _ zw_448⟩ (zPreV hE hp rfl hp) rfl rfl hl.1 rfl (lv_room (Nat.le_of_ble_eq_true rfl)) d_Encoding_isGood_63 ⟨Nat.zero_le _, Nat.zero_le _⟩) ?_
          refine zb_ifeq hx hb d_Encoding_isGood_66 rfl (fun h66 => ?_) (fun h66 => ?_)
          · refine zi_iconst hx hb d_Encoding_isGood_83 ?_
            exact zretZ (b := false) S hr hlk d_Encoding_isGood_84 (by refine Eq.symm ?_; unfold sp_good; simp [*] <;> omega)
          · refine lv_aload_n hx hb d_Encoding_isGood_69 rfl (lv_at hl 2 rfl) ?_
            refine lv_iload hx hb d_Encoding_isGood_70 (lv_at hl 0 rfl) ?_
            refine zcR (va_runV (As := [.int (iI ((sp_chr utf b k : Nat) : Int))]) (rest := []) S (c_Encoding_lengthOf l E h utf (sp_chr utf b k) (by omega)) ⟨zcwB (n := 1) S zw_457 zw_7 zw_454 (by decide +kernel) rfl rfl ⟨Nat.le_of_ble_eq_true rfl, Nat.le_of_ble_eq_true rfl⟩, S.2.2.2.2 _ zw_455, S.2.2.2.2 _ zw_456⟩ (zPreV hE hp rfl hp) rfl rfl hl.1 rfl (lv_room (Nat.le_of_ble_eq_true rfl)) d_Encoding_isGood_72 ⟨Nat.zero_le _, Nat.zero_le _⟩) ?_
            have hb72 := sp_len_le utf (sp_chr utf b k)
            refine lv_iload_n hx hb d_Encoding_isGood_75 rfl (lv_at hl 1 rfl) ?_
            refine zi_icmp_ne hx hb d_Encoding_isGood_76 rfl (by omega) (by omega) (fun h76 => ?_) (fun h76 => ?_)
            · refine zi_iconst hx hb d_Encoding_isGood_83 ?_
              exact zretZ (b := false) S hr hlk d_Encoding_isGood_84 (by refine Eq.symm ?_; unfold sp_good; simp [*] <;> omega)
            · refine zi_iconst hx hb d_Encoding_isGood_79 ?_
              refine lv_goto hx hb d_Encoding_isGood_80 rfl ?_
              exact zretZ (b := true) S hr hlk d_Encoding_isGood_84 (by refine Eq.symm ?_; unfold sp_good; simp [*] <;> omega)
        · have q2 : sp_con b (k + 2) = false := by rw [sp_con_at, show ((k + 2 : Nat) : Int) = (k : Int) + 2 by omega]; exact decide_eq_false (by omega)
          refine zi_iconst hx hb d_Encoding_isGood_43 ?_
          exact zretZ (b := false) S hr hlk d_Encoding_isGood_44 (by refine Eq.symm ?_; unfold sp_good; simp [*] <;> omega)
      · have q1 : sp_con b (k + 1) = false := by rw [sp_con_at, show ((k + 1 : Nat) : Int) = (k : Int) + 1 by omega]; exact decide_eq_false (by omega)
        refine zi_iconst hx hb d_Encoding_isGood_43 ?_
        exact zretZ (b := false) S hr hlk d_Encoding_isGood_44 (by refine Eq.symm ?_; unfold sp_good; simp [*] <;> omega)
    · rw [e3] at hl
      have hl : lv_has ls 5 [(3, .int (iI 4)), (0, .ref h), (1, .ref r), (2, .int (iI ((k : Nat) : Int)))] := hl
      refine zi_iconst hx hb d_Encoding_isGood_16 ?_
      refine lv_istore (lv' := [(4, .int (iI 1)), (3, .int (iI 4)), (0, .ref h), (1, .ref r), (2, .int (iI ((k : Nat) : Int)))]) hx hb d_Encoding_isGood_17 hl (by decide) rfl (fun ls hl => ?_)
      refine lv_iload hx hb d_Encoding_isGood_19 (lv_at hl 0 rfl) ?_
      refine lv_iload_n hx hb d_Encoding_isGood_21 rfl (lv_at hl 1 rfl) ?_
      refine zi_icmp_ge hx hb d_Encoding_isGood_22 rfl (by omega) (by omega) (fun h => absurd h (by omega)) (fun h22 => ?_)
      refine lv_aload_n hx hb d_Encoding_isGood_25 rfl (lv_at hl 3 rfl) ?_
      refine lv_iload_n hx hb d_Encoding_isGood_26 rfl (lv_at hl 4 rfl) ?_
      refine lv_iload hx hb d_Encoding_isGood_27 (lv_at hl 0 rfl) ?_
      refine zi_iadd hx hb d_Encoding_isGood_29 ?_
      refine zcR (va_runV (As := [.int (iI (((k : Nat) : Int) + 1))]) (rest := []) S (c_Row_at l E r b (((k : Nat) : Int) + 1) (by omega)) ⟨zcwB (n := 1) S zw_437 zw_2 zw_434 (by decide +kernel) rfl rfl ⟨Nat.le_of_ble_eq_true rfl, Nat.le_of_ble_eq_true rfl⟩, S.2.2.2.2 _ zw_435, S.2.2.2.2 _ zw_436⟩ (zPreVrow hE hrow hrow) rfl rfl hl.1 rfl (lv_room (Nat.le_of_ble_eq_true rfl)) d_Encoding_isGood_30 ⟨Nat.zero_le _, Nat.zero_le _⟩) ?_
      have hb30 := sp_at_r b (((k : Nat) : Int) + 1) (zrow.lt hrow)
      refine zi_sipush hx hb d_Encoding_isGood_33 (by decide) ?_
      refine zi_iand hx hb d_Encoding_isGood_36 (iI_c0 (by omega) (by omega)) ?_
      refine zi_sipush hx hb d_Encoding_isGood_37 (by decide) ?_
      refine zi_icmp_eq hx hb d_Encoding_isGood_40 rfl (by omega) (by omega) (fun hc => ?_) (fun hc => ?_)
      · have q1 : sp_con b (k + 1) = true := by rw [sp_con_at, show ((k + 1 : Nat) : Int) = (k : Int) + 1 by omega]; exact decide_eq_true (by omega)
        have hq1 : k + 1 < b.length := by unfold sp_con at q1; simp at q1; omega
        refine lv_iinc (k := 0) (v := (iI 2)) (lv' := [(4, .int (iI 2)), (3, .int (iI 4)), (0, .ref h), (1, .ref r), (2, .int (iI ((k : Nat) : Int)))]) hx hb d_Encoding_isGood_45 hl rfl (by decide) (by decide) rfl (fun ls hl => ?_)
        refine lv_goto hx hb d_Encoding_isGood_48 rfl ?_
        refine lv_iload hx hb d_Encoding_isGood_19 (lv_at hl 0 rfl) ?_
        refine lv_iload_n hx hb d_Encoding_isGood_21 rfl (lv_at hl 1 rfl) ?_
        refine zi_icmp_ge hx hb d_Encoding_isGood_22 rfl (by omega) (by omega) (fun h => absurd h (by omega)) (fun h22 => ?_)
        refine lv_aload_n hx hb d_Encoding_isGood_25 rfl (lv_at hl 3 rfl) ?_
        refine lv_iload_n hx hb d_Encoding_isGood_26 rfl (lv_at hl 4 rfl) ?_
        refine lv_iload hx hb d_Encoding_isGood_27 (lv_at hl 0 rfl) ?_
        refine zi_iadd hx hb d_Encoding_isGood_29 ?_
        refine zcR (va_runV (As := [.int (iI (((k : Nat) : Int) + 2))]) (rest := []) S (c_Row_at l E r b (((k : Nat) : Int) + 2) (by omega)) ⟨zcwB (n := 1) S zw_437 zw_2 zw_434 (by decide +kernel) rfl rfl ⟨Nat.le_of_ble_eq_true rfl, Nat.le_of_ble_eq_true rfl⟩, S.2.2.2.2 _ zw_435, S.2.2.2.2 _ zw_436⟩ (zPreVrow hE hrow hrow) rfl rfl hl.1 rfl (lv_room (Nat.le_of_ble_eq_true rfl)) d_Encoding_isGood_30 ⟨Nat.zero_le _, Nat.zero_le _⟩) ?_
        have hb30 := sp_at_r b (((k : Nat) : Int) + 2) (zrow.lt hrow)
        refine zi_sipush hx hb d_Encoding_isGood_33 (by decide) ?_
        refine zi_iand hx hb d_Encoding_isGood_36 (iI_c0 (by omega) (by omega)) ?_
        refine zi_sipush hx hb d_Encoding_isGood_37 (by decide) ?_
        refine zi_icmp_eq hx hb d_Encoding_isGood_40 rfl (by omega) (by omega) (fun hc => ?_) (fun hc => ?_)
        · have q2 : sp_con b (k + 2) = true := by rw [sp_con_at, show ((k + 2 : Nat) : Int) = (k : Int) + 2 by omega]; exact decide_eq_true (by omega)
          have hq2 : k + 2 < b.length := by unfold sp_con at q2; simp at q2; omega
          refine lv_iinc (k := 0) (v := (iI 3)) (lv' := [(4, .int (iI 3)), (3, .int (iI 4)), (0, .ref h), (1, .ref r), (2, .int (iI ((k : Nat) : Int)))]) hx hb d_Encoding_isGood_45 hl rfl (by decide) (by decide) rfl (fun ls hl => ?_)
          refine lv_goto hx hb d_Encoding_isGood_48 rfl ?_
          refine lv_iload hx hb d_Encoding_isGood_19 (lv_at hl 0 rfl) ?_
          refine lv_iload_n hx hb d_Encoding_isGood_21 rfl (lv_at hl 1 rfl) ?_
          refine zi_icmp_ge hx hb d_Encoding_isGood_22 rfl (by omega) (by omega) (fun h => absurd h (by omega)) (fun h22 => ?_)
          refine lv_aload_n hx hb d_Encoding_isGood_25 rfl (lv_at hl 3 rfl) ?_
          refine lv_iload_n hx hb d_Encoding_isGood_26 rfl (lv_at hl 4 rfl) ?_
          refine lv_iload hx hb d_Encoding_isGood_27 (lv_at hl 0 rfl) ?_
          refine zi_iadd hx hb d_Encoding_isGood_29 ?_
          refine zcR (va_runV (As := [.int (iI (((k : Nat) : Int) + 3))]) (rest := []) S (c_Row_at l E r b (((k : Nat) : Int) + 3) (by omega)) ⟨zcwB (n := 1) S zw_437 zw_2 zw_434 (by decide +kernel) rfl rfl ⟨Nat.le_of_ble_eq_true rfl, Nat.le_of_ble_eq_true rfl⟩, S.2.2.2.2 _ zw_435, S.2.2.2.2 _ zw_436⟩ (zPreVrow hE hrow hrow) rfl rfl hl.1 rfl (lv_room (Nat.le_of_ble_eq_true rfl)) d_Encoding_isGood_30 ⟨Nat.zero_le _, Nat.zero_le _⟩) ?_
          have hb30 := sp_at_r b (((k : Nat) : Int) + 3) (zrow.lt hrow)
          refine zi_sipush hx hb d_Encoding_isGood_33 (by decide) ?_
          refine zi_iand hx hb d_Encoding_isGood_36 (iI_c0 (by omega) (by omega)) ?_
          refine zi_sipush hx hb d_Encoding_isGood_37 (by decide) ?_
          refine zi_icmp_eq hx hb d_Encoding_isGood_40 rfl (by omega) (by omega) (fun hc => ?_) (fun hc => ?_)
          · have q3 : sp_con b (k + 3) = true := by rw [sp_con_at, show ((k + 3 : Nat) : Int) = (k : Int) + 3 by omega]; exact decide_eq_true (by omega)
            have hq3 : k + 3 < b.length := by unfold sp_con at q3; simp at q3; omega
            refine lv_iinc (k := 0) (v := (iI 4)) (lv' := [(4, .int (iI 4)), (3, .int (iI 4)), (0, .ref h), (1, .ref r), (2, .int (iI ((k : Nat) : Int)))]) hx hb d_Encoding_isGood_45 hl rfl (by decide) (by decide) rfl (fun ls hl => ?_)
            refine lv_goto hx hb d_Encoding_isGood_48 rfl ?_
            refine lv_iload hx hb d_Encoding_isGood_19 (lv_at hl 0 rfl) ?_
            refine lv_iload_n hx hb d_Encoding_isGood_21 rfl (lv_at hl 1 rfl) ?_
            refine zi_icmp_ge hx hb d_Encoding_isGood_22 rfl (by omega) (by omega) (fun h22 => ?_) (fun h => absurd h (by omega))
            refine lv_aload_n hx hb d_Encoding_isGood_51 rfl (lv_at hl 2 rfl) ?_
            refine lv_aload_n hx hb d_Encoding_isGood_52 rfl (lv_at hl 3 rfl) ?_
            refine lv_iload_n hx hb d_Encoding_isGood_53 rfl (lv_at hl 4 rfl) ?_
            refine zcR (va_runV (As := [.ref r, .int (iI ((k : Nat) : Int))]) (rest := []) S (c_Encoding_characterAt l E h r utf b k (by omega) (by omega)) ⟨zcwB (n := 2) S zw_445 zw_7 zw_442 (by decide +kernel) rfl rfl ⟨Nat.le_of_ble_eq_true rfl, Nat.le_of_ble_eq_true rfl⟩, S.2.2.2.2 _ zw_443, S.2.2.2.2 _ zw_444⟩ (zPreV hE hp rfl ⟨hp, hrow⟩) rfl rfl hl.1 rfl (lv_room (Nat.le_of_ble_eq_true rfl)) d_Encoding_isGood_54 ⟨Nat.zero_le _, Nat.zero_le _⟩) ?_
            have hch := sp_chr_lt utf (zrow.lt hrow) k
            refine lv_istore (lv' := [(4, .int (iI ((sp_chr utf b k : Nat) : Int))), (3, .int (iI 4)), (0, .ref h), (1, .ref r), (2, .int (iI ((k : Nat) : Int)))]) hx hb d_Encoding_isGood_57 hl (by decide) rfl (fun ls hl => ?_)
            refine lv_aload_n hx hb d_Encoding_isGood_59 rfl (lv_at hl 2 rfl) ?_
            refine lv_iload hx hb d_Encoding_isGood_60 (lv_at hl 0 rfl) ?_
            refine zl_i2l hx hb d_Encoding_isGood_62 (by omega) ?_
            refine zcR (va_runV (As := [.long (jL ((sp_chr utf b k : Nat) : Int))]) (rest := []) S (c_Encoding_exists l E h utf (sp_chr utf b k) (by omega)) ⟨zcwB (n := 1) S zw_449 zw_7 zw_446 (by decide +kernel) rfl rfl ⟨Nat.le_of_ble_eq_true rfl, Nat.le_of_ble_eq_true rfl⟩, S.2.2.2.2 _ zw_447, S.2.2.2.2 _ zw_448⟩ (zPreV hE hp rfl hp) rfl rfl hl.1 rfl (lv_room (Nat.le_of_ble_eq_true rfl)) d_Encoding_isGood_63 ⟨Nat.zero_le _, Nat.zero_le _⟩) ?_
            refine zb_ifeq hx hb d_Encoding_isGood_66 rfl (fun h66 => ?_) (fun h66 => ?_)
            · refine zi_iconst hx hb d_Encoding_isGood_83 ?_
              exact zretZ (b := false) S hr hlk d_Encoding_isGood_84 (by refine Eq.symm ?_; unfold sp_good; simp [*] <;> omega)
            · refine lv_aload_n hx hb d_Encoding_isGood_69 rfl (lv_at hl 2 rfl) ?_
              refine lv_iload hx hb d_Encoding_isGood_70 (lv_at hl 0 rfl) ?_
              refine zcR (va_runV (As := [.int (iI ((sp_chr utf b k : Nat) : Int))]) (rest := []) S (c_Encoding_lengthOf l E h utf (sp_chr utf b k) (by omega)) ⟨zcwB (n := 1) S zw_457 zw_7 zw_454 (by decide +kernel) rfl rfl ⟨Nat.le_of_ble_eq_true rfl, Nat.le_of_ble_eq_true rfl⟩, S.2.2.2.2 _ zw_455, S.2.2.2.2 _ zw_456⟩ (zPreV hE hp rfl hp) rfl rfl hl.1 rfl (lv_room (Nat.le_of_ble_eq_true rfl)) d_Encoding_isGood_72 ⟨Nat.zero_le _, Nat.zero_le _⟩) ?_
              have hb72 := sp_len_le utf (sp_chr utf b k)
              refine lv_iload_n hx hb d_Encoding_isGood_75 rfl (lv_at hl 1 rfl) ?_
              refine zi_icmp_ne hx hb d_Encoding_isGood_76 rfl (by omega) (by omega) (fun h76 => ?_) (fun h76 => ?_)
              · refine zi_iconst hx hb d_Encoding_isGood_83 ?_
                exact zretZ (b := false) S hr hlk d_Encoding_isGood_84 (by refine Eq.symm ?_; unfold sp_good; simp [*] <;> omega)
              · refine zi_iconst hx hb d_Encoding_isGood_79 ?_
                refine lv_goto hx hb d_Encoding_isGood_80 rfl ?_
                exact zretZ (b := true) S hr hlk d_Encoding_isGood_84 (by refine Eq.symm ?_; unfold sp_good; simp [*] <;> omega)
          · have q3 : sp_con b (k + 3) = false := by rw [sp_con_at, show ((k + 3 : Nat) : Int) = (k : Int) + 3 by omega]; exact decide_eq_false (by omega)
            refine zi_iconst hx hb d_Encoding_isGood_43 ?_
            exact zretZ (b := false) S hr hlk d_Encoding_isGood_44 (by refine Eq.symm ?_; unfold sp_good; simp [*] <;> omega)
        · have q2 : sp_con b (k + 2) = false := by rw [sp_con_at, show ((k + 2 : Nat) : Int) = (k : Int) + 2 by omega]; exact decide_eq_false (by omega)
          refine zi_iconst hx hb d_Encoding_isGood_43 ?_
          exact zretZ (b := false) S hr hlk d_Encoding_isGood_44 (by refine Eq.symm ?_; unfold sp_good; simp [*] <;> omega)
      · have q1 : sp_con b (k + 1) = false := by rw [sp_con_at, show ((k + 1 : Nat) : Int) = (k : Int) + 1 by omega]; exact decide_eq_false (by omega)
        refine zi_iconst hx hb d_Encoding_isGood_43 ?_
        exact zretZ (b := false) S hr hlk d_Encoding_isGood_44 (by refine Eq.symm ?_; unfold sp_good; simp [*] <;> omega)
  · refine zi_iconst hx hb d_Encoding_isGood_14 ?_
    exact zretZ (b := false) S hr hlk d_Encoding_isGood_15 (by refine Eq.symm ?_; unfold sp_good; simp [*] <;> omega)
