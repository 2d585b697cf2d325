set_option maxRecDepth 100000 in
set_option maxHeartbeats 4000000 in
theorem c_Encoding_lengthOf (l : Launch) (E : zP) (h : Nat) (utf : Bool) (k : Int) (hk0 : 0 ≤ k) (hk : k < 2147483648) : Met l y_Encoding_lengthOf (.code y_Encoding_lengthOf b_Encoding_lengthOf 2 ( some FieldType.int ) :: zw) { frames := 0, cells := 0, slots := 0, locals := 0 } (zPc E [.ref h, .int (iI k)] (zO E 2 h [.int (iI (bN utf))])) (zR (some (.int (iI (sp_len utf k.toNat : Nat))))) 0 0 (fun _ => False) := by
  refine zMet (by decide) (Nat.le_of_ble_eq_true rfl) ?_
  intro p e s m below meth c ls S hr hlk hnm hE hp hl
  have hx := S.1
  have hb := S.2.1
  have hl : lv_has ls 2 [(0, .ref h), (1, .int (iI k))] := hl
  refine lv_aload_n hx hb d_Encoding_lengthOf_0 rfl (lv_at hl 0 rfl) ?_
  refine zgf S hE (ci := 2) rfl i_Encoding hp 0 (by decide) zw_127 rfl d_Encoding_lengthOf_1 ?_
  refine zb_ifeq hx hb d_Encoding_lengthOf_4 rfl (fun h4 => ?_) (fun h4 => ?_)
  · refine zi_iconst hx hb d_Encoding_lengthOf_14 ?_
    exact zretI S hr hlk d_Encoding_lengthOf_15 (congrArg iI (by subst h4; unfold sp_len; simp only [Bool.true_eq_false, Bool.false_eq_true, reduceCtorEq, false_or, true_or, if_true, if_false, ite_true]; first | rfl | ((repeat' split) <;> omega)))
  · refine lv_iload_n hx hb d_Encoding_lengthOf_7 rfl (lv_at hl 1 rfl) ?_
    refine zi_sipush hx hb d_Encoding_lengthOf_8 (by decide) ?_
    refine zi_icmp_ge hx hb d_Encoding_lengthOf_11 rfl (by omega) (by omega) (fun h11 => ?_) (fun h11 => ?_)
    · refine lv_iload_n hx hb d_Encoding_lengthOf_16 rfl (lv_at hl 1 rfl) ?_
      refine zi_sipush hx hb d_Encoding_lengthOf_17 (by decide) ?_
      refine zi_icmp_ge hx hb d_Encoding_lengthOf_20 rfl (by omega) (by omega) (fun h20 => ?_) (fun h20 => ?_)
      · refine lv_iload_n hx hb d_Encoding_lengthOf_25 rfl (lv_at hl 1 rfl) ?_
        refine zldc (n := 65536) S zw_458 (by decide) d_Encoding_lengthOf_26 ?_
        refine zi_icmp_ge hx hb d_Encoding_lengthOf_28 rfl (by omega) (by omega) (fun h28 => ?_) (fun h28 => ?_)
        · refine zi_iconst hx hb d_Encoding_lengthOf_35 ?_
          exact zretI S hr hlk d_Encoding_lengthOf_36 (congrArg iI (by subst h4; unfold sp_len; simp only [Bool.true_eq_false, Bool.false_eq_true, reduceCtorEq, false_or, true_or, if_true, if_false, ite_true]; first | rfl | ((repeat' split) <;> omega)))
        · refine zi_iconst hx hb d_Encoding_lengthOf_31 ?_
          refine lv_goto hx hb d_Encoding_lengthOf_32 rfl ?_
          exact zretI S hr hlk d_Encoding_lengthOf_36 (congrArg iI (by subst h4; unfold sp_len; simp only [Bool.true_eq_false, Bool.false_eq_true, reduceCtorEq, false_or, true_or, if_true, if_false, ite_true]; first | rfl | ((repeat' split) <;> omega)))
      · refine zi_iconst hx hb d_Encoding_lengthOf_23 ?_
        exact zretI S hr hlk d_Encoding_lengthOf_24 (congrArg iI (by subst h4; unfold sp_len; simp only [Bool.true_eq_false, Bool.false_eq_true, reduceCtorEq, false_or, true_or, if_true, if_false, ite_true]; first | rfl | ((repeat' split) <;> omega)))
    · refine zi_iconst hx hb d_Encoding_lengthOf_14 ?_
      exact zretI S hr hlk d_Encoding_lengthOf_15 (congrArg iI (by subst h4; unfold sp_len; simp only [Bool.true_eq_false, Bool.false_eq_true, reduceCtorEq, false_or, true_or, if_true, if_false, ite_true]; first | rfl | ((repeat' split) <;> omega)))

set_option maxRecDepth 100000 in
set_option maxHeartbeats 4000000 in
theorem c_Encoding_lengthBehind (l : Launch) (E : zP) (h : Nat) (utf : Bool) (k : Int) (hk0 : -1 ≤ k) (hk : k < 256) : Met l y_Encoding_lengthBehind (.code y_Encoding_lengthBehind b_Encoding_lengthBehind 2 ( some FieldType.int ) :: zw) { frames := 0, cells := 0, slots := 0, locals := 0 } (zPc E [.ref h, .int (iI k)] (zO E 2 h [.int (iI (bN utf))])) (zR (some (.int (iI (sp_lead utf k.toNat : Nat))))) 0 0 (fun _ => False) := by
  refine zMet (by decide) (Nat.le_of_ble_eq_true rfl) ?_
  intro p e s m below meth c ls S hr hlk hnm hE hp hl
  have hx := S.1
  have hb := S.2.1
  have hl : lv_has ls 2 [(0, .ref h), (1, .int (iI k))] := hl
  refine lv_aload_n hx hb d_Encoding_lengthBehind_0 rfl (lv_at hl 0 rfl) ?_
  refine zgf S hE (ci := 2) rfl i_Encoding hp 0 (by decide) zw_127 rfl d_Encoding_lengthBehind_1 ?_
  refine zb_ifeq hx hb d_Encoding_lengthBehind_4 rfl (fun h4 => ?_) (fun h4 => ?_)
  · refine zi_iconst hx hb d_Encoding_lengthBehind_14 ?_
    exact zretI S hr hlk d_Encoding_lengthBehind_15 (congrArg iI (by subst h4; unfold sp_lead; simp only [Bool.true_eq_false, Bool.false_eq_true, reduceCtorEq, false_or, true_or, if_true, if_false, ite_true]; first | rfl | ((repeat' split) <;> omega)))
  · refine lv_iload_n hx hb d_Encoding_lengthBehind_7 rfl (lv_at hl 1 rfl) ?_
    refine zi_sipush hx hb d_Encoding_lengthBehind_8 (by decide) ?_
    refine zi_icmp_ge hx hb d_Encoding_lengthBehind_11 rfl (by omega) (by omega) (fun h11 => ?_) (fun h11 => ?_)
    · refine lv_iload_n hx hb d_Encoding_lengthBehind_16 rfl (lv_at hl 1 rfl) ?_
      refine zi_sipush hx hb d_Encoding_lengthBehind_17 (by decide) ?_
      refine zi_icmp_lt hx hb d_Encoding_lengthBehind_20 rfl (by omega) (by omega) (fun h20 => ?_) (fun h20 => ?_)
      · refine zi_iconst hx hb d_Encoding_lengthBehind_30 ?_
        exact zretI S hr hlk d_Encoding_lengthBehind_31 (congrArg iI (by subst h4; unfold sp_lead; simp only [Bool.true_eq_false, Bool.false_eq_true, reduceCtorEq, false_or, true_or, if_true, if_false, ite_true]; first | rfl | ((repeat' split) <;> omega)))
      · refine lv_iload_n hx hb d_Encoding_lengthBehind_23 rfl (lv_at hl 1 rfl) ?_
        refine zi_sipush hx hb d_Encoding_lengthBehind_24 (by decide) ?_
        refine zi_icmp_le hx hb d_Encoding_lengthBehind_27 rfl (by omega) (by omega) (fun h27 => ?_) (fun h27 => ?_)
        · refine lv_iload_n hx hb d_Encoding_lengthBehind_32 rfl (lv_at hl 1 rfl) ?_
          refine zi_sipush hx hb d_Encoding_lengthBehind_33 (by decide) ?_
          refine zi_icmp_ge hx hb d_Encoding_lengthBehind_36 rfl (by omega) (by omega) (fun h36 => ?_) (fun h36 => ?_)
          · refine lv_iload_n hx hb d_Encoding_lengthBehind_41 rfl (lv_at hl 1 rfl) ?_
            refine zi_sipush hx hb d_Encoding_lengthBehind_42 (by decide) ?_
            refine zi_icmp_ge hx hb d_Encoding_lengthBehind_45 rfl (by omega) (by omega) (fun h45 => ?_) (fun h45 => ?_)
            · refine zi_iconst hx hb d_Encoding_lengthBehind_52 ?_
              exact zretI S hr hlk d_Encoding_lengthBehind_53 (congrArg iI (by subst h4; unfold sp_lead; simp only [Bool.true_eq_false, Bool.false_eq_true, reduceCtorEq, false_or, true_or, if_true, if_false, ite_true]; first | rfl | ((repeat' split) <;> omega)))
            · refine zi_iconst hx hb d_Encoding_lengthBehind_48 ?_
              refine lv_goto hx hb d_Encoding_lengthBehind_49 rfl ?_
              exact zretI S hr hlk d_Encoding_lengthBehind_53 (congrArg iI (by subst h4; unfold sp_lead; simp only [Bool.true_eq_false, Bool.false_eq_true, reduceCtorEq, false_or, true_or, if_true, if_false, ite_true]; first | rfl | ((repeat' split) <;> omega)))
          · refine zi_iconst hx hb d_Encoding_lengthBehind_39 ?_
            exact zretI S hr hlk d_Encoding_lengthBehind_40 (congrArg iI (by subst h4; unfold sp_lead; simp only [Bool.true_eq_false, Bool.false_eq_true, reduceCtorEq, false_or, true_or, if_true, if_false, ite_true]; first | rfl | ((repeat' split) <;> omega)))
        · refine zi_iconst hx hb d_Encoding_lengthBehind_30 ?_
          exact zretI S hr hlk d_Encoding_lengthBehind_31 (congrArg iI (by subst h4; unfold sp_lead; simp only [Bool.true_eq_false, Bool.false_eq_true, reduceCtorEq, false_or, true_or, if_true, if_false, ite_true]; first | rfl | ((repeat' split) <;> omega)))
    · refine zi_iconst hx hb d_Encoding_lengthBehind_14 ?_
      exact zretI S hr hlk d_Encoding_lengthBehind_15 (congrArg iI (by subst h4; unfold sp_lead; simp only [Bool.true_eq_false, Bool.false_eq_true, reduceCtorEq, false_or, true_or, if_true, if_false, ite_true]; first | rfl | ((repeat' split) <;> omega)))

set_option maxRecDepth 100000 in
set_option maxHeartbeats 4000000 in
theorem c_Encoding_exists (l : Launch) (E : zP) (h : Nat) (utf : Bool) (k : Int) (hk0 : 0 ≤ k) (hk : k < 1099511627776) : Met l y_Encoding_exists (.code y_Encoding_exists b_Encoding_exists 3 ( some FieldType.boolean ) :: zw) { frames := 0, cells := 0, slots := 0, locals := 0 } (zPc E [.ref h, .long (jL k)] (zO E 2 h [.int (iI (bN utf))])) (zR (some (.int (iI (bN (sp_ok utf k.toNat)))))) 0 0 (fun _ => False) := by
  refine zMet (by decide) (Nat.le_of_ble_eq_true rfl) ?_
  intro p e s m below meth c ls S hr hlk hnm hE hp hl
  have hx := S.1
  have hb := S.2.1
  have hl : lv_has ls 3 [(0, .ref h), (1, .long (jL k))] := hl
  refine lv_aload_n hx hb d_Encoding_exists_0 rfl (lv_at hl 0 rfl) ?_
  refine zgf S hE (ci := 2) rfl i_Encoding hp 0 (by decide) zw_127 rfl d_Encoding_exists_1 ?_
  refine zb_ifne hx hb d_Encoding_exists_4 rfl (fun h4 => ?_) (fun h4 => ?_)
  · refine lv_lload_n hx hb d_Encoding_exists_27 rfl (lv_at hl 1 rfl) ?_
    refine zl_lconst (a := 0) hx hb d_Encoding_exists_28 (by decide) ?_
    refine zl_if_lt hx hb d_Encoding_exists_29 d_Encoding_exists_30 rfl (by omega) (by omega) (fun h30 => ?_) (fun h30 => ?_)
    · refine zi_iconst hx hb d_Encoding_exists_61 ?_
      exact zretZ (b := false) S hr hlk d_Encoding_exists_62 (by refine Eq.symm ?_; unfold sp_ok; subst h4; simp; omega)
    · refine lv_lload_n hx hb d_Encoding_exists_33 rfl (lv_at hl 1 rfl) ?_
      refine zl_ldc2 S zw_451 (show _ = jL 1114111 by decide) d_Encoding_exists_34 ?_
      refine zl_if_gt hx hb d_Encoding_exists_37 d_Encoding_exists_38 rfl (by omega) (by omega) (fun h38 => ?_) (fun h38 => ?_)
      · refine zi_iconst hx hb d_Encoding_exists_61 ?_
        exact zretZ (b := false) S hr hlk d_Encoding_exists_62 (by refine Eq.symm ?_; unfold sp_ok; subst h4; simp; omega)
      · refine lv_lload_n hx hb d_Encoding_exists_41 rfl (lv_at hl 1 rfl) ?_
        refine zl_ldc2 S zw_452 (show _ = jL 55296 by decide) d_Encoding_exists_42 ?_
        refine zl_if_lt hx hb d_Encoding_exists_45 d_Encoding_exists_46 rfl (by omega) (by omega) (fun h46 => ?_) (fun h46 => ?_)
        · refine zi_iconst hx hb d_Encoding_exists_57 ?_
          refine lv_goto hx hb d_Encoding_exists_58 rfl ?_
          exact zretZ (b := true) S hr hlk d_Encoding_exists_62 (by refine Eq.symm ?_; unfold sp_ok; subst h4; simp; omega)
        · refine lv_lload_n hx hb d_Encoding_exists_49 rfl (lv_at hl 1 rfl) ?_
          refine zl_ldc2 S zw_453 (show _ = jL 57343 by decide) d_Encoding_exists_50 ?_
          refine zl_if_le hx hb d_Encoding_exists_53 d_Encoding_exists_54 rfl (by omega) (by omega) (fun h54 => ?_) (fun h54 => ?_)
          · refine zi_iconst hx hb d_Encoding_exists_61 ?_
            exact zretZ (b := false) S hr hlk d_Encoding_exists_62 (by refine Eq.symm ?_; unfold sp_ok; subst h4; simp; omega)
          · refine zi_iconst hx hb d_Encoding_exists_57 ?_
            refine lv_goto hx hb d_Encoding_exists_58 rfl ?_
            exact zretZ (b := true) S hr hlk d_Encoding_exists_62 (by refine Eq.symm ?_; unfold sp_ok; subst h4; simp; omega)
  · refine lv_lload_n hx hb d_Encoding_exists_7 rfl (lv_at hl 1 rfl) ?_
    refine zl_lconst (a := 0) hx hb d_Encoding_exists_8 (by decide) ?_
    refine zl_if_lt hx hb d_Encoding_exists_9 d_Encoding_exists_10 rfl (by omega) (by omega) (fun h10 => ?_) (fun h10 => ?_)
    · refine zi_iconst hx hb d_Encoding_exists_25 ?_
      exact zretZ (b := false) S hr hlk d_Encoding_exists_26 (by refine Eq.symm ?_; unfold sp_ok; subst h4; simp; omega)
    · refine lv_lload_n hx hb d_Encoding_exists_13 rfl (lv_at hl 1 rfl) ?_
      refine zl_ldc2 S zw_450 (show _ = jL 255 by decide) d_Encoding_exists_14 ?_
      refine zl_if_gt hx hb d_Encoding_exists_17 d_Encoding_exists_18 rfl (by omega) (by omega) (fun h18 => ?_) (fun h18 => ?_)
      · refine zi_iconst hx hb d_Encoding_exists_25 ?_
        exact zretZ (b := false) S hr hlk d_Encoding_exists_26 (by refine Eq.symm ?_; unfold sp_ok; subst h4; simp; omega)
      · refine zi_iconst hx hb d_Encoding_exists_21 ?_
        refine lv_goto hx hb d_Encoding_exists_22 rfl ?_
        exact zretZ (b := true) S hr hlk d_Encoding_exists_26 (by refine Eq.symm ?_; unfold sp_ok; subst h4; simp; omega)
