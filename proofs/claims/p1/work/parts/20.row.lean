set_option maxRecDepth 100000 in
set_option maxHeartbeats 4000000 in
theorem c_Row_length (l : Launch) (E : zP) (h : Nat) (b : List Nat) : Met l y_Row_length (.code y_Row_length b_Row_length 1 ( some FieldType.int ) :: zw) { frames := 0, cells := 0, slots := 0, locals := 0 } (zPc E [.ref h] (zrow E h b)) (zR (some (.int (iI (b.length : Nat))))) 0 0 (fun _ => False) := by
  refine zMet (by decide) (Nat.le_of_ble_eq_true rfl) ?_
  intro p e s m below meth c ls S hr hlk hnm hE ⟨most, q, cap, f, hO, hA, hB⟩ hl
  have hx := S.1
  have hb := S.2.1
  have hl : lv_has ls 1 [(0, .ref h)] := hl
  refine lv_aload_n hx hb d_Row_length_0 rfl (lv_at hl 0 rfl) ?_
  refine zgf S hE (ci := 1) rfl i_Row hO 2 (by decide) zw_56 rfl d_Row_length_1 ?_
  exact zretI S hr hlk d_Row_length_4 (rfl)

set_option maxRecDepth 100000 in
set_option maxHeartbeats 4000000 in
theorem c_Row_at (l : Launch) (E : zP) (h : Nat) (b : List Nat) (k : Int) (hk : r32 k) : Met l y_Row_at (.code y_Row_at b_Row_at 2 ( some FieldType.int ) :: zw) { frames := 0, cells := 0, slots := 0, locals := 0 } (zPc E [.ref h, .int (iI k)] (zrow E h b)) (zR (some (.int (iI (sp_at b k))))) 0 0 (fun _ => False) := by
  refine zMet (by decide) (Nat.le_of_ble_eq_true rfl) ?_
  intro p e s m below meth c ls S hr hlk hnm hE ⟨most, q, cap, f, hO, hA, hB⟩ hl
  have hx := S.1
  have hb := S.2.1
  have hl : lv_has ls 2 [(0, .ref h), (1, .int (iI k))] := hl
  have hcap := hB.1
  have hcap2 := hB.2.1
  refine lv_iload_n hx hb d_Row_at_0 rfl (lv_at hl 1 rfl) ?_
  refine zi_if_lt hx hb d_Row_at_1 rfl (by omega) (fun h1 => ?_) (fun h1 => ?_)
  · refine zi_iconst hx hb d_Row_at_25 ?_
    exact zretI S hr hlk d_Row_at_26 (congrArg iI (by unfold sp_at; first | rw [if_pos (by omega)] | rw [if_neg (by omega)]))
  · refine lv_iload_n hx hb d_Row_at_4 rfl (lv_at hl 1 rfl) ?_
    refine lv_aload_n hx hb d_Row_at_5 rfl (lv_at hl 0 rfl) ?_
    refine zgf S hE (ci := 1) rfl i_Row hO 2 (by decide) zw_56 rfl d_Row_at_6 ?_
    refine zi_icmp_ge hx hb d_Row_at_9 rfl (by omega) (by omega) (fun h9 => ?_) (fun h9 => ?_)
    · refine zi_iconst hx hb d_Row_at_25 ?_
      exact zretI S hr hlk d_Row_at_26 (congrArg iI (by unfold sp_at; first | rw [if_pos (by omega)] | rw [if_neg (by omega)]))
    · refine lv_aload_n hx hb d_Row_at_12 rfl (lv_at hl 0 rfl) ?_
      refine zgf S hE (ci := 1) rfl i_Row hO 1 (by decide) zw_55 rfl d_Row_at_13 ?_
      refine lv_iload_n hx hb d_Row_at_16 rfl (lv_at hl 1 rfl) ?_
      refine zbald hx hb hE hA (by omega) (by omega) (by omega) d_Row_at_17 ?_
      refine zi_sipush hx hb d_Row_at_18 (by decide) ?_
      refine lv_iand hx hb d_Row_at_21 ?_
      rw [hB.2.2.2 k.toNat (by omega), sb_iI (getD_lt hB.2.2.1 (by omega))]
      refine lv_goto hx hb d_Row_at_22 rfl ?_
      exact zretI S hr hlk d_Row_at_26 (congrArg iI (by unfold sp_at; first | rw [if_pos (by omega)] | rw [if_neg (by omega)]))

set_option maxRecDepth 100000 in
set_option maxHeartbeats 4000000 in
theorem c_Ascii_isDigit (l : Launch) (E : zP) (k : Int) (hk : r32 k) : Met l y_Ascii_isDigit (.code y_Ascii_isDigit b_Ascii_isDigit 1 ( some FieldType.boolean ) :: zw) { frames := 0, cells := 0, slots := 0, locals := 0 } (zPc E [.int (iI k)] (fun _ => True)) (zR (some (.int (iI (bN (sp_dig k)))))) 0 0 (fun _ => False) := by
  refine zMet (by decide) (Nat.le_of_ble_eq_true rfl) ?_
  intro p e s m below meth c ls S hr hlk hnm hE hp hl
  have hx := S.1
  have hb := S.2.1
  have hl : lv_has ls 1 [(0, .int (iI k))] := hl
  refine lv_iload_n hx hb d_Ascii_isDigit_0 rfl (lv_at hl 0 rfl) ?_
  refine zi_bipush hx hb d_Ascii_isDigit_1 (by decide) ?_
  refine zi_icmp_lt hx hb d_Ascii_isDigit_3 rfl (by omega) (by omega) (fun h3 => ?_) (fun h3 => ?_)
  · refine zi_iconst hx hb d_Ascii_isDigit_16 ?_
    exact zretZ (b := false) S hr hlk d_Ascii_isDigit_17 (by first | exact (decide_eq_true (by omega)).symm | exact (decide_eq_false (by omega)).symm)
  · refine lv_iload_n hx hb d_Ascii_isDigit_6 rfl (lv_at hl 0 rfl) ?_
    refine zi_bipush hx hb d_Ascii_isDigit_7 (by decide) ?_
    refine zi_icmp_gt hx hb d_Ascii_isDigit_9 rfl (by omega) (by omega) (fun h9 => ?_) (fun h9 => ?_)
    · refine zi_iconst hx hb d_Ascii_isDigit_16 ?_
      exact zretZ (b := false) S hr hlk d_Ascii_isDigit_17 (by first | exact (decide_eq_true (by omega)).symm | exact (decide_eq_false (by omega)).symm)
    · refine zi_iconst hx hb d_Ascii_isDigit_12 ?_
      refine lv_goto hx hb d_Ascii_isDigit_13 rfl ?_
      exact zretZ (b := true) S hr hlk d_Ascii_isDigit_17 (by first | exact (decide_eq_true (by omega)).symm | exact (decide_eq_false (by omega)).symm)

set_option maxRecDepth 100000 in
set_option maxHeartbeats 4000000 in
theorem c_Ascii_isLetterOrDigit (l : Launch) (E : zP) (k : Int) (hk : r32 k) : Met l y_Ascii_isLetterOrDigit (.code y_Ascii_isLetterOrDigit b_Ascii_isLetterOrDigit 1 ( some FieldType.boolean ) :: zw) { frames := 1, cells := 0, slots := 0, locals := 20 } (zPc E [.int (iI k)] (fun _ => True)) (zR (some (.int (iI (bN (sp_dig k || sp_let k)))))) 0 0 (fun _ => False) := by
  refine zMet (by decide) (Nat.le_of_ble_eq_true rfl) ?_
  intro p e s m below meth c ls S hr hlk hnm hE hp hl
  have hx := S.1
  have hb := S.2.1
  have hl : lv_has ls 1 [(0, .int (iI k))] := hl
  refine lv_iload_n hx hb d_Ascii_isLetterOrDigit_0 rfl (lv_at hl 0 rfl) ?_
  refine zcR (va_runS (As := [.int (iI k)]) (rest := []) S (c_Ascii_isDigit l E k (by omega)) ⟨zcwB (n := 1) S zw_519 zw_27 zw_526 (by decide +kernel) rfl rfl ⟨Nat.le_of_ble_eq_true rfl, Nat.le_of_ble_eq_true rfl⟩, S.2.2.2.2 _ zw_518⟩ (zPreS hE trivial) rfl rfl hl.1 rfl (lv_room (Nat.le_of_ble_eq_true rfl)) d_Ascii_isLetterOrDigit_1 ⟨Nat.zero_le _, Nat.zero_le _⟩) ?_
  refine zb_ifne hx hb d_Ascii_isLetterOrDigit_4 rfl (fun h4 => ?_) (fun h4 => ?_)
  · refine zi_iconst hx hb d_Ascii_isLetterOrDigit_31 ?_
    refine lv_goto hx hb d_Ascii_isLetterOrDigit_32 rfl ?_
    exact zretZ (b := true) S hr hlk d_Ascii_isLetterOrDigit_36 (by refine Eq.symm ?_; simp only [sp_dig, sp_let, sp_wrd, Bool.or_eq_true, Bool.or_eq_false_iff, decide_eq_true_eq, decide_eq_false_iff_not] at *; omega)
  · refine lv_iload_n hx hb d_Ascii_isLetterOrDigit_7 rfl (lv_at hl 0 rfl) ?_
    refine zi_bipush hx hb d_Ascii_isLetterOrDigit_8 (by decide) ?_
    refine zi_icmp_lt hx hb d_Ascii_isLetterOrDigit_10 rfl (by omega) (by omega) (fun h10 => ?_) (fun h10 => ?_)
    · refine lv_iload_n hx hb d_Ascii_isLetterOrDigit_19 rfl (lv_at hl 0 rfl) ?_
      refine zi_bipush hx hb d_Ascii_isLetterOrDigit_20 (by decide) ?_
      refine zi_icmp_lt hx hb d_Ascii_isLetterOrDigit_22 rfl (by omega) (by omega) (fun h22 => ?_) (fun h22 => ?_)
      · refine zi_iconst hx hb d_Ascii_isLetterOrDigit_35 ?_
        exact zretZ (b := false) S hr hlk d_Ascii_isLetterOrDigit_36 (by refine Eq.symm ?_; simp only [sp_dig, sp_let, sp_wrd, Bool.or_eq_true, Bool.or_eq_false_iff, decide_eq_true_eq, decide_eq_false_iff_not] at *; omega)
      · refine lv_iload_n hx hb d_Ascii_isLetterOrDigit_25 rfl (lv_at hl 0 rfl) ?_
        refine zi_bipush hx hb d_Ascii_isLetterOrDigit_26 (by decide) ?_
        refine zi_icmp_gt hx hb d_Ascii_isLetterOrDigit_28 rfl (by omega) (by omega) (fun h28 => ?_) (fun h28 => ?_)
        · refine zi_iconst hx hb d_Ascii_isLetterOrDigit_35 ?_
          exact zretZ (b := false) S hr hlk d_Ascii_isLetterOrDigit_36 (by refine Eq.symm ?_; simp only [sp_dig, sp_let, sp_wrd, Bool.or_eq_true, Bool.or_eq_false_iff, decide_eq_true_eq, decide_eq_false_iff_not] at *; omega)
        · refine zi_iconst hx hb d_Ascii_isLetterOrDigit_31 ?_
          refine lv_goto hx hb d_Ascii_isLetterOrDigit_32 rfl ?_
          exact zretZ (b := true) S hr hlk d_Ascii_isLetterOrDigit_36 (by refine Eq.symm ?_; simp only [sp_dig, sp_let, sp_wrd, Bool.or_eq_true, Bool.or_eq_false_iff, decide_eq_true_eq, decide_eq_false_iff_not] at *; omega)
    · refine lv_iload_n hx hb d_Ascii_isLetterOrDigit_13 rfl (lv_at hl 0 rfl) ?_
      refine zi_bipush hx hb d_Ascii_isLetterOrDigit_14 (by decide) ?_
      refine zi_icmp_le hx hb d_Ascii_isLetterOrDigit_16 rfl (by omega) (by omega) (fun h16 => ?_) (fun h16 => ?_)
      · refine zi_iconst hx hb d_Ascii_isLetterOrDigit_31 ?_
        refine lv_goto hx hb d_Ascii_isLetterOrDigit_32 rfl ?_
        exact zretZ (b := true) S hr hlk d_Ascii_isLetterOrDigit_36 (by refine Eq.symm ?_; simp only [sp_dig, sp_let, sp_wrd, Bool.or_eq_true, Bool.or_eq_false_iff, decide_eq_true_eq, decide_eq_false_iff_not] at *; omega)
      · refine lv_iload_n hx hb d_Ascii_isLetterOrDigit_19 rfl (lv_at hl 0 rfl) ?_
        refine zi_bipush hx hb d_Ascii_isLetterOrDigit_20 (by decide) ?_
        refine zi_icmp_lt hx hb d_Ascii_isLetterOrDigit_22 rfl (by omega) (by omega) (fun h22 => ?_) (fun h22 => ?_)
        · refine zi_iconst hx hb d_Ascii_isLetterOrDigit_35 ?_
          exact zretZ (b := false) S hr hlk d_Ascii_isLetterOrDigit_36 (by refine Eq.symm ?_; simp only [sp_dig, sp_let, sp_wrd, Bool.or_eq_true, Bool.or_eq_false_iff, decide_eq_true_eq, decide_eq_false_iff_not] at *; omega)
        · refine lv_iload_n hx hb d_Ascii_isLetterOrDigit_25 rfl (lv_at hl 0 rfl) ?_
          refine zi_bipush hx hb d_Ascii_isLetterOrDigit_26 (by decide) ?_
          refine zi_icmp_gt hx hb d_Ascii_isLetterOrDigit_28 rfl (by omega) (by omega) (fun h28 => ?_) (fun h28 => ?_)
          · refine zi_iconst hx hb d_Ascii_isLetterOrDigit_35 ?_
            exact zretZ (b := false) S hr hlk d_Ascii_isLetterOrDigit_36 (by refine Eq.symm ?_; simp only [sp_dig, sp_let, sp_wrd, Bool.or_eq_true, Bool.or_eq_false_iff, decide_eq_true_eq, decide_eq_false_iff_not] at *; omega)
          · refine zi_iconst hx hb d_Ascii_isLetterOrDigit_31 ?_
            refine lv_goto hx hb d_Ascii_isLetterOrDigit_32 rfl ?_
            exact zretZ (b := true) S hr hlk d_Ascii_isLetterOrDigit_36 (by refine Eq.symm ?_; simp only [sp_dig, sp_let, sp_wrd, Bool.or_eq_true, Bool.or_eq_false_iff, decide_eq_true_eq, decide_eq_false_iff_not] at *; omega)

set_option maxRecDepth 100000 in
set_option maxHeartbeats 4000000 in
theorem c_Ascii_isWord (l : Launch) (E : zP) (k : Int) (hk : r32 k) : Met l y_Ascii_isWord (.code y_Ascii_isWord b_Ascii_isWord 1 ( some FieldType.boolean ) :: zw) { frames := 2, cells := 0, slots := 0, locals := 40 } (zPc E [.int (iI k)] (fun _ => True)) (zR (some (.int (iI (bN (sp_wrd k)))))) 0 0 (fun _ => False) := by
  refine zMet (by decide) (Nat.le_of_ble_eq_true rfl) ?_
  intro p e s m below meth c ls S hr hlk hnm hE hp hl
  have hx := S.1
  have hb := S.2.1
  have hl : lv_has ls 1 [(0, .int (iI k))] := hl
  refine lv_iload_n hx hb d_Ascii_isWord_0 rfl (lv_at hl 0 rfl) ?_
  refine zi_bipush hx hb d_Ascii_isWord_1 (by decide) ?_
  refine zi_icmp_eq hx hb d_Ascii_isWord_3 rfl (by omega) (by omega) (fun h3 => ?_) (fun h3 => ?_)
  · refine zi_iconst hx hb d_Ascii_isWord_13 ?_
    refine lv_goto hx hb d_Ascii_isWord_14 rfl ?_
    exact zretZ (b := true) S hr hlk d_Ascii_isWord_18 (by refine Eq.symm ?_; simp only [sp_dig, sp_let, sp_wrd, Bool.or_eq_true, Bool.or_eq_false_iff, decide_eq_true_eq, decide_eq_false_iff_not] at *; omega)
  · refine lv_iload_n hx hb d_Ascii_isWord_6 rfl (lv_at hl 0 rfl) ?_
    refine zcR (va_runS (As := [.int (iI k)]) (rest := []) S (c_Ascii_isLetterOrDigit l E k (by omega)) ⟨zcwB (n := 1) S zw_525 zw_27 zw_523 (by decide +kernel) rfl rfl ⟨Nat.le_of_ble_eq_true rfl, Nat.le_of_ble_eq_true rfl⟩, S.2.2.2.2 _ zw_524⟩ (zPreS hE trivial) rfl rfl hl.1 rfl (lv_room (Nat.le_of_ble_eq_true rfl)) d_Ascii_isWord_7 ⟨Nat.zero_le _, Nat.zero_le _⟩) ?_
    refine zb_ifeq hx hb d_Ascii_isWord_10 rfl (fun h10 => ?_) (fun h10 => ?_)
    · refine zi_iconst hx hb d_Ascii_isWord_17 ?_
      exact zretZ (b := false) S hr hlk d_Ascii_isWord_18 (by refine Eq.symm ?_; simp only [sp_dig, sp_let, sp_wrd, Bool.or_eq_true, Bool.or_eq_false_iff, decide_eq_true_eq, decide_eq_false_iff_not] at *; omega)
    · refine zi_iconst hx hb d_Ascii_isWord_13 ?_
      refine lv_goto hx hb d_Ascii_isWord_14 rfl ?_
      exact zretZ (b := true) S hr hlk d_Ascii_isWord_18 (by refine Eq.symm ?_; simp only [sp_dig, sp_let, sp_wrd, Bool.or_eq_true, Bool.or_eq_false_iff, decide_eq_true_eq, decide_eq_false_iff_not] at *; omega)

set_option maxRecDepth 100000 in
set_option maxHeartbeats 4000000 in
theorem c_Ascii_digit (l : Launch) (E : zP) (k r : Int) (hk : r32 k) (hr0 : 8 ≤ r) (hr1 : r ≤ 16) : Met l y_Ascii_digit (.code y_Ascii_digit b_Ascii_digit 3 ( some FieldType.int ) :: zw) { frames := 0, cells := 0, slots := 0, locals := 0 } (zPc E [.int (iI k), .int (iI r)] (fun _ => True)) (zR (some (.int (iI (if sp_val k < r then sp_val k else -1))))) 0 0 (fun _ => False) := by
  refine zMet (by decide) (Nat.le_of_ble_eq_true rfl) ?_
  intro p e s m below meth c ls S hr hlk hnm hE hp hl
  have hx := S.1
  have hb := S.2.1
  have hl : lv_has ls 3 [(0, .int (iI k)), (1, .int (iI r))] := hl
  refine zi_iconst hx hb d_Ascii_digit_0 ?_
  refine lv_istore_n (lv' := [(2, .int (iI (-1))), (0, .int (iI k)), (1, .int (iI r))]) hx hb d_Ascii_digit_1 rfl hl (by decide) rfl (fun ls hl => ?_)
  refine lv_iload_n hx hb d_Ascii_digit_2 rfl (lv_at hl 1 rfl) ?_
  refine zi_bipush hx hb d_Ascii_digit_3 (by decide) ?_
  refine zi_icmp_lt hx hb d_Ascii_digit_5 rfl (by omega) (by omega) (fun h5 => ?_) (fun h5 => ?_)
  · refine lv_iload_n hx hb d_Ascii_digit_22 rfl (lv_at hl 1 rfl) ?_
    refine zi_bipush hx hb d_Ascii_digit_23 (by decide) ?_
    refine zi_icmp_lt hx hb d_Ascii_digit_25 rfl (by omega) (by omega) (fun h25 => ?_) (fun h25 => ?_)
    · refine lv_iload_n hx hb d_Ascii_digit_45 rfl (lv_at hl 1 rfl) ?_
      refine zi_bipush hx hb d_Ascii_digit_46 (by decide) ?_
      refine zi_icmp_lt hx hb d_Ascii_digit_48 rfl (by omega) (by omega) (fun h48 => ?_) (fun h48 => ?_)
      · refine lv_iload_n hx hb d_Ascii_digit_65 rfl (lv_at hl 0 rfl) ?_
        refine lv_iload_n hx hb d_Ascii_digit_66 rfl (lv_at hl 2 rfl) ?_
        refine zi_icmp_ge hx hb d_Ascii_digit_67 rfl (by omega) (by omega) (fun h67 => ?_) (fun h67 => ?_)
        · refine zi_iconst hx hb d_Ascii_digit_74 ?_
          exact zretI S hr hlk d_Ascii_digit_75 (congrArg iI (by unfold sp_val; omega))
        · refine lv_iload_n hx hb d_Ascii_digit_70 rfl (lv_at hl 0 rfl) ?_
          refine lv_goto hx hb d_Ascii_digit_71 rfl ?_
          exact zretI S hr hlk d_Ascii_digit_75 (congrArg iI (by unfold sp_val; omega))
      · refine lv_iload_n hx hb d_Ascii_digit_51 rfl (lv_at hl 1 rfl) ?_
        refine zi_bipush hx hb d_Ascii_digit_52 (by decide) ?_
        refine zi_icmp_gt hx hb d_Ascii_digit_54 rfl (by omega) (by omega) (fun h54 => ?_) (fun h54 => ?_)
        · refine lv_iload_n hx hb d_Ascii_digit_65 rfl (lv_at hl 0 rfl) ?_
          refine lv_iload_n hx hb d_Ascii_digit_66 rfl (lv_at hl 2 rfl) ?_
          refine zi_icmp_ge hx hb d_Ascii_digit_67 rfl (by omega) (by omega) (fun h67 => ?_) (fun h67 => ?_)
          · refine zi_iconst hx hb d_Ascii_digit_74 ?_
            exact zretI S hr hlk d_Ascii_digit_75 (congrArg iI (by unfold sp_val; omega))
          · refine lv_iload_n hx hb d_Ascii_digit_70 rfl (lv_at hl 0 rfl) ?_
            refine lv_goto hx hb d_Ascii_digit_71 rfl ?_
            exact zretI S hr hlk d_Ascii_digit_75 (congrArg iI (by unfold sp_val; omega))
        · refine lv_iload_n hx hb d_Ascii_digit_57 rfl (lv_at hl 1 rfl) ?_
          refine zi_bipush hx hb d_Ascii_digit_58 (by decide) ?_
          refine zi_isub hx hb d_Ascii_digit_60 ?_
          refine zi_bipush hx hb d_Ascii_digit_61 (by decide) ?_
          refine zi_iadd hx hb d_Ascii_digit_63 ?_
          refine lv_istore_n (lv' := [(2, .int (iI ((k - 65) + 10))), (0, .int (iI k)), (1, .int (iI r))]) hx hb d_Ascii_digit_64 rfl hl (by decide) rfl (fun ls hl => ?_)
          refine lv_iload_n hx hb d_Ascii_digit_65 rfl (lv_at hl 0 rfl) ?_
          refine lv_iload_n hx hb d_Ascii_digit_66 rfl (lv_at hl 2 rfl) ?_
          refine zi_icmp_ge hx hb d_Ascii_digit_67 rfl (by omega) (by omega) (fun h67 => ?_) (fun h67 => ?_)
          · refine zi_iconst hx hb d_Ascii_digit_74 ?_
            exact zretI S hr hlk d_Ascii_digit_75 (congrArg iI (by unfold sp_val; omega))
          · refine lv_iload_n hx hb d_Ascii_digit_70 rfl (lv_at hl 0 rfl) ?_
            refine lv_goto hx hb d_Ascii_digit_71 rfl ?_
            exact zretI S hr hlk d_Ascii_digit_75 (congrArg iI (by unfold sp_val; omega))
    · refine lv_iload_n hx hb d_Ascii_digit_28 rfl (lv_at hl 1 rfl) ?_
      refine zi_bipush hx hb d_Ascii_digit_29 (by decide) ?_
      refine zi_icmp_gt hx hb d_Ascii_digit_31 rfl (by omega) (by omega) (fun h31 => ?_) (fun h31 => ?_)
      · refine lv_iload_n hx hb d_Ascii_digit_45 rfl (lv_at hl 1 rfl) ?_
        refine zi_bipush hx hb d_Ascii_digit_46 (by decide) ?_
        refine zi_icmp_lt hx hb d_Ascii_digit_48 rfl (by omega) (by omega) (fun h48 => ?_) (fun h48 => ?_)
        · refine lv_iload_n hx hb d_Ascii_digit_65 rfl (lv_at hl 0 rfl) ?_
          refine lv_iload_n hx hb d_Ascii_digit_66 rfl (lv_at hl 2 rfl) ?_
          refine zi_icmp_ge hx hb d_Ascii_digit_67 rfl (by omega) (by omega) (fun h67 => ?_) (fun h67 => ?_)
          · refine zi_iconst hx hb d_Ascii_digit_74 ?_
            exact zretI S hr hlk d_Ascii_digit_75 (congrArg iI (by unfold sp_val; omega))
          · refine lv_iload_n hx hb d_Ascii_digit_70 rfl (lv_at hl 0 rfl) ?_
            refine lv_goto hx hb d_Ascii_digit_71 rfl ?_
            exact zretI S hr hlk d_Ascii_digit_75 (congrArg iI (by unfold sp_val; omega))
        · refine lv_iload_n hx hb d_Ascii_digit_51 rfl (lv_at hl 1 rfl) ?_
          refine zi_bipush hx hb d_Ascii_digit_52 (by decide) ?_
          refine zi_icmp_gt hx hb d_Ascii_digit_54 rfl (by omega) (by omega) (fun h54 => ?_) (fun h54 => ?_)
          · refine lv_iload_n hx hb d_Ascii_digit_65 rfl (lv_at hl 0 rfl) ?_
            refine lv_iload_n hx hb d_Ascii_digit_66 rfl (lv_at hl 2 rfl) ?_
            refine zi_icmp_ge hx hb d_Ascii_digit_67 rfl (by omega) (by omega) (fun h67 => ?_) (fun h67 => ?_)
            · refine zi_iconst hx hb d_Ascii_digit_74 ?_
              exact zretI S hr hlk d_Ascii_digit_75 (congrArg iI (by unfold sp_val; omega))
            · refine lv_iload_n hx hb d_Ascii_digit_70 rfl (lv_at hl 0 rfl) ?_
              refine lv_goto hx hb d_Ascii_digit_71 rfl ?_
              exact zretI S hr hlk d_Ascii_digit_75 (congrArg iI (by unfold sp_val; omega))
          · refine lv_iload_n hx hb d_Ascii_digit_57 rfl (lv_at hl 1 rfl) ?_
            refine zi_bipush hx hb d_Ascii_digit_58 (by decide) ?_
            refine zi_isub hx hb d_Ascii_digit_60 ?_
            refine zi_bipush hx hb d_Ascii_digit_61 (by decide) ?_
            refine zi_iadd hx hb d_Ascii_digit_63 ?_
            refine lv_istore_n (lv' := [(2, .int (iI ((k - 65) + 10))), (0, .int (iI k)), (1, .int (iI r))]) hx hb d_Ascii_digit_64 rfl hl (by decide) rfl (fun ls hl => ?_)
            refine lv_iload_n hx hb d_Ascii_digit_65 rfl (lv_at hl 0 rfl) ?_
            refine lv_iload_n hx hb d_Ascii_digit_66 rfl (lv_at hl 2 rfl) ?_
            refine zi_icmp_ge hx hb d_Ascii_digit_67 rfl (by omega) (by omega) (fun h67 => ?_) (fun h67 => ?_)
            · refine zi_iconst hx hb d_Ascii_digit_74 ?_
              exact zretI S hr hlk d_Ascii_digit_75 (congrArg iI (by unfold sp_val; omega))
            · refine lv_iload_n hx hb d_Ascii_digit_70 rfl (lv_at hl 0 rfl) ?_
              refine lv_goto hx hb d_Ascii_digit_71 rfl ?_
              exact zretI S hr hlk d_Ascii_digit_75 (congrArg iI (by unfold sp_val; omega))
      · refine lv_iload_n hx hb d_Ascii_digit_34 rfl (lv_at hl 1 rfl) ?_
        refine zi_bipush hx hb d_Ascii_digit_35 (by decide) ?_
        refine zi_isub hx hb d_Ascii_digit_37 ?_
        refine zi_bipush hx hb d_Ascii_digit_38 (by decide) ?_
        refine zi_iadd hx hb d_Ascii_digit_40 ?_
        refine lv_istore_n (lv' := [(2, .int (iI ((k - 97) + 10))), (0, .int (iI k)), (1, .int (iI r))]) hx hb d_Ascii_digit_41 rfl hl (by decide) rfl (fun ls hl => ?_)
        refine lv_goto hx hb d_Ascii_digit_42 rfl ?_
        refine lv_iload_n hx hb d_Ascii_digit_65 rfl (lv_at hl 0 rfl) ?_
        refine lv_iload_n hx hb d_Ascii_digit_66 rfl (lv_at hl 2 rfl) ?_
        refine zi_icmp_ge hx hb d_Ascii_digit_67 rfl (by omega) (by omega) (fun h67 => ?_) (fun h67 => ?_)
        · refine zi_iconst hx hb d_Ascii_digit_74 ?_
          exact zretI S hr hlk d_Ascii_digit_75 (congrArg iI (by unfold sp_val; omega))
        · refine lv_iload_n hx hb d_Ascii_digit_70 rfl (lv_at hl 0 rfl) ?_
          refine lv_goto hx hb d_Ascii_digit_71 rfl ?_
          exact zretI S hr hlk d_Ascii_digit_75 (congrArg iI (by unfold sp_val; omega))
  · refine lv_iload_n hx hb d_Ascii_digit_8 rfl (lv_at hl 1 rfl) ?_
    refine zi_bipush hx hb d_Ascii_digit_9 (by decide) ?_
    refine zi_icmp_gt hx hb d_Ascii_digit_11 rfl (by omega) (by omega) (fun h11 => ?_) (fun h11 => ?_)
    · refine lv_iload_n hx hb d_Ascii_digit_22 rfl (lv_at hl 1 rfl) ?_
      refine zi_bipush hx hb d_Ascii_digit_23 (by decide) ?_
      refine zi_icmp_lt hx hb d_Ascii_digit_25 rfl (by omega) (by omega) (fun h25 => ?_) (fun h25 => ?_)
      · refine lv_iload_n hx hb d_Ascii_digit_45 rfl (lv_at hl 1 rfl) ?_
        refine zi_bipush hx hb d_Ascii_digit_46 (by decide) ?_
        refine zi_icmp_lt hx hb d_Ascii_digit_48 rfl (by omega) (by omega) (fun h48 => ?_) (fun h48 => ?_)
        · refine lv_iload_n hx hb d_Ascii_digit_65 rfl (lv_at hl 0 rfl) ?_
          refine lv_iload_n hx hb d_Ascii_digit_66 rfl (lv_at hl 2 rfl) ?_
          refine zi_icmp_ge hx hb d_Ascii_digit_67 rfl (by omega) (by omega) (fun h67 => ?_) (fun h67 => ?_)
          · refine zi_iconst hx hb d_Ascii_digit_74 ?_
            exact zretI S hr hlk d_Ascii_digit_75 (congrArg iI (by unfold sp_val; omega))
          · refine lv_iload_n hx hb d_Ascii_digit_70 rfl (lv_at hl 0 rfl) ?_
            refine lv_goto hx hb d_Ascii_digit_71 rfl ?_
            exact zretI S hr hlk d_Ascii_digit_75 (congrArg iI (by unfold sp_val; omega))
        · refine lv_iload_n hx hb d_Ascii_digit_51 rfl (lv_at hl 1 rfl) ?_
          refine zi_bipush hx hb d_Ascii_digit_52 (by decide) ?_
          refine zi_icmp_gt hx hb d_Ascii_digit_54 rfl (by omega) (by omega) (fun h54 => ?_) (fun h54 => ?_)
          · refine lv_iload_n hx hb d_Ascii_digit_65 rfl (lv_at hl 0 rfl) ?_
            refine lv_iload_n hx hb d_Ascii_digit_66 rfl (lv_at hl 2 rfl) ?_
            refine zi_icmp_ge hx hb d_Ascii_digit_67 rfl (by omega) (by omega) (fun h67 => ?_) (fun h67 => ?_)
            · refine zi_iconst hx hb d_Ascii_digit_74 ?_
              exact zretI S hr hlk d_Ascii_digit_75 (congrArg iI (by unfold sp_val; omega))
            · refine lv_iload_n hx hb d_Ascii_digit_70 rfl (lv_at hl 0 rfl) ?_
              refine lv_goto hx hb d_Ascii_digit_71 rfl ?_
              exact zretI S hr hlk d_Ascii_digit_75 (congrArg iI (by unfold sp_val; omega))
          · refine lv_iload_n hx hb d_Ascii_digit_57 rfl (lv_at hl 1 rfl) ?_
            refine zi_bipush hx hb d_Ascii_digit_58 (by decide) ?_
            refine zi_isub hx hb d_Ascii_digit_60 ?_
            refine zi_bipush hx hb d_Ascii_digit_61 (by decide) ?_
            refine zi_iadd hx hb d_Ascii_digit_63 ?_
            refine lv_istore_n (lv' := [(2, .int (iI ((k - 65) + 10))), (0, .int (iI k)), (1, .int (iI r))]) hx hb d_Ascii_digit_64 rfl hl (by decide) rfl (fun ls hl => ?_)
            refine lv_iload_n hx hb d_Ascii_digit_65 rfl (lv_at hl 0 rfl) ?_
            refine lv_iload_n hx hb d_Ascii_digit_66 rfl (lv_at hl 2 rfl) ?_
            refine zi_icmp_ge hx hb d_Ascii_digit_67 rfl (by omega) (by omega) (fun h67 => ?_) (fun h67 => ?_)
            · refine zi_iconst hx hb d_Ascii_digit_74 ?_
              exact zretI S hr hlk d_Ascii_digit_75 (congrArg iI (by unfold sp_val; omega))
            · refine lv_iload_n hx hb d_Ascii_digit_70 rfl (lv_at hl 0 rfl) ?_
              refine lv_goto hx hb d_Ascii_digit_71 rfl ?_
              exact zretI S hr hlk d_Ascii_digit_75 (congrArg iI (by unfold sp_val; omega))
      · refine lv_iload_n hx hb d_Ascii_digit_28 rfl (lv_at hl 1 rfl) ?_
        refine zi_bipush hx hb d_Ascii_digit_29 (by decide) ?_
        refine zi_icmp_gt hx hb d_Ascii_digit_31 rfl (by omega) (by omega) (fun h31 => ?_) (fun h31 => ?_)
        · refine lv_iload_n hx hb d_Ascii_digit_45 rfl (lv_at hl 1 rfl) ?_
          refine zi_bipush hx hb d_Ascii_digit_46 (by decide) ?_
          refine zi_icmp_lt hx hb d_Ascii_digit_48 rfl (by omega) (by omega) (fun h48 => ?_) (fun h48 => ?_)
          · refine lv_iload_n hx hb d_Ascii_digit_65 rfl (lv_at hl 0 rfl) ?_
            refine lv_iload_n hx hb d_Ascii_digit_66 rfl (lv_at hl 2 rfl) ?_
            refine zi_icmp_ge hx hb d_Ascii_digit_67 rfl (by omega) (by omega) (fun h67 => ?_) (fun h67 => ?_)
            · refine zi_iconst hx hb d_Ascii_digit_74 ?_
              exact zretI S hr hlk d_Ascii_digit_75 (congrArg iI (by unfold sp_val; omega))
            · refine lv_iload_n hx hb d_Ascii_digit_70 rfl (lv_at hl 0 rfl) ?_
              refine lv_goto hx hb d_Ascii_digit_71 rfl ?_
              exact zretI S hr hlk d_Ascii_digit_75 (congrArg iI (by unfold sp_val; omega))
          · refine lv_iload_n hx hb d_Ascii_digit_51 rfl (lv_at hl 1 rfl) ?_
            refine zi_bipush hx hb d_Ascii_digit_52 (by decide) ?_
            refine zi_icmp_gt hx hb d_Ascii_digit_54 rfl (by omega) (by omega) (fun h54 => ?_) (fun h54 => ?_)
            · refine lv_iload_n hx hb d_Ascii_digit_65 rfl (lv_at hl 0 rfl) ?_
              refine lv_iload_n hx hb d_Ascii_digit_66 rfl (lv_at hl 2 rfl) ?_
              refine zi_icmp_ge hx hb d_Ascii_digit_67 rfl (by omega) (by omega) (fun h67 => ?_) (fun h67 => ?_)
              · refine zi_iconst hx hb d_Ascii_digit_74 ?_
                exact zretI S hr hlk d_Ascii_digit_75 (congrArg iI (by unfold sp_val; omega))
              · refine lv_iload_n hx hb d_Ascii_digit_70 rfl (lv_at hl 0 rfl) ?_
                refine lv_goto hx hb d_Ascii_digit_71 rfl ?_
                exact zretI S hr hlk d_Ascii_digit_75 (congrArg iI (by unfold sp_val; omega))
            · refine lv_iload_n hx hb d_Ascii_digit_57 rfl (lv_at hl 1 rfl) ?_
              refine zi_bipush hx hb d_Ascii_digit_58 (by decide) ?_
              refine zi_isub hx hb d_Ascii_digit_60 ?_
              refine zi_bipush hx hb d_Ascii_digit_61 (by decide) ?_
              refine zi_iadd hx hb d_Ascii_digit_63 ?_
              refine lv_istore_n (lv' := [(2, .int (iI ((k - 65) + 10))), (0, .int (iI k)), (1, .int (iI r))]) hx hb d_Ascii_digit_64 rfl hl (by decide) rfl (fun ls hl => ?_)
              refine lv_iload_n hx hb d_Ascii_digit_65 rfl (lv_at hl 0 rfl) ?_
              refine lv_iload_n hx hb d_Ascii_digit_66 rfl (lv_at hl 2 rfl) ?_
              refine zi_icmp_ge hx hb d_Ascii_digit_67 rfl (by omega) (by omega) (fun h67 => ?_) (fun h67 => ?_)
              · refine zi_iconst hx hb d_Ascii_digit_74 ?_
                exact zretI S hr hlk d_Ascii_digit_75 (congrArg iI (by unfold sp_val; omega))
              · refine lv_iload_n hx hb d_Ascii_digit_70 rfl (lv_at hl 0 rfl) ?_
                refine lv_goto hx hb d_Ascii_digit_71 rfl ?_
                exact zretI S hr hlk d_Ascii_digit_75 (congrArg iI (by unfold sp_val; omega))
        · refine lv_iload_n hx hb d_Ascii_digit_34 rfl (lv_at hl 1 rfl) ?_
          refine zi_bipush hx hb d_Ascii_digit_35 (by decide) ?_
          refine zi_isub hx hb d_Ascii_digit_37 ?_
          refine zi_bipush hx hb d_Ascii_digit_38 (by decide) ?_
          refine zi_iadd hx hb d_Ascii_digit_40 ?_
          refine lv_istore_n (lv' := [(2, .int (iI ((k - 97) + 10))), (0, .int (iI k)), (1, .int (iI r))]) hx hb d_Ascii_digit_41 rfl hl (by decide) rfl (fun ls hl => ?_)
          refine lv_goto hx hb d_Ascii_digit_42 rfl ?_
          refine lv_iload_n hx hb d_Ascii_digit_65 rfl (lv_at hl 0 rfl) ?_
          refine lv_iload_n hx hb d_Ascii_digit_66 rfl (lv_at hl 2 rfl) ?_
          refine zi_icmp_ge hx hb d_Ascii_digit_67 rfl (by omega) (by omega) (fun h67 => ?_) (fun h67 => ?_)
          · refine zi_iconst hx hb d_Ascii_digit_74 ?_
            exact zretI S hr hlk d_Ascii_digit_75 (congrArg iI (by unfold sp_val; omega))
          · refine lv_iload_n hx hb d_Ascii_digit_70 rfl (lv_at hl 0 rfl) ?_
            refine lv_goto hx hb d_Ascii_digit_71 rfl ?_
            exact zretI S hr hlk d_Ascii_digit_75 (congrArg iI (by unfold sp_val; omega))
    · refine lv_iload_n hx hb d_Ascii_digit_14 rfl (lv_at hl 1 rfl) ?_
      refine zi_bipush hx hb d_Ascii_digit_15 (by decide) ?_
      refine zi_isub hx hb d_Ascii_digit_17 ?_
      refine lv_istore_n (lv' := [(2, .int (iI (k - 48))), (0, .int (iI k)), (1, .int (iI r))]) hx hb d_Ascii_digit_18 rfl hl (by decide) rfl (fun ls hl => ?_)
      refine lv_goto hx hb d_Ascii_digit_19 rfl ?_
      refine lv_iload_n hx hb d_Ascii_digit_65 rfl (lv_at hl 0 rfl) ?_
      refine lv_iload_n hx hb d_Ascii_digit_66 rfl (lv_at hl 2 rfl) ?_
      refine zi_icmp_ge hx hb d_Ascii_digit_67 rfl (by omega) (by omega) (fun h67 => ?_) (fun h67 => ?_)
      · refine zi_iconst hx hb d_Ascii_digit_74 ?_
        exact zretI S hr hlk d_Ascii_digit_75 (congrArg iI (by unfold sp_val; omega))
      · refine lv_iload_n hx hb d_Ascii_digit_70 rfl (lv_at hl 0 rfl) ?_
        refine lv_goto hx hb d_Ascii_digit_71 rfl ?_
        exact zretI S hr hlk d_Ascii_digit_75 (congrArg iI (by unfold sp_val; omega))
