set_option maxRecDepth 100000 in
set_option maxHeartbeats 4000000 in
theorem c_Encoding_firstBad (l : Launch) (E : zP) (h r : Nat) (utf : Bool) (b : List Nat) : Met l y_Encoding_firstBad (.code y_Encoding_firstBad b_Encoding_firstBad 3 ( some FieldType.int ) :: zw) { frames := 3, cells := 0, slots := 0, locals := 71 } (zPc E [.ref h, .ref r] (fun H => zO E 2 h [.int (iI (bN utf))] H ∧ zrow E r b H)) (zR (some (.int (iI (sp_fault utf b))))) 0 0 (fun _ => False) := by
  refine zMet (by decide) (Nat.le_of_ble_eq_true rfl) ?_
  intro p e s m below meth c ls S hr hlk hnm hE ⟨hp, hrow⟩ hl
  have hx := S.1
  have hb := S.2.1
  have hl : lv_has ls 3 [(0, .ref h), (1, .ref r)] := hl
  have hbl := zrow.len hrow
  refine lv_aload_n hx hb d_Encoding_firstBad_0 rfl (lv_at hl 0 rfl) ?_
  refine zgf S hE (ci := 2) rfl i_Encoding hp 0 (by decide) zw_127 rfl d_Encoding_firstBad_1 ?_
  refine zb_ifne hx hb d_Encoding_firstBad_4 rfl (fun h4 => ?_) (fun h4 => ?_)
  · refine zi_iconst hx hb d_Encoding_firstBad_9 ?_
    refine lv_istore_n (lv' := [(2, .int (iI 0)), (0, .ref h), (1, .ref r)]) hx hb d_Encoding_firstBad_10 rfl hl (by decide) rfl (fun ls hl => ?_)
    have key : ∃ (k : Nat) (f : Nat), (b.length ≤ k + f ∧ k ≤ b.length ∧ (sp_dec utf b f k).2 = sp_fault utf b) ∧ lv_has ls 3 [(2, .int (iI ((k : Nat) : Int))), (0, .ref h), (1, .ref r)] := ⟨0, b.length, ⟨by omega, by omega, rfl⟩, hl⟩
    clear hl
    obtain ⟨k, f, hinv, hl⟩ := key
    obtain ⟨n, hn⟩ : ∃ n : Nat, b.length - k < n := ⟨_, Nat.lt_succ_self _⟩
    induction n generalizing k f ls with
    | zero => exact absurd hn (Nat.not_lt_zero _)
    | succ n ih =>
      obtain ⟨h1, h2, h3⟩ := hinv
      refine lv_iload_n hx hb d_Encoding_firstBad_11 rfl (lv_at hl 0 rfl) ?_
      refine lv_aload_n hx hb d_Encoding_firstBad_12 rfl (lv_at hl 2 rfl) ?_
      refine zcR (va_runV (As := []) (rest := [.int (iI ((k : Nat) : Int))]) S (c_Row_length l E r b) ⟨zcwB (n := 0) S zw_258 zw_2 zw_429 (by decide +kernel) rfl rfl ⟨Nat.le_of_ble_eq_true rfl, Nat.le_of_ble_eq_true rfl⟩, S.2.2.2.2 _ zw_256, S.2.2.2.2 _ zw_257⟩ (zPreVrow hE hrow hrow) rfl rfl hl.1 rfl (lv_room (Nat.le_of_ble_eq_true rfl)) d_Encoding_firstBad_13 ⟨Nat.zero_le _, Nat.zero_le _⟩) ?_
      refine zi_icmp_ge hx hb d_Encoding_firstBad_16 rfl (by omega) (by omega) (fun h16 => ?_) (fun h16 => ?_)
      · refine zi_iconst hx hb d_Encoding_firstBad_49 ?_
        exact zretI S hr hlk d_Encoding_firstBad_50 (congrArg iI (by rw [← h3, sp_dec_end (by omega)]))
      · have h16 : k < b.length := by omega
        refine lv_aload_n hx hb d_Encoding_firstBad_19 rfl (lv_at hl 1 rfl) ?_
        refine lv_aload_n hx hb d_Encoding_firstBad_20 rfl (lv_at hl 2 rfl) ?_
        refine lv_iload_n hx hb d_Encoding_firstBad_21 rfl (lv_at hl 0 rfl) ?_
        refine zcR (va_runV (As := [.ref r, .int (iI ((k : Nat) : Int))]) (rest := []) S (c_Encoding_isGood l E h r utf b k (by omega)) ⟨zcwB (n := 2) S zw_433 zw_7 zw_430 (by decide +kernel) rfl rfl ⟨Nat.le_of_ble_eq_true rfl, Nat.le_of_ble_eq_true rfl⟩, S.2.2.2.2 _ zw_432, S.2.2.2.2 _ zs_2⟩ (zPreV hE hp rfl ⟨hp, hrow⟩) rfl rfl hl.1 rfl (lv_room (Nat.le_of_ble_eq_true rfl)) d_Encoding_firstBad_22 ⟨Nat.zero_le _, Nat.zero_le _⟩) ?_
        refine zb_ifne hx hb d_Encoding_firstBad_25 rfl (fun h25 => ?_) (fun h25 => ?_)
        · refine lv_iload_n hx hb d_Encoding_firstBad_30 rfl (lv_at hl 0 rfl) ?_
          refine zi_iconst hx hb d_Encoding_firstBad_31 ?_
          refine lv_aload_n hx hb d_Encoding_firstBad_32 rfl (lv_at hl 1 rfl) ?_
          refine lv_aload_n hx hb d_Encoding_firstBad_33 rfl (lv_at hl 2 rfl) ?_
          refine lv_iload_n hx hb d_Encoding_firstBad_34 rfl (lv_at hl 0 rfl) ?_
          refine zcR (va_runV (As := [.int (iI ((k : Nat) : Int))]) (rest := [.ref h, .int (iI 1), .int (iI ((k : Nat) : Int))]) S (c_Row_at l E r b ((k : Nat) : Int) (by omega)) ⟨zcwB (n := 1) S zw_437 zw_2 zw_434 (by decide +kernel) rfl rfl ⟨Nat.le_of_ble_eq_true rfl, Nat.le_of_ble_eq_true rfl⟩, S.2.2.2.2 _ zw_435, S.2.2.2.2 _ zw_436⟩ (zPreVrow hE hrow hrow) rfl rfl hl.1 rfl (lv_room (Nat.le_of_ble_eq_true rfl)) d_Encoding_firstBad_35 ⟨Nat.zero_le _, Nat.zero_le _⟩) ?_
          rw [sp_at_in (n := k) (by omega) (by omega)]
          have hb35 := sp_b_lt (zrow.lt hrow) (k)
          refine zcR (va_runV (As := [.int (iI ((sp_b b k : Nat) : Int))]) (rest := [.int (iI 1), .int (iI ((k : Nat) : Int))]) S (c_Encoding_lengthBehind l E h utf (sp_b b k) (by omega)) ⟨zcwB (n := 1) S zw_441 zw_7 zw_438 (by decide +kernel) rfl rfl ⟨Nat.le_of_ble_eq_true rfl, Nat.le_of_ble_eq_true rfl⟩, S.2.2.2.2 _ zw_439, S.2.2.2.2 _ zw_440⟩ (zPreV hE hp rfl hp) rfl rfl hl.1 rfl (lv_room (Nat.le_of_ble_eq_true rfl)) d_Encoding_firstBad_38 ⟨Nat.zero_le _, Nat.zero_le _⟩) ?_
          have hb38 := sp_lead_le utf (sp_b b k)
          refine zcR (va_runS (As := [.int (iI 1), .int (iI ((sp_lead utf (sp_b b k) : Nat) : Int))]) (rest := [.int (iI ((k : Nat) : Int))]) S (c_Math_max l E 1 ((sp_lead utf (sp_b b k) : Nat) : Int) (by omega) (by omega)) ⟨zcwB (n := 2) S zw_461 zw_23 zw_459 (by decide +kernel) rfl rfl ⟨Nat.le_of_ble_eq_true rfl, Nat.le_of_ble_eq_true rfl⟩, S.2.2.2.2 _ zw_460⟩ (zPreS hE trivial) rfl rfl hl.1 rfl (lv_room (Nat.le_of_ble_eq_true rfl)) d_Encoding_firstBad_41 ⟨Nat.zero_le _, Nat.zero_le _⟩) ?_
          refine zi_iadd hx hb d_Encoding_firstBad_44 ?_
          refine lv_istore_n (lv' := [(2, .int (iI (((k : Nat) : Int) + (max 1 ((sp_lead utf (sp_b b k) : Nat) : Int))))), (0, .ref h), (1, .ref r)]) hx hb d_Encoding_firstBad_45 rfl hl (by decide) rfl (fun ls hl => ?_)
          have hg1 := sp_good_lead h25
          have hg2 := sp_good_len h16 h25
          rw [show ((k : Nat) : Int) + max 1 ((sp_lead utf (sp_b b k) : Nat) : Int) = ((k + sp_lead utf (sp_b b k) : Nat) : Int) by omega] at hl
          refine lv_goto hx hb d_Encoding_firstBad_46 rfl ?_
          exact ih ls (k + sp_lead utf (sp_b b k)) (f - 1) (⟨by omega, by omega, by rw [← h3]; obtain ⟨f, rfl⟩ : ∃ g, f = g + 1 := ⟨f - 1, by omega⟩; rw [sp_dec_go h16 h25]; rfl⟩) (lv_sub hl [0, 1, 2] rfl) (by omega)
        · refine lv_iload_n hx hb d_Encoding_firstBad_28 rfl (lv_at hl 0 rfl) ?_
          exact zretI S hr hlk d_Encoding_firstBad_29 (congrArg iI (by rw [← h3, sp_dec_bad h1 (by omega) h25]))
  · refine zi_iconst hx hb d_Encoding_firstBad_7 ?_
    exact zretI S hr hlk d_Encoding_firstBad_8 (congrArg iI (by subst h4; exact (sp_fault_false (zrow.lt hrow)).symm))

set_option maxRecDepth 100000 in
set_option maxHeartbeats 4000000 in
theorem c_Encoding_charactersIn (l : Launch) (E : zP) (h r : Nat) (utf : Bool) (b : List Nat) : Met l y_Encoding_charactersIn (.code y_Encoding_charactersIn b_Encoding_charactersIn 4 ( some FieldType.int ) :: zw) { frames := 1, cells := 0, slots := 0, locals := 21 } (zPc E [.ref h, .ref r] (fun H => zO E 2 h [.int (iI (bN utf))] H ∧ zrow E r b H)) (zR (some (.int (iI (sp_cnt utf b : Nat))))) 0 0 (fun _ => False) := by
  refine zMet (by decide) (Nat.le_of_ble_eq_true rfl) ?_
  intro p e s m below meth c ls S hr hlk hnm hE ⟨hp, hrow⟩ hl
  have hx := S.1
  have hb := S.2.1
  have hl : lv_has ls 4 [(0, .ref h), (1, .ref r)] := hl
  have hbl := zrow.len hrow
  refine zi_iconst hx hb d_Encoding_charactersIn_0 ?_
  refine lv_istore_n (lv' := [(2, .int (iI 0)), (0, .ref h), (1, .ref r)]) hx hb d_Encoding_charactersIn_1 rfl hl (by decide) rfl (fun ls hl => ?_)
  refine zi_iconst hx hb d_Encoding_charactersIn_2 ?_
  refine lv_istore_n (lv' := [(3, .int (iI 0)), (2, .int (iI 0)), (0, .ref h), (1, .ref r)]) hx hb d_Encoding_charactersIn_3 rfl hl (by decide) rfl (fun ls hl => ?_)
  have key : ∃ (k : Nat) (n2 : Nat), (k ≤ b.length ∧ n2 = sp_cnt utf (b.take k)) ∧ lv_has ls 4 [(3, .int (iI ((k : Nat) : Int))), (2, .int (iI ((n2 : Nat) : Int))), (0, .ref h), (1, .ref r)] := ⟨0, 0, ⟨by omega, rfl⟩, hl⟩
  clear hl
  obtain ⟨k, n2, hinv, hl⟩ := key
  obtain ⟨n, hn⟩ : ∃ n : Nat, b.length - k < n := ⟨_, Nat.lt_succ_self _⟩
  induction n generalizing k n2 ls with
  | zero => exact absurd hn (Nat.not_lt_zero _)
  | succ n ih =>
    obtain ⟨h1, h2⟩ := hinv
    have h2b := sp_cnt_le utf b k
    refine lv_iload_n hx hb d_Encoding_charactersIn_4 rfl (lv_at hl 0 rfl) ?_
    refine lv_aload_n hx hb d_Encoding_charactersIn_5 rfl (lv_at hl 3 rfl) ?_
    refine zcR (va_runV (As := []) (rest := [.int (iI ((k : Nat) : Int))]) S (c_Row_length l E r b) ⟨zcwB (n := 0) S zw_258 zw_2 zw_429 (by decide +kernel) rfl rfl ⟨Nat.le_of_ble_eq_true rfl, Nat.le_of_ble_eq_true rfl⟩, S.2.2.2.2 _ zw_256, S.2.2.2.2 _ zw_257⟩ (zPreVrow hE hrow hrow) rfl rfl hl.1 rfl (lv_room (Nat.le_of_ble_eq_true rfl)) d_Encoding_charactersIn_6 ⟨Nat.zero_le _, Nat.zero_le _⟩) ?_
    refine zi_icmp_ge hx hb d_Encoding_charactersIn_9 rfl (by omega) (by omega) (fun h9 => ?_) (fun h9 => ?_)
    · refine lv_iload_n hx hb d_Encoding_charactersIn_43 rfl (lv_at hl 1 rfl) ?_
      exact zretI S hr hlk d_Encoding_charactersIn_44 (congrArg iI (by rw [h2, List.take_of_length_le (by omega)]))
    · refine lv_aload_n hx hb d_Encoding_charactersIn_12 rfl (lv_at hl 2 rfl) ?_
      refine zgf S hE (ci := 2) rfl i_Encoding hp 0 (by decide) zw_127 rfl d_Encoding_charactersIn_13 ?_
      refine zb_ifeq hx hb d_Encoding_charactersIn_16 rfl (fun h16 => ?_) (fun h16 => ?_)
      · refine lv_iinc (k := 1) (v := (iI (((n2 : Nat) : Int) + 1))) (lv' := [(2, .int (iI (((n2 : Nat) : Int) + 1))), (3, .int (iI ((k : Nat) : Int))), (0, .ref h), (1, .ref r)]) hx hb d_Encoding_charactersIn_34 hl rfl (iI_add _ _) (by decide) rfl (fun ls hl => ?_)
        refine lv_iinc (k := 1) (v := (iI (((k : Nat) : Int) + 1))) (lv' := [(3, .int (iI (((k : Nat) : Int) + 1))), (2, .int (iI (((n2 : Nat) : Int) + 1))), (0, .ref h), (1, .ref r)]) hx hb d_Encoding_charactersIn_37 hl rfl (iI_add _ _) (by decide) rfl (fun ls hl => ?_)
        refine lv_goto hx hb d_Encoding_charactersIn_40 rfl ?_
        exact ih ls (k + 1) (n2 + 1) (⟨by omega, by rw [sp_cnt_succ utf b k (by omega), ← h2, if_pos (by unfold sp_beg; first | (rw [h16]; rfl) | (simp; omega))]⟩) (lv_sub hl [0, 1, 2, 3] rfl) (by omega)
      · refine lv_aload_n hx hb d_Encoding_charactersIn_19 rfl (lv_at hl 3 rfl) ?_
        refine lv_iload_n hx hb d_Encoding_charactersIn_20 rfl (lv_at hl 0 rfl) ?_
        refine zcR (va_runV (As := [.int (iI ((k : Nat) : Int))]) (rest := []) S (c_Row_at l E r b ((k : Nat) : Int) (by omega)) ⟨zcwB (n := 1) S zw_437 zw_2 zw_434 (by decide +kernel) rfl rfl ⟨Nat.le_of_ble_eq_true rfl, Nat.le_of_ble_eq_true rfl⟩, S.2.2.2.2 _ zw_435, S.2.2.2.2 _ zw_436⟩ (zPreVrow hE hrow hrow) rfl rfl hl.1 rfl (lv_room (Nat.le_of_ble_eq_true rfl)) d_Encoding_charactersIn_21 ⟨Nat.zero_le _, Nat.zero_le _⟩) ?_
        rw [sp_at_in (n := k) (by omega) (by omega)]
        have hb21 := sp_b_lt (zrow.lt hrow) (k)
        refine zi_sipush hx hb d_Encoding_charactersIn_24 (by decide) ?_
        refine zi_iand hx hb d_Encoding_charactersIn_27 (iI_c0 (by omega) (by omega)) ?_
        refine zi_sipush hx hb d_Encoding_charactersIn_28 (by decide) ?_
        refine zi_icmp_eq hx hb d_Encoding_charactersIn_31 rfl (by omega) (by omega) (fun h31 => ?_) (fun h31 => ?_)
        · refine lv_iinc (k := 0) (v := (iI (((k : Nat) : Int) + 1))) (lv' := [(3, .int (iI (((k : Nat) : Int) + 1))), (2, .int (iI ((n2 : Nat) : Int))), (0, .ref h), (1, .ref r)]) hx hb d_Encoding_charactersIn_37 hl rfl (iI_add _ _) (by decide) rfl (fun ls hl => ?_)
          refine lv_goto hx hb d_Encoding_charactersIn_40 rfl ?_
          exact ih ls (k + 1) n2 (⟨by omega, by rw [sp_cnt_succ utf b k (by omega), ← h2, if_neg (by unfold sp_beg; rw [h16]; simp; omega)]; rfl⟩) (lv_sub hl [0, 1, 2, 3] rfl) (by omega)
        · refine lv_iinc (k := 1) (v := (iI (((n2 : Nat) : Int) + 1))) (lv' := [(2, .int (iI (((n2 : Nat) : Int) + 1))), (3, .int (iI ((k : Nat) : Int))), (0, .ref h), (1, .ref r)]) hx hb d_Encoding_charactersIn_34 hl rfl (iI_add _ _) (by decide) rfl (fun ls hl => ?_)
          refine lv_iinc (k := 1) (v := (iI (((k : Nat) : Int) + 1))) (lv' := [(3, .int (iI (((k : Nat) : Int) + 1))), (2, .int (iI (((n2 : Nat) : Int) + 1))), (0, .ref h), (1, .ref r)]) hx hb d_Encoding_charactersIn_37 hl rfl (iI_add _ _) (by decide) rfl (fun ls hl => ?_)
          refine lv_goto hx hb d_Encoding_charactersIn_40 rfl ?_
          exact ih ls (k + 1) (n2 + 1) (⟨by omega, by rw [sp_cnt_succ utf b k (by omega), ← h2, if_pos (by unfold sp_beg; first | (rw [h16]; rfl) | (simp; omega))]⟩) (lv_sub hl [0, 1, 2, 3] rfl) (by omega)
