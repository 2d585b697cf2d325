def sp_nameOk (b : List Nat) : Bool := decide (1 ≤ b.length ∧ b.length ≤ 32 ∧ sp_dig ((sp_b b 0 : Nat) : Int) = false ∧ ∀ k, k < b.length → sp_wrd ((sp_b b k : Nat) : Int) = true)
set_option maxRecDepth 100000 in
set_option maxHeartbeats 4000000 in
theorem c_Groups_isName (l : Launch) (E : zP) (r : Nat) (b : List Nat) : Met l y_Groups_isName (.code y_Groups_isName b_Groups_isName 2 ( some FieldType.boolean ) :: zw) { frames := 3, cells := 0, slots := 0, locals := 60 } (zPc E [.ref r] (zrow E r b)) (zR (some (.int (iI (bN (sp_nameOk b)))))) 0 0 (fun _ => False) := by
  refine zMet (by decide) (Nat.le_of_ble_eq_true rfl) ?_
  intro p e s m below meth c ls S hr hlk hnm hE hrow hl
  have hx := S.1
  have hb := S.2.1
  have hl : lv_has ls 2 [(0, .ref r)] := hl
  have hbl := zrow.len hrow
  refine lv_aload_n hx hb d_Groups_isName_0 rfl (lv_at hl 0 rfl) ?_
  refine zcR (va_runV (As := []) (rest := []) S (c_Row_length l E r b) ⟨zcwB (n := 0) S zw_258 zw_2 zw_515 (by decide +kernel) rfl rfl ⟨Nat.le_of_ble_eq_true rfl, Nat.le_of_ble_eq_true rfl⟩, S.2.2.2.2 _ zw_256, S.2.2.2.2 _ zw_257⟩ (zPreVrow hE hrow hrow) rfl rfl hl.1 rfl (lv_room (Nat.le_of_ble_eq_true rfl)) d_Groups_isName_1 ⟨Nat.zero_le _, Nat.zero_le _⟩) ?_
  refine zi_iconst hx hb d_Groups_isName_4 ?_
  refine zi_icmp_lt hx hb d_Groups_isName_5 rfl (by omega) (by omega) (fun h5 => ?_) (fun h5 => ?_)
  · refine zi_iconst hx hb d_Groups_isName_28 ?_
    exact zretZ (b := false) S hr hlk d_Groups_isName_29 (show false = sp_nameOk b from (show sp_nameOk b = false from decide_eq_false (by intro q; obtain ⟨qa, qb, qc, qd⟩ := q; first | omega | (rw [h25] at qc; exact absurd qc (by decide)))).symm)
  · refine lv_aload_n hx hb d_Groups_isName_8 rfl (lv_at hl 0 rfl) ?_
    refine zcR (va_runV (As := []) (rest := []) S (c_Row_length l E r b) ⟨zcwB (n := 0) S zw_258 zw_2 zw_515 (by decide +kernel) rfl rfl ⟨Nat.le_of_ble_eq_true rfl, Nat.le_of_ble_eq_true rfl⟩, S.2.2.2.2 _ zw_256, S.2.2.2.2 _ zw_257⟩ (zPreVrow hE hrow hrow) rfl rfl hl.1 rfl (lv_room (Nat.le_of_ble_eq_true rfl)) d_Groups_isName_9 ⟨Nat.zero_le _, Nat.zero_le _⟩) ?_
    refine zi_bipush hx hb d_Groups_isName_12 (by decide) ?_
    refine zi_icmp_gt hx hb d_Groups_isName_14 rfl (by omega) (by omega) (fun h14 => ?_) (fun h14 => ?_)
    · refine zi_iconst hx hb d_Groups_isName_28 ?_
      exact zretZ (b := false) S hr hlk d_Groups_isName_29 (show false = sp_nameOk b from (show sp_nameOk b = false from decide_eq_false (by intro q; obtain ⟨qa, qb, qc, qd⟩ := q; first | omega | (rw [h25] at qc; exact absurd qc (by decide)))).symm)
    · refine lv_aload_n hx hb d_Groups_isName_17 rfl (lv_at hl 0 rfl) ?_
      refine zi_iconst hx hb d_Groups_isName_18 ?_
      refine zcR (va_runV (As := [.int (iI 0)]) (rest := []) S (c_Row_at l E r b 0 (by omega)) ⟨zcwB (n := 1) S zw_437 zw_2 zw_516 (by decide +kernel) rfl rfl ⟨Nat.le_of_ble_eq_true rfl, Nat.le_of_ble_eq_true rfl⟩, S.2.2.2.2 _ zw_435, S.2.2.2.2 _ zw_436⟩ (zPreVrow hE hrow hrow) rfl rfl hl.1 rfl (lv_room (Nat.le_of_ble_eq_true rfl)) d_Groups_isName_19 ⟨Nat.zero_le _, Nat.zero_le _⟩) ?_
      rw [sp_at_in (n := 0) (by omega) (by omega)]
      have hb19 := sp_b_lt (zrow.lt hrow) (0)
      refine zcR (va_runS (As := [.int (iI ((sp_b b 0 : Nat) : Int))]) (rest := []) S (c_Ascii_isDigit l E ((sp_b b 0 : Nat) : Int) (by omega)) ⟨zcwB (n := 1) S zw_519 zw_27 zw_517 (by decide +kernel) rfl rfl ⟨Nat.le_of_ble_eq_true rfl, Nat.le_of_ble_eq_true rfl⟩, S.2.2.2.2 _ zw_518⟩ (zPreS hE trivial) rfl rfl hl.1 rfl (lv_room (Nat.le_of_ble_eq_true rfl)) d_Groups_isName_22 ⟨Nat.zero_le _, Nat.zero_le _⟩) ?_
      refine zb_ifeq hx hb d_Groups_isName_25 rfl (fun h25 => ?_) (fun h25 => ?_)
      · refine zi_iconst hx hb d_Groups_isName_30 ?_
        refine lv_istore_n (lv' := [(1, .int (iI 0)), (0, .ref r)]) hx hb d_Groups_isName_31 rfl hl (by decide) rfl (fun ls hl => ?_)
        have key : ∃ (k : Nat), (k ≤ b.length ∧ ∀ x, x < k → sp_wrd ((sp_b b x : Nat) : Int) = true) ∧ lv_has ls 2 [(1, .int (iI ((k : Nat) : Int))), (0, .ref r)] := ⟨0, ⟨by omega, fun x hx => absurd hx (Nat.not_lt_zero _)⟩, hl⟩
        clear hl
        obtain ⟨k, hinv, hl⟩ := key
        obtain ⟨n, hn⟩ : ∃ n : Nat, b.length - k < n := ⟨_, Nat.lt_succ_self _⟩
        induction n generalizing k ls with
        | zero => exact absurd hn (Nat.not_lt_zero _)
        | succ n ih =>
          obtain ⟨g1, g2⟩ := hinv
          refine lv_iload_n hx hb d_Groups_isName_32 rfl (lv_at hl 0 rfl) ?_
          refine lv_aload_n hx hb d_Groups_isName_33 rfl (lv_at hl 1 rfl) ?_
          refine zcR (va_runV (As := []) (rest := [.int (iI ((k : Nat) : Int))]) S (c_Row_length l E r b) ⟨zcwB (n := 0) S zw_258 zw_2 zw_515 (by decide +kernel) rfl rfl ⟨Nat.le_of_ble_eq_true rfl, Nat.le_of_ble_eq_true rfl⟩, S.2.2.2.2 _ zw_256, S.2.2.2.2 _ zw_257⟩ (zPreVrow hE hrow hrow) rfl rfl hl.1 rfl (lv_room (Nat.le_of_ble_eq_true rfl)) d_Groups_isName_34 ⟨Nat.zero_le _, Nat.zero_le _⟩) ?_
          refine zi_icmp_ge hx hb d_Groups_isName_37 rfl (by omega) (by omega) (fun h37 => ?_) (fun h37 => ?_)
          · refine zi_iconst hx hb d_Groups_isName_59 ?_
            exact zretZ (b := true) S hr hlk d_Groups_isName_60 (show true = sp_nameOk b from (show sp_nameOk b = true from decide_eq_true ⟨by omega, by omega, h25, fun x hx => g2 x (by omega)⟩).symm)
          · refine lv_aload_n hx hb d_Groups_isName_40 rfl (lv_at hl 1 rfl) ?_
            refine lv_iload_n hx hb d_Groups_isName_41 rfl (lv_at hl 0 rfl) ?_
            refine zcR (va_runV (As := [.int (iI ((k : Nat) : Int))]) (rest := []) S (c_Row_at l E r b ((k : Nat) : Int) (by omega)) ⟨zcwB (n := 1) S zw_437 zw_2 zw_516 (by decide +kernel) rfl rfl ⟨Nat.le_of_ble_eq_true rfl, Nat.le_of_ble_eq_true rfl⟩, S.2.2.2.2 _ zw_435, S.2.2.2.2 _ zw_436⟩ (zPreVrow hE hrow hrow) rfl rfl hl.1 rfl (lv_room (Nat.le_of_ble_eq_true rfl)) d_Groups_isName_42 ⟨Nat.zero_le _, Nat.zero_le _⟩) ?_
            rw [sp_at_in (n := k) (by omega) (by omega)]
            have hb42 := sp_b_lt (zrow.lt hrow) (k)
            refine zcR (va_runS (As := [.int (iI ((sp_b b k : Nat) : Int))]) (rest := []) S (c_Ascii_isWord l E ((sp_b b k : Nat) : Int) (by omega)) ⟨zcwB (n := 1) S zw_522 zw_27 zw_520 (by decide +kernel) rfl rfl ⟨Nat.le_of_ble_eq_true rfl, Nat.le_of_ble_eq_true rfl⟩, S.2.2.2.2 _ zw_521⟩ (zPreS hE trivial) rfl rfl hl.1 rfl (lv_room (Nat.le_of_ble_eq_true rfl)) d_Groups_isName_45 ⟨Nat.zero_le _, Nat.zero_le _⟩) ?_
            refine zb_ifne hx hb d_Groups_isName_48 rfl (fun h48 => ?_) (fun h48 => ?_)
            · refine lv_iinc (k := 0) (v := (iI (((k : Nat) : Int) + 1))) (lv' := [(1, .int (iI (((k : Nat) : Int) + 1))), (0, .ref r)]) hx hb d_Groups_isName_53 hl rfl (iI_add _ _) (by decide) rfl (fun ls hl => ?_)
              refine lv_goto hx hb d_Groups_isName_56 rfl ?_
              exact ih ls (k + 1) (⟨by omega, fun x hx => by rcases Nat.lt_or_eq_of_le (Nat.le_of_lt_succ hx) with q | q; exact g2 x q; rw [q]; exact h48⟩) (lv_sub hl [0, 1] rfl) (by omega)
            · refine zi_iconst hx hb d_Groups_isName_51 ?_
              exact zretZ (b := false) S hr hlk d_Groups_isName_52 (show false = sp_nameOk b from (show sp_nameOk b = false from decide_eq_false (by intro q; have qd := q.2.2.2 k (by omega); rw [h48] at qd; exact absurd qd (by decide))).symm)
      · refine zi_iconst hx hb d_Groups_isName_28 ?_
        exact zretZ (b := false) S hr hlk d_Groups_isName_29 (show false = sp_nameOk b from (show sp_nameOk b = false from decide_eq_false (by intro q; obtain ⟨qa, qb, qc, qd⟩ := q; first | omega | (rw [h25] at qc; exact absurd qc (by decide)))).symm)
