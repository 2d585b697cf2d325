set_option maxRecDepth 100000 in
set_option maxHeartbeats 4000000 in
theorem c_RW_result (l : Launch) (E : zP) (x en tx gr h w ca rb t1 t2 : Nat) (lc lo : Int) (fl : Bool) (bo : List Nat) (k : Nat) (hk : k < bo.length) : Met l y_RW_result (.code y_RW_result b_RW_result 3 ( some FieldType.int ) :: zw) { frames := 1, cells := 0, slots := 0, locals := 21 } (zPc E [.ref x, .int (iI ((k : Nat) : Int))] (fun H => zO E 0 x [.ref en, .ref tx, .ref gr, .ref h, .ref w, .int (iI lc), .int (iI lo)] H ∧ zO E 6 h [.ref en, .ref ca, .ref rb, .ref t1, .ref t2, .int (iI (bN fl))] H ∧ zrow E rb bo H)) (zR (some (.int (iI ((sp_b bo k : Nat) : Int))))) 0 0 (fun _ => False) := by
  refine zMet (by decide) (Nat.le_of_ble_eq_true rfl) ?_
  intro p e s m below meth c ls S hr hlk hnm hE ⟨hX, hH, hrow⟩ hl
  have hx := S.1
  have hb := S.2.1
  have hl : lv_has ls 3 [(0, .ref x), (1, .int (iI ((k : Nat) : Int)))] := hl
  have hbl := zrow.len hrow
  have hat : sp_at bo ((k : Nat) : Int) = ((sp_b bo k : Nat) : Int) := by unfold sp_at sp_b; rw [if_pos ⟨by omega, by omega⟩, Int.toNat_natCast]
  have hbb : sp_b bo k < 256 := getD_lt (zrow.lt hrow) hk
  refine lv_aload_n hx hb d_RW_result_0 rfl (lv_at hl 0 rfl) ?_
  refine zgf S hE (ci := 0) rfl i_RW hX 3 (by decide) zw_232 rfl d_RW_result_1 ?_
  refine zcR (va_runV (As := []) (rest := []) S (c_Output_bytes l E h en ca rb t1 t2 fl) ⟨zcwB (n := 0) S zw_262 zw_8 zw_259 (by decide +kernel) rfl rfl ⟨Nat.le_of_ble_eq_true rfl, Nat.le_of_ble_eq_true rfl⟩, S.2.2.2.2 _ zw_260, S.2.2.2.2 _ zw_261⟩ (zPreV hE hH rfl hH) rfl rfl hl.1 rfl (lv_room (Nat.le_of_ble_eq_true rfl)) d_RW_result_4 ⟨Nat.zero_le _, Nat.zero_le _⟩) ?_
  refine lv_iload_n hx hb d_RW_result_7 rfl (lv_at hl 1 rfl) ?_
  refine zcR (va_runV (As := [.int (iI ((k : Nat) : Int))]) (rest := []) S (c_Row_at l E rb bo ((k : Nat) : Int) ⟨by omega, by omega⟩) ⟨zcwB (n := 1) S zw_437 zw_2 zw_841 (by decide +kernel) rfl rfl ⟨Nat.le_of_ble_eq_true rfl, Nat.le_of_ble_eq_true rfl⟩, S.2.2.2.2 _ zw_435, S.2.2.2.2 _ zw_436⟩ (zPreVrow hE hrow hrow) rfl rfl hl.1 rfl (lv_room (Nat.le_of_ble_eq_true rfl)) d_RW_result_8 ⟨Nat.zero_le _, Nat.zero_le _⟩) ?_
  refine lv_istore_n (lv' := [(2, .int (iI (sp_at bo ((k : Nat) : Int)))), (0, .ref x), (1, .int (iI ((k : Nat) : Int)))]) hx hb d_RW_result_11 rfl hl (by decide) rfl (fun ls hl => ?_)
  refine lv_iload_n hx hb d_RW_result_12 rfl (lv_at hl 0 rfl) ?_
  refine zi_if_ge hx hb d_RW_result_13 rfl (by omega) (fun h13 => ?_) (fun h13 => absurd h13 (by omega))
  refine lv_iload_n hx hb d_RW_result_24 rfl (lv_at hl 0 rfl) ?_
  exact zretI S hr hlk d_RW_result_25 (congrArg iI hat)

set_option maxRecDepth 100000 in
set_option maxHeartbeats 4000000 in
theorem cx_RW_result (l : Launch) (htl : ∀ e : Env, l.admits e → e.platform.stackTraces = false) (E : zP) (sz : Nat) (x en tx gr h w ca rb t1 t2 : Nat) (lc lo : Int) (fl : Bool) (q cap : Nat) (f : Nat → Int32) (bo : List Nat) (k : Int) (hB : zbytes bo cap f) (hk0 : r32 k) (hk : k < 0 ∨ ((bo.length : Nat) : Int) ≤ k) : MetX l y_RW_result (.code y_RW_result b_RW_result 3 ( some FieldType.int ) :: zw) { frames := 7, cells := 1, slots := 6, locals := 81 } (zPc E [.ref x, .int (iI k)] (fun H => H.size = sz ∧ va_P E.1 zcl [(x, .inr (0, [.ref en, .ref tx, .ref gr, .ref h, .ref w, .int (iI lc), .int (iI lo)])), (h, .inr (6, [.ref en, .ref ca, .ref rb, .ref t1, .ref t2, .int (iI (bN fl))])), (rb, .inr (1, [.int (iI 262144), .ref q, .int (iI ((bo.length : Nat) : Int))])), (q, .inl (E.2.1 0, cap, .inl f))] H ∧ va_D (zOld E) [(x, .inr (0, [.ref en, .ref tx, .ref gr, .ref h, .ref w, .int (iI lc), .int (iI lo)])), (h, .inr (6, [.ref en, .ref ca, .ref rb, .ref t1, .ref t2, .int (iI (bN fl))])), (rb, .inr (1, [.int (iI 262144), .ref q, .int (iI ((bo.length : Nat) : Int))])), (q, .inl (E.2.1 0, cap, .inl f))] ∧ (True))) (zX "java/lang/IndexOutOfBoundsException" (fun H => va_P E.1 zcl [(x, .inr (0, [.ref en, .ref tx, .ref gr, .ref h, .ref w, .int (iI lc), .int (iI lo)])), (h, .inr (6, [.ref en, .ref ca, .ref rb, .ref t1, .ref t2, .int (iI (bN fl))])), (rb, .inr (1, [.int (iI 262144), .ref q, .int (iI ((bo.length : Nat) : Int))])), (q, .inl (E.2.1 0, cap, .inl f))] H) (va_A [(x, .inr (0, [.ref en, .ref tx, .ref gr, .ref h, .ref w, .int (iI lc), .int (iI lo)])), (h, .inr (6, [.ref en, .ref ca, .ref rb, .ref t1, .ref t2, .int (iI (bN fl))])), (rb, .inr (1, [.int (iI 262144), .ref q, .int (iI ((bo.length : Nat) : Int))])), (q, .inl (E.2.1 0, cap, .inl f))] sz)) (1) (6) (va_A [(x, .inr (0, [.ref en, .ref tx, .ref gr, .ref h, .ref w, .int (iI lc), .int (iI lo)])), (h, .inr (6, [.ref en, .ref ca, .ref rb, .ref t1, .ref t2, .int (iI (bN fl))])), (rb, .inr (1, [.int (iI 262144), .ref q, .int (iI ((bo.length : Nat) : Int))])), (q, .inl (E.2.1 0, cap, .inl f))] sz) := by
  refine zMetX (by decide) (Nat.le_of_ble_eq_true rfl) ?_
  intro p e s m below meth c ls S hr hlk hnm hnh hadm hE ⟨hsz, hP, hDo, hX⟩ hl
  have hx := S.1
  have hb := S.2.1
  have hE0 := hE
  have hl : lv_has ls 3 [(0, .ref x), (1, .int (iI k))] := hl
  subst hsz
  have hD := hDo.self (sz := s.heap.size)
  generalize hAe : va_A [(x, .inr (0, [.ref en, .ref tx, .ref gr, .ref h, .ref w, .int (iI lc), .int (iI lo)])), (h, .inr (6, [.ref en, .ref ca, .ref rb, .ref t1, .ref t2, .int (iI (bN fl))])), (rb, .inr (1, [.int (iI 262144), .ref q, .int (iI ((bo.length : Nat) : Int))])), (q, .inl (E.2.1 0, cap, .inl f))] s.heap.size = A at hD ⊢
  have hA : ∀ q : Nat, s.heap.size ≤ q → A q := fun q h => by rw [← hAe]; exact Or.inr h
  have hA0 := zA0 hE hDo hAe
  have hS : va_S A s.heap s.heap [] := va_S.rf
  obtain ⟨hka, hkb⟩ := hk0
  have hat : sp_at bo k = -1 := by unfold sp_at; rw [if_neg (by omega)]
  refine lv_aload_n hx hb d_RW_result_0 rfl (lv_at hl 0 rfl) ?_
  refine zgf S hE (ci := 0) rfl i_RW (hP 0 _ rfl) 3 (by decide) zw_232 rfl d_RW_result_1 ?_
  refine zcR (va_runV (As := []) (rest := []) S (c_Output_bytes l E h en ca rb t1 t2 fl) ⟨zcwB (n := 0) S zw_262 zw_8 zw_259 (by decide +kernel) rfl rfl ⟨Nat.le_of_ble_eq_true rfl, Nat.le_of_ble_eq_true rfl⟩, S.2.2.2.2 _ zw_260, S.2.2.2.2 _ zw_261⟩ (zPreV hE (hP 1 _ rfl) rfl (hP 1 _ rfl)) rfl rfl hl.1 rfl (lv_room (Nat.le_of_ble_eq_true rfl)) d_RW_result_4 ⟨by (try dsimp only); omega, by (try dsimp only); omega⟩) ?_
  refine lv_iload_n hx hb d_RW_result_7 rfl (lv_at hl 1 rfl) ?_
  refine zcR (va_runV (As := [.int (iI k)]) (rest := []) S (c_Row_at l E rb bo k ⟨by omega, by omega⟩) ⟨zcwB (n := 1) S zw_437 zw_2 zw_841 (by decide +kernel) rfl rfl ⟨Nat.le_of_ble_eq_true rfl, Nat.le_of_ble_eq_true rfl⟩, S.2.2.2.2 _ zw_435, S.2.2.2.2 _ zw_436⟩ (zPreVrow hE ⟨_, _, _, _, (hP 2 _ rfl), (hP 3 _ rfl), hB⟩ ⟨_, _, _, _, (hP 2 _ rfl), (hP 3 _ rfl), hB⟩) rfl rfl hl.1 rfl (lv_room (Nat.le_of_ble_eq_true rfl)) d_RW_result_8 ⟨by (try dsimp only); omega, by (try dsimp only); omega⟩) ?_
  refine lv_istore_n (lv' := [(2, .int (iI (sp_at bo k))), (0, .ref x), (1, .int (iI k))]) hx hb d_RW_result_11 rfl hl (by decide) rfl (fun ls hl => ?_)
  refine lv_iload_n hx hb d_RW_result_12 rfl (lv_at hl 0 rfl) ?_
  refine zi_if_ge hx hb d_RW_result_13 rfl (by omega) (fun h13 => absurd h13 (by omega)) (fun h13 => ?_)
  exact zthrow (names := zexn) S hlk hnh (htl e hadm) (by decide) (by decide) (zown_IndexOutOfBoundsException (args := _) hE) zw_842 zw_843 zw_38 hl.1 d_RW_result_16 d_RW_result_19 d_RW_result_20 d_RW_result_23 (Nat.le_of_ble_eq_true rfl) (Nat.le_of_ble_eq_true rfl) (by (try dsimp only); omega) (by (try dsimp only); omega) (by (try dsimp only); omega) (by (try dsimp only); omega) hS (fun H1 hz1 hk1 => hP.kept (fun k9 x9 h9 => hk1 x9.1 (hP k9 x9 h9).lt))

set_option maxRecDepth 100000 in
set_option maxHeartbeats 4000000 in
theorem c_RW_fault (l : Launch) (E : zP) (x en tx gr h w : Nat) (lc lo : Int) (k : Int) (hk : k = 0 ∨ k = 1) : Met l y_RW_fault (.code y_RW_fault b_RW_fault 2 ( some FieldType.int ) :: zw) { frames := 0, cells := 0, slots := 0, locals := 0 } (zPc E [.ref x, .int (iI k)] (zO E 0 x [.ref en, .ref tx, .ref gr, .ref h, .ref w, .int (iI lc), .int (iI lo)])) (zR (some (.int (iI (if k = 0 then lc else lo))))) 0 0 (fun _ => False) := by
  refine zMet (by decide) (Nat.le_of_ble_eq_true rfl) ?_
  intro p e s m below meth c ls S hr hlk hnm hE hX hl
  have hx := S.1
  have hb := S.2.1
  have hl : lv_has ls 2 [(0, .ref x), (1, .int (iI k))] := hl
  obtain ⟨hka, hkb⟩ : -2147483648 ≤ k ∧ k < 2147483648 := by omega
  refine lv_iload_n hx hb d_RW_fault_0 rfl (lv_at hl 1 rfl) ?_
  refine zi_if_eq hx hb d_RW_fault_1 rfl (by omega) (fun h1 => ?_) (fun h1 => ?_)
  · refine lv_iload_n hx hb d_RW_fault_17 rfl (lv_at hl 1 rfl) ?_
    refine zi_if_ne hx hb d_RW_fault_18 rfl (by omega) (fun h18 => ?_) (fun h18 => ?_)
    · refine lv_aload_n hx hb d_RW_fault_28 rfl (lv_at hl 0 rfl) ?_
      refine zgf S hE (ci := 0) rfl i_RW hX 6 (by decide) zw_235 rfl d_RW_fault_29 ?_
      exact zretI S hr hlk d_RW_fault_32 (by rcases hk with e | e <;> first | omega | (subst e; rfl))
    · refine lv_aload_n hx hb d_RW_fault_21 rfl (lv_at hl 0 rfl) ?_
      refine zgf S hE (ci := 0) rfl i_RW hX 5 (by decide) zw_234 rfl d_RW_fault_22 ?_
      refine lv_goto hx hb d_RW_fault_25 rfl ?_
      exact zretI S hr hlk d_RW_fault_32 (by rcases hk with e | e <;> first | omega | (subst e; rfl))
  · refine lv_iload_n hx hb d_RW_fault_4 rfl (lv_at hl 1 rfl) ?_
    refine zi_iconst hx hb d_RW_fault_5 ?_
    refine zi_icmp_eq hx hb d_RW_fault_6 rfl (by omega) (by omega) (fun h6 => ?_) (fun h6 => ?_)
    · refine lv_iload_n hx hb d_RW_fault_17 rfl (lv_at hl 1 rfl) ?_
      refine zi_if_ne hx hb d_RW_fault_18 rfl (by omega) (fun h18 => ?_) (fun h18 => ?_)
      · refine lv_aload_n hx hb d_RW_fault_28 rfl (lv_at hl 0 rfl) ?_
        refine zgf S hE (ci := 0) rfl i_RW hX 6 (by decide) zw_235 rfl d_RW_fault_29 ?_
        exact zretI S hr hlk d_RW_fault_32 (by rcases hk with e | e <;> first | omega | (subst e; rfl))
      · refine lv_aload_n hx hb d_RW_fault_21 rfl (lv_at hl 0 rfl) ?_
        refine zgf S hE (ci := 0) rfl i_RW hX 5 (by decide) zw_234 rfl d_RW_fault_22 ?_
        refine lv_goto hx hb d_RW_fault_25 rfl ?_
        exact zretI S hr hlk d_RW_fault_32 (by rcases hk with e | e <;> first | omega | (subst e; rfl))
    · exact absurd hk (by omega)

set_option maxRecDepth 100000 in
set_option maxHeartbeats 4000000 in
theorem cx_RW_fault (l : Launch) (htl : ∀ e : Env, l.admits e → e.platform.stackTraces = false) (E : zP) (sz : Nat) (x en tx gr h w : Nat) (lc lo : Int) (k : Int) (hk0 : r32 k) (hk : k ≠ 0 ∧ k ≠ 1) : MetX l y_RW_fault (.code y_RW_fault b_RW_fault 2 ( some FieldType.int ) :: zw) { frames := 7, cells := 1, slots := 6, locals := 81 } (zPc E [.ref x, .int (iI k)] (fun H => H.size = sz ∧ va_P E.1 zcl [(x, .inr (0, [.ref en, .ref tx, .ref gr, .ref h, .ref w, .int (iI lc), .int (iI lo)]))] H ∧ va_D (zOld E) [(x, .inr (0, [.ref en, .ref tx, .ref gr, .ref h, .ref w, .int (iI lc), .int (iI lo)]))] ∧ (True))) (zX "java/lang/IllegalArgumentException" (fun H => va_P E.1 zcl [(x, .inr (0, [.ref en, .ref tx, .ref gr, .ref h, .ref w, .int (iI lc), .int (iI lo)]))] H) (va_A [(x, .inr (0, [.ref en, .ref tx, .ref gr, .ref h, .ref w, .int (iI lc), .int (iI lo)]))] sz)) (1) (6) (va_A [(x, .inr (0, [.ref en, .ref tx, .ref gr, .ref h, .ref w, .int (iI lc), .int (iI lo)]))] sz) := by
  refine zMetX (by decide) (Nat.le_of_ble_eq_true rfl) ?_
  intro p e s m below meth c ls S hr hlk hnm hnh hadm hE ⟨hsz, hP, hDo, hX⟩ hl
  have hx := S.1
  have hb := S.2.1
  have hE0 := hE
  have hl : lv_has ls 2 [(0, .ref x), (1, .int (iI k))] := hl
  subst hsz
  have hD := hDo.self (sz := s.heap.size)
  generalize hAe : va_A [(x, .inr (0, [.ref en, .ref tx, .ref gr, .ref h, .ref w, .int (iI lc), .int (iI lo)]))] s.heap.size = A at hD ⊢
  have hA : ∀ q : Nat, s.heap.size ≤ q → A q := fun q h => by rw [← hAe]; exact Or.inr h
  have hA0 := zA0 hE hDo hAe
  have hS : va_S A s.heap s.heap [] := va_S.rf
  obtain ⟨hka, hkb⟩ := hk0
  refine lv_iload_n hx hb d_RW_fault_0 rfl (lv_at hl 1 rfl) ?_
  refine zi_if_eq hx hb d_RW_fault_1 rfl (by omega) (fun h1 => absurd h1 (by omega)) (fun h1 => ?_)
  refine lv_iload_n hx hb d_RW_fault_4 rfl (lv_at hl 1 rfl) ?_
  refine zi_iconst hx hb d_RW_fault_5 ?_
  refine zi_icmp_eq hx hb d_RW_fault_6 rfl (by omega) (by omega) (fun h => absurd h (by omega)) (fun h6 => ?_)
  exact zthrow (names := zexn) S hlk hnh (htl e hadm) (by decide) (by decide) (zown_IllegalArgumentException (args := _) hE) zw_378 zw_379 zw_25 hl.1 d_RW_fault_9 d_RW_fault_12 d_RW_fault_13 d_RW_fault_16 (Nat.le_of_ble_eq_true rfl) (Nat.le_of_ble_eq_true rfl) (by (try dsimp only); omega) (by (try dsimp only); omega) (by (try dsimp only); omega) (by (try dsimp only); omega) hS (fun H1 hz1 hk1 => hP.kept (fun k9 x9 h9 => hk1 x9.1 (hP k9 x9 h9).lt))

set_option maxRecDepth 100000 in
set_option maxHeartbeats 4000000 in
theorem cx_RW_groups (l : Launch) (htl : ∀ e : Env, l.admits e → e.platform.stackTraces = false) (E : zP) (sz : Nat) (x en tx gr h w : Nat) (lc lo : Int) (k : Int) (hk0 : r32 k) (hk : k < 0 ∨ 99 < k) : MetX l y_RW_groups (.code y_RW_groups b_RW_groups 2 ( Option.none : Option FieldType ) :: zw) { frames := 7, cells := 1, slots := 6, locals := 81 } (zPc E [.ref x, .int (iI k)] (fun H => H.size = sz ∧ va_P E.1 zcl [(x, .inr (0, [.ref en, .ref tx, .ref gr, .ref h, .ref w, .int (iI lc), .int (iI lo)]))] H ∧ va_D (zOld E) [(x, .inr (0, [.ref en, .ref tx, .ref gr, .ref h, .ref w, .int (iI lc), .int (iI lo)]))] ∧ (True))) (zX "java/lang/IllegalArgumentException" (fun H => va_P E.1 zcl [(x, .inr (0, [.ref en, .ref tx, .ref gr, .ref h, .ref w, .int (iI lc), .int (iI lo)]))] H) (va_A [(x, .inr (0, [.ref en, .ref tx, .ref gr, .ref h, .ref w, .int (iI lc), .int (iI lo)]))] sz)) (1) (6) (va_A [(x, .inr (0, [.ref en, .ref tx, .ref gr, .ref h, .ref w, .int (iI lc), .int (iI lo)]))] sz) := by
  refine zMetX (by decide) (Nat.le_of_ble_eq_true rfl) ?_
  intro p e s m below meth c ls S hr hlk hnm hnh hadm hE ⟨hsz, hP, hDo, hX⟩ hl
  have hx := S.1
  have hb := S.2.1
  have hE0 := hE
  have hl : lv_has ls 2 [(0, .ref x), (1, .int (iI k))] := hl
  subst hsz
  have hD := hDo.self (sz := s.heap.size)
  generalize hAe : va_A [(x, .inr (0, [.ref en, .ref tx, .ref gr, .ref h, .ref w, .int (iI lc), .int (iI lo)]))] s.heap.size = A at hD ⊢
  have hA : ∀ q : Nat, s.heap.size ≤ q → A q := fun q h => by rw [← hAe]; exact Or.inr h
  have hA0 := zA0 hE hDo hAe
  have hS : va_S A s.heap s.heap [] := va_S.rf
  obtain ⟨hka, hkb⟩ := hk0
  refine lv_iload_n hx hb d_RW_groups_0 rfl (lv_at hl 1 rfl) ?_
  refine zi_if_lt hx hb d_RW_groups_1 rfl (by omega) (fun h1 => ?_) (fun h1 => ?_)
  · skip
    exact zthrow (names := zexn) S hlk hnh (htl e hadm) (by decide) (by decide) (zown_IllegalArgumentException (args := _) hE) zw_378 zw_379 zw_25 hl.1 d_RW_groups_10 d_RW_groups_13 d_RW_groups_14 d_RW_groups_17 (Nat.le_of_ble_eq_true rfl) (Nat.le_of_ble_eq_true rfl) (by (try dsimp only); omega) (by (try dsimp only); omega) (by (try dsimp only); omega) (by (try dsimp only); omega) hS (fun H1 hz1 hk1 => hP.kept (fun k9 x9 h9 => hk1 x9.1 (hP k9 x9 h9).lt))
  · skip
    refine lv_iload_n hx hb d_RW_groups_4 rfl (lv_at hl 1 rfl) ?_
    refine zi_bipush hx hb d_RW_groups_5 (by decide) ?_
    refine zi_icmp_le hx hb d_RW_groups_7 rfl (by omega) (by omega) (fun h => absurd h (by omega)) (fun h7 => ?_)
    exact zthrow (names := zexn) S hlk hnh (htl e hadm) (by decide) (by decide) (zown_IllegalArgumentException (args := _) hE) zw_378 zw_379 zw_25 hl.1 d_RW_groups_10 d_RW_groups_13 d_RW_groups_14 d_RW_groups_17 (Nat.le_of_ble_eq_true rfl) (Nat.le_of_ble_eq_true rfl) (by (try dsimp only); omega) (by (try dsimp only); omega) (by (try dsimp only); omega) (by (try dsimp only); omega) hS (fun H1 hz1 hk1 => hP.kept (fun k9 x9 h9 => hk1 x9.1 (hP k9 x9 h9).lt))

set_option maxRecDepth 100000 in
set_option maxHeartbeats 4000000 in
theorem c_RW_mark (l : Launch) (E : zP) (sz : Nat) (x en tx gr h w q cap : Nat) (lc lo : Int) (f : Nat → Int32) (b : List Nat) (ta sa al mk : Nat) (ng : Int) (G : sp_Src) (utf : Bool) (q1 cap1 : Nat) (f1 : Nat → Int32) (b1 : List Nat) (hB : zbytes b cap f) (hF : zfit cap f) (hB1 : zbytes b1 cap1 f1) (hF1 : zfit cap1 f1) (hbm : b.length ≤ 65536) (hok : sp_fault utf b < 0) : Met l y_RW_mark (.code y_RW_mark b_RW_mark 1 ( some FieldType.int ) :: zw) { frames := 4, cells := (1), slots := (b.length), locals := 93 } (zPc E [.ref x] (fun H => H.size = sz ∧ va_P E.1 zcl [(x, .inr (0, [.ref en, .ref tx, .ref gr, .ref h, .ref w, .int (iI lc), .int (iI lo)])), (en, .inr (2, [.int (iI (bN utf))])), (tx, .inr (1, [.int (iI 65536), .ref q, .int (iI ((b.length : Nat) : Int))])), (q, .inl (E.2.1 0, cap, .inl f)), (gr, .inr (5, [.ref ta, .ref sa, .ref al, .ref mk, .int (iI ((G.1 : Nat) : Int)), .int (iI ng)])), (mk, .inr (1, [.int (iI 65536), .ref q1, .int (iI ((b1.length : Nat) : Int))])), (q1, .inl (E.2.1 0, cap1, .inl f1))] H ∧ va_D (zOld E) [(x, .inr (0, [.ref en, .ref tx, .ref gr, .ref h, .ref w, .int (iI lc), .int (iI lo)])), (en, .inr (2, [.int (iI (bN utf))])), (tx, .inr (1, [.int (iI 65536), .ref q, .int (iI ((b.length : Nat) : Int))])), (q, .inl (E.2.1 0, cap, .inl f)), (gr, .inr (5, [.ref ta, .ref sa, .ref al, .ref mk, .int (iI ((G.1 : Nat) : Int)), .int (iI ng)])), (mk, .inr (1, [.int (iI 65536), .ref q1, .int (iI ((b1.length : Nat) : Int))])), (q1, .inl (E.2.1 0, cap1, .inl f1))] ∧ (True))) (zW (fun v H => v = some (.int (iI ((sp_cnt utf b : Nat) : Int))) ∧ ∃ (q3 cap3 : Nat) (f3 : Nat → Int32), va_P E.1 zcl [(x, .inr (0, [.ref en, .ref tx, .ref gr, .ref h, .ref w, .int (iI lc), .int (iI lo)])), (en, .inr (2, [.int (iI (bN utf))])), (tx, .inr (1, [.int (iI 65536), .ref q, .int (iI ((([] : List Nat).length : Nat) : Int))])), (q, .inl (E.2.1 0, cap, .inl f)), (gr, .inr (5, [.ref ta, .ref sa, .ref al, .ref mk, .int (iI ((G.1 : Nat) : Int)), .int (iI ng)])), (mk, .inr (1, [.int (iI 65536), .ref q3, .int (iI ((b.length : Nat) : Int))])), (q3, .inl (E.2.1 0, cap3, .inl f3))] H ∧ va_D (va_A [(x, .inr (0, [.ref en, .ref tx, .ref gr, .ref h, .ref w, .int (iI lc), .int (iI lo)])), (en, .inr (2, [.int (iI (bN utf))])), (tx, .inr (1, [.int (iI 65536), .ref q, .int (iI ((b.length : Nat) : Int))])), (q, .inl (E.2.1 0, cap, .inl f)), (gr, .inr (5, [.ref ta, .ref sa, .ref al, .ref mk, .int (iI ((G.1 : Nat) : Int)), .int (iI ng)])), (mk, .inr (1, [.int (iI 65536), .ref q1, .int (iI ((b1.length : Nat) : Int))])), (q1, .inl (E.2.1 0, cap1, .inl f1))] sz) [(x, .inr (0, [.ref en, .ref tx, .ref gr, .ref h, .ref w, .int (iI lc), .int (iI lo)])), (en, .inr (2, [.int (iI (bN utf))])), (tx, .inr (1, [.int (iI 65536), .ref q, .int (iI ((([] : List Nat).length : Nat) : Int))])), (q, .inl (E.2.1 0, cap, .inl f)), (gr, .inr (5, [.ref ta, .ref sa, .ref al, .ref mk, .int (iI ((G.1 : Nat) : Int)), .int (iI ng)])), (mk, .inr (1, [.int (iI 65536), .ref q3, .int (iI ((b.length : Nat) : Int))])), (q3, .inl (E.2.1 0, cap3, .inl f3))] ∧ zbytes b cap3 f3 ∧ zfit cap3 f3 ∧ cap3 = max cap1 b.length) (va_A [(x, .inr (0, [.ref en, .ref tx, .ref gr, .ref h, .ref w, .int (iI lc), .int (iI lo)])), (en, .inr (2, [.int (iI (bN utf))])), (tx, .inr (1, [.int (iI 65536), .ref q, .int (iI ((b.length : Nat) : Int))])), (q, .inl (E.2.1 0, cap, .inl f)), (gr, .inr (5, [.ref ta, .ref sa, .ref al, .ref mk, .int (iI ((G.1 : Nat) : Int)), .int (iI ng)])), (mk, .inr (1, [.int (iI 65536), .ref q1, .int (iI ((b1.length : Nat) : Int))])), (q1, .inl (E.2.1 0, cap1, .inl f1))] sz)) (1) (b.length) (va_A [(x, .inr (0, [.ref en, .ref tx, .ref gr, .ref h, .ref w, .int (iI lc), .int (iI lo)])), (en, .inr (2, [.int (iI (bN utf))])), (tx, .inr (1, [.int (iI 65536), .ref q, .int (iI ((b.length : Nat) : Int))])), (q, .inl (E.2.1 0, cap, .inl f)), (gr, .inr (5, [.ref ta, .ref sa, .ref al, .ref mk, .int (iI ((G.1 : Nat) : Int)), .int (iI ng)])), (mk, .inr (1, [.int (iI 65536), .ref q1, .int (iI ((b1.length : Nat) : Int))])), (q1, .inl (E.2.1 0, cap1, .inl f1))] sz) := by
  refine zMet (by decide) (Nat.le_of_ble_eq_true rfl) ?_
  intro p e s m below meth c ls S hr hlk hnm hE ⟨hsz, hP, hDo, hX⟩ hl
  have hx := S.1
  have hb := S.2.1
  have hE0 := hE
  have hl : lv_has ls 1 [(0, .ref x)] := hl
  subst hsz
  have hD := hDo.self (sz := s.heap.size)
  generalize hAe : va_A [(x, .inr (0, [.ref en, .ref tx, .ref gr, .ref h, .ref w, .int (iI lc), .int (iI lo)])), (en, .inr (2, [.int (iI (bN utf))])), (tx, .inr (1, [.int (iI 65536), .ref q, .int (iI ((b.length : Nat) : Int))])), (q, .inl (E.2.1 0, cap, .inl f)), (gr, .inr (5, [.ref ta, .ref sa, .ref al, .ref mk, .int (iI ((G.1 : Nat) : Int)), .int (iI ng)])), (mk, .inr (1, [.int (iI 65536), .ref q1, .int (iI ((b1.length : Nat) : Int))])), (q1, .inl (E.2.1 0, cap1, .inl f1))] s.heap.size = A at hD ⊢
  have hA : ∀ q : Nat, s.heap.size ≤ q → A q := fun q h => by rw [← hAe]; exact Or.inr h
  have hA0 := zA0 hE hDo hAe
  have hS : va_S A s.heap s.heap [] := va_S.rf
  have hbl := hB.1
  have hbc := hB.2.1
  have hfr := sp_fault_r utf b
  refine lv_aload_n hx hb d_RW_mark_0 rfl (lv_at hl 0 rfl) ?_
  refine zgf S hE (ci := 0) rfl i_RW (hP 0 _ rfl) 0 (by decide) zw_229 rfl d_RW_mark_1 ?_
  refine lv_aload_n hx hb d_RW_mark_4 rfl (lv_at hl 0 rfl) ?_
  refine zgf S hE (ci := 0) rfl i_RW (hP 0 _ rfl) 1 (by decide) zw_230 rfl d_RW_mark_5 ?_
  refine zcR (va_runV (As := [.ref tx]) (rest := []) S (c_Encoding_firstBad l E en tx utf b) ⟨zcwB (n := 1) S zw_428 zw_7 zw_425 (by decide +kernel) rfl rfl ⟨Nat.le_of_ble_eq_true rfl, Nat.le_of_ble_eq_true rfl⟩, S.2.2.2.2 _ zw_426, S.2.2.2.2 _ zw_427⟩ (zPreV hE (hP 1 _ rfl) rfl ⟨(hP 1 _ rfl), ⟨_, _, _, _, (hP 2 _ rfl), (hP 3 _ rfl), hB⟩⟩) rfl rfl hl.1 rfl (lv_room (Nat.le_of_ble_eq_true rfl)) d_RW_mark_8 ⟨by (try dsimp only); omega, by (try dsimp only); omega⟩) ?_
  refine zi_if_lt hx hb d_RW_mark_11 rfl (by omega) (fun h11 => ?_) (fun h11 => absurd h11 (by omega))
  refine lv_aload_n hx hb d_RW_mark_30 rfl (lv_at hl 0 rfl) ?_
  refine zgf S hE (ci := 0) rfl i_RW (hP 0 _ rfl) 2 (by decide) zw_231 rfl d_RW_mark_31 ?_
  refine lv_aload_n hx hb d_RW_mark_34 rfl (lv_at hl 0 rfl) ?_
  refine zgf S hE (ci := 0) rfl i_RW (hP 0 _ rfl) 1 (by decide) zw_230 rfl d_RW_mark_35 ?_
  have hPc := hP.sub (ws' := [(gr, .inr (5, [.ref ta, .ref sa, .ref al, .ref mk, .int (iI ((G.1 : Nat) : Int)), .int (iI ng)])), (mk, .inr (1, [.int (iI 65536), .ref q1, .int (iI ((b1.length : Nat) : Int))])), (q1, .inl (E.2.1 0, cap1, .inl f1)), (tx, .inr (1, [.int (iI 65536), .ref q, .int (iI ((b.length : Nat) : Int))])), (q, .inl (E.2.1 0, cap, .inl f))]) [4, 5, 6, 2, 3] rfl
  have hDc := hD.sub (ws' := [(gr, .inr (5, [.ref ta, .ref sa, .ref al, .ref mk, .int (iI ((G.1 : Nat) : Int)), .int (iI ng)])), (mk, .inr (1, [.int (iI 65536), .ref q1, .int (iI ((b1.length : Nat) : Int))])), (q1, .inl (E.2.1 0, cap1, .inl f1)), (tx, .inr (1, [.int (iI 65536), .ref q, .int (iI ((b.length : Nat) : Int))])), (q, .inl (E.2.1 0, cap, .inl f))]) [4, 5, 6, 2, 3] (by decide) rfl
  have hFc := va_free (wc := [(gr, .inr (5, [.ref ta, .ref sa, .ref al, .ref mk, .int (iI ((G.1 : Nat) : Int)), .int (iI ng)])), (mk, .inr (1, [.int (iI 65536), .ref q1, .int (iI ((b1.length : Nat) : Int))])), (q1, .inl (E.2.1 0, cap1, .inl f1)), (tx, .inr (1, [.int (iI 65536), .ref q, .int (iI ((b.length : Nat) : Int))])), (q, .inl (E.2.1 0, cap, .inl f))]) hD hS hA [4, 5, 6, 2, 3] rfl
  refine zcW (va_runV (As := [.ref tx]) (rest := []) S (c_Groups_holdMark l E _ gr ta sa al mk ((G.1 : Nat) : Int) ng tx q1 cap1 q cap f1 f b1 b hB1 hF1 hB hF hbm) ⟨zcwB (n := 1) S zw_641 zw_3 zw_638 (by decide +kernel) rfl rfl ⟨Nat.le_of_ble_eq_true rfl, Nat.le_of_ble_eq_true rfl⟩, S.2.2.2.2 _ zw_639, S.2.2.2.2 _ zw_640⟩ (zPreV hE (hP 4 _ rfl) rfl ⟨rfl, hPc, hDc.weaken (fun _ _ _ h => hA0 _ h), trivial⟩) rfl rfl hl.1 rfl (lv_room (Nat.le_of_ble_eq_true rfl)) d_RW_mark_38 ⟨by (try dsimp only); omega, by (try dsimp only); omega⟩) hS (fun q _ h => hFc q h) hFc (fun v H locs hq hz1 hk1 hS => ?_)
  obtain ⟨rfl, q3, cap3, f3, hP1, hD1, hB3, hF3, hc3⟩ := hq
  obtain ⟨hP, hD⟩ := va_join (wr := [(x, .inr (0, [.ref en, .ref tx, .ref gr, .ref h, .ref w, .int (iI lc), .int (iI lo)])), (en, .inr (2, [.int (iI (bN utf))]))]) (w1 := [(gr, .inr (5, [.ref ta, .ref sa, .ref al, .ref mk, .int (iI ((G.1 : Nat) : Int)), .int (iI ng)])), (mk, .inr (1, [.int (iI 65536), .ref q3, .int (iI ((b.length : Nat) : Int))])), (q3, .inl (E.2.1 0, cap3, .inl f3)), (tx, .inr (1, [.int (iI 65536), .ref q, .int (iI ((b.length : Nat) : Int))])), (q, .inl (E.2.1 0, cap, .inl f))]) hP hD [4, 5, 6, 2, 3] [0, 1] rfl rfl (by decide) (by decide) hk1 hFc hP1 hD1
  have hP : va_P E.1 zcl [(x, .inr (0, [.ref en, .ref tx, .ref gr, .ref h, .ref w, .int (iI lc), .int (iI lo)])), (en, .inr (2, [.int (iI (bN utf))])), (gr, .inr (5, [.ref ta, .ref sa, .ref al, .ref mk, .int (iI ((G.1 : Nat) : Int)), .int (iI ng)])), (mk, .inr (1, [.int (iI 65536), .ref q3, .int (iI ((b.length : Nat) : Int))])), (q3, .inl (E.2.1 0, cap3, .inl f3)), (tx, .inr (1, [.int (iI 65536), .ref q, .int (iI ((b.length : Nat) : Int))])), (q, .inl (E.2.1 0, cap, .inl f))] H := hP
  have hD : va_D A [(x, .inr (0, [.ref en, .ref tx, .ref gr, .ref h, .ref w, .int (iI lc), .int (iI lo)])), (en, .inr (2, [.int (iI (bN utf))])), (gr, .inr (5, [.ref ta, .ref sa, .ref al, .ref mk, .int (iI ((G.1 : Nat) : Int)), .int (iI ng)])), (mk, .inr (1, [.int (iI 65536), .ref q3, .int (iI ((b.length : Nat) : Int))])), (q3, .inl (E.2.1 0, cap3, .inl f3)), (tx, .inr (1, [.int (iI 65536), .ref q, .int (iI ((b.length : Nat) : Int))])), (q, .inl (E.2.1 0, cap, .inl f))] := hD
  have hE := hE0.at hS hA0
  refine lv_aload_n hx hb d_RW_mark_41 rfl (lv_at hl 0 rfl) ?_
  have hPc := hP.sub (ws' := [(x, .inr (0, [.ref en, .ref tx, .ref gr, .ref h, .ref w, .int (iI lc), .int (iI lo)])), (en, .inr (2, [.int (iI (bN utf))])), (tx, .inr (1, [.int (iI 65536), .ref q, .int (iI ((b.length : Nat) : Int))])), (q, .inl (E.2.1 0, cap, .inl f))]) [0, 1, 5, 6] rfl
  have hDc := hD.sub (ws' := [(x, .inr (0, [.ref en, .ref tx, .ref gr, .ref h, .ref w, .int (iI lc), .int (iI lo)])), (en, .inr (2, [.int (iI (bN utf))])), (tx, .inr (1, [.int (iI 65536), .ref q, .int (iI ((b.length : Nat) : Int))])), (q, .inl (E.2.1 0, cap, .inl f))]) [0, 1, 5, 6] (by decide) rfl
  have hFc := va_free (wc := [(x, .inr (0, [.ref en, .ref tx, .ref gr, .ref h, .ref w, .int (iI lc), .int (iI lo)])), (en, .inr (2, [.int (iI (bN utf))])), (tx, .inr (1, [.int (iI 65536), .ref q, .int (iI ((b.length : Nat) : Int))])), (q, .inl (E.2.1 0, cap, .inl f))]) hD hS hA [0, 1, 5, 6] rfl
  refine zcW (va_runV (As := []) (rest := []) S (c_RW_takeText l E _ x en tx gr h w q cap lc lo f b utf hB) ⟨zcwB (n := 0) S zw_489 zw_1 zw_486 (by decide +kernel) rfl rfl ⟨Nat.le_of_ble_eq_true rfl, Nat.le_of_ble_eq_true rfl⟩, S.2.2.2.2 _ zw_488, S.2.2.2.2 _ zs_3⟩ (zPreV hE (hP 0 _ rfl) rfl ⟨rfl, hPc, hDc.weaken (fun _ _ _ h => hA0 _ h), trivial⟩) rfl rfl hl.1 rfl (lv_room (Nat.le_of_ble_eq_true rfl)) d_RW_mark_42 ⟨by (try dsimp only); omega, by (try dsimp only); omega⟩) hS (fun q _ h => hFc q h) hFc (fun v H locs hq hz1 hk1 hS => ?_)
  obtain ⟨rfl, hP1, hD1⟩ := hq
  obtain ⟨hP, hD⟩ := va_join (wr := [(gr, .inr (5, [.ref ta, .ref sa, .ref al, .ref mk, .int (iI ((G.1 : Nat) : Int)), .int (iI ng)])), (mk, .inr (1, [.int (iI 65536), .ref q3, .int (iI ((b.length : Nat) : Int))])), (q3, .inl (E.2.1 0, cap3, .inl f3))]) (w1 := [(x, .inr (0, [.ref en, .ref tx, .ref gr, .ref h, .ref w, .int (iI lc), .int (iI lo)])), (en, .inr (2, [.int (iI (bN utf))])), (tx, .inr (1, [.int (iI 65536), .ref q, .int (iI ((([] : List Nat).length : Nat) : Int))])), (q, .inl (E.2.1 0, cap, .inl f))]) hP hD [0, 1, 5, 6] [2, 3, 4] rfl rfl (by decide) (by decide) hk1 hFc hP1 hD1
  have hP : va_P E.1 zcl [(gr, .inr (5, [.ref ta, .ref sa, .ref al, .ref mk, .int (iI ((G.1 : Nat) : Int)), .int (iI ng)])), (mk, .inr (1, [.int (iI 65536), .ref q3, .int (iI ((b.length : Nat) : Int))])), (q3, .inl (E.2.1 0, cap3, .inl f3)), (x, .inr (0, [.ref en, .ref tx, .ref gr, .ref h, .ref w, .int (iI lc), .int (iI lo)])), (en, .inr (2, [.int (iI (bN utf))])), (tx, .inr (1, [.int (iI 65536), .ref q, .int (iI ((([] : List Nat).length : Nat) : Int))])), (q, .inl (E.2.1 0, cap, .inl f))] H := hP
  have hD : va_D A [(gr, .inr (5, [.ref ta, .ref sa, .ref al, .ref mk, .int (iI ((G.1 : Nat) : Int)), .int (iI ng)])), (mk, .inr (1, [.int (iI 65536), .ref q3, .int (iI ((b.length : Nat) : Int))])), (q3, .inl (E.2.1 0, cap3, .inl f3)), (x, .inr (0, [.ref en, .ref tx, .ref gr, .ref h, .ref w, .int (iI lc), .int (iI lo)])), (en, .inr (2, [.int (iI (bN utf))])), (tx, .inr (1, [.int (iI 65536), .ref q, .int (iI ((([] : List Nat).length : Nat) : Int))])), (q, .inl (E.2.1 0, cap, .inl f))] := hD
  have hE := hE0.at hS hA0
  exact zwi S hr hlk hS (⟨rfl, q3, cap3, f3, hP.sub (ws' := [(x, .inr (0, [.ref en, .ref tx, .ref gr, .ref h, .ref w, .int (iI lc), .int (iI lo)])), (en, .inr (2, [.int (iI (bN utf))])), (tx, .inr (1, [.int (iI 65536), .ref q, .int (iI ((([] : List Nat).length : Nat) : Int))])), (q, .inl (E.2.1 0, cap, .inl f)), (gr, .inr (5, [.ref ta, .ref sa, .ref al, .ref mk, .int (iI ((G.1 : Nat) : Int)), .int (iI ng)])), (mk, .inr (1, [.int (iI 65536), .ref q3, .int (iI ((b.length : Nat) : Int))])), (q3, .inl (E.2.1 0, cap3, .inl f3))]) [3, 4, 5, 6, 0, 1, 2] rfl, hD.sub (ws' := [(x, .inr (0, [.ref en, .ref tx, .ref gr, .ref h, .ref w, .int (iI lc), .int (iI lo)])), (en, .inr (2, [.int (iI (bN utf))])), (tx, .inr (1, [.int (iI 65536), .ref q, .int (iI ((([] : List Nat).length : Nat) : Int))])), (q, .inl (E.2.1 0, cap, .inl f)), (gr, .inr (5, [.ref ta, .ref sa, .ref al, .ref mk, .int (iI ((G.1 : Nat) : Int)), .int (iI ng)])), (mk, .inr (1, [.int (iI 65536), .ref q3, .int (iI ((b.length : Nat) : Int))])), (q3, .inl (E.2.1 0, cap3, .inl f3))]) [3, 4, 5, 6, 0, 1, 2] (by decide) rfl, hB3, hF3, hc3⟩) (by (try dsimp only); omega) (by (try dsimp only); omega) d_RW_mark_45

set_option maxRecDepth 100000 in
set_option maxHeartbeats 4000000 in
theorem cx_RW_mark (l : Launch) (htl : ∀ e : Env, l.admits e → e.platform.stackTraces = false) (E : zP) (sz : Nat) (x en tx gr h w q cap : Nat) (lc lo : Int) (f : Nat → Int32) (b : List Nat) (utf : Bool) (hB : zbytes b cap f) (hbad : 0 ≤ sp_fault utf b) : MetX l y_RW_mark (.code y_RW_mark b_RW_mark 1 ( some FieldType.int ) :: zw) { frames := 7, cells := 1, slots := 6, locals := 93 } (zPc E [.ref x] (fun H => H.size = sz ∧ va_P E.1 zcl [(x, .inr (0, [.ref en, .ref tx, .ref gr, .ref h, .ref w, .int (iI lc), .int (iI lo)])), (en, .inr (2, [.int (iI (bN utf))])), (tx, .inr (1, [.int (iI 65536), .ref q, .int (iI ((b.length : Nat) : Int))])), (q, .inl (E.2.1 0, cap, .inl f))] H ∧ va_D (zOld E) [(x, .inr (0, [.ref en, .ref tx, .ref gr, .ref h, .ref w, .int (iI lc), .int (iI lo)])), (en, .inr (2, [.int (iI (bN utf))])), (tx, .inr (1, [.int (iI 65536), .ref q, .int (iI ((b.length : Nat) : Int))])), (q, .inl (E.2.1 0, cap, .inl f))] ∧ (True))) (zX "java/lang/UnsupportedOperationException" (fun H => va_P E.1 zcl [(x, .inr (0, [.ref en, .ref tx, .ref gr, .ref h, .ref w, .int (iI lc), .int (iI lo)])), (en, .inr (2, [.int (iI (bN utf))])), (tx, .inr (1, [.int (iI 65536), .ref q, .int (iI ((([] : List Nat).length : Nat) : Int))])), (q, .inl (E.2.1 0, cap, .inl f))] H ∧ va_D (va_A [(x, .inr (0, [.ref en, .ref tx, .ref gr, .ref h, .ref w, .int (iI lc), .int (iI lo)])), (en, .inr (2, [.int (iI (bN utf))])), (tx, .inr (1, [.int (iI 65536), .ref q, .int (iI ((b.length : Nat) : Int))])), (q, .inl (E.2.1 0, cap, .inl f))] sz) [(x, .inr (0, [.ref en, .ref tx, .ref gr, .ref h, .ref w, .int (iI lc), .int (iI lo)])), (en, .inr (2, [.int (iI (bN utf))])), (tx, .inr (1, [.int (iI 65536), .ref q, .int (iI ((([] : List Nat).length : Nat) : Int))])), (q, .inl (E.2.1 0, cap, .inl f))]) (va_A [(x, .inr (0, [.ref en, .ref tx, .ref gr, .ref h, .ref w, .int (iI lc), .int (iI lo)])), (en, .inr (2, [.int (iI (bN utf))])), (tx, .inr (1, [.int (iI 65536), .ref q, .int (iI ((b.length : Nat) : Int))])), (q, .inl (E.2.1 0, cap, .inl f))] sz)) (1) (6) (va_A [(x, .inr (0, [.ref en, .ref tx, .ref gr, .ref h, .ref w, .int (iI lc), .int (iI lo)])), (en, .inr (2, [.int (iI (bN utf))])), (tx, .inr (1, [.int (iI 65536), .ref q, .int (iI ((b.length : Nat) : Int))])), (q, .inl (E.2.1 0, cap, .inl f))] sz) := by
  refine zMetX (by decide) (Nat.le_of_ble_eq_true rfl) ?_
  intro p e s m below meth c ls S hr hlk hnm hnh hadm hE ⟨hsz, hP, hDo, hX⟩ hl
  have hx := S.1
  have hb := S.2.1
  have hE0 := hE
  have hl : lv_has ls 1 [(0, .ref x)] := hl
  subst hsz
  have hD := hDo.self (sz := s.heap.size)
  generalize hAe : va_A [(x, .inr (0, [.ref en, .ref tx, .ref gr, .ref h, .ref w, .int (iI lc), .int (iI lo)])), (en, .inr (2, [.int (iI (bN utf))])), (tx, .inr (1, [.int (iI 65536), .ref q, .int (iI ((b.length : Nat) : Int))])), (q, .inl (E.2.1 0, cap, .inl f))] s.heap.size = A at hD ⊢
  have hA : ∀ q : Nat, s.heap.size ≤ q → A q := fun q h => by rw [← hAe]; exact Or.inr h
  have hA0 := zA0 hE hDo hAe
  have hS : va_S A s.heap s.heap [] := va_S.rf
  have hbl := hB.1
  have hbc := hB.2.1
  have hfr := sp_fault_r utf b
  refine lv_aload_n hx hb d_RW_mark_0 rfl (lv_at hl 0 rfl) ?_
  refine zgf S hE (ci := 0) rfl i_RW (hP 0 _ rfl) 0 (by decide) zw_229 rfl d_RW_mark_1 ?_
  refine lv_aload_n hx hb d_RW_mark_4 rfl (lv_at hl 0 rfl) ?_
  refine zgf S hE (ci := 0) rfl i_RW (hP 0 _ rfl) 1 (by decide) zw_230 rfl d_RW_mark_5 ?_
  refine zcR (va_runV (As := [.ref tx]) (rest := []) S (c_Encoding_firstBad l E en tx utf b) ⟨zcwB (n := 1) S zw_428 zw_7 zw_425 (by decide +kernel) rfl rfl ⟨Nat.le_of_ble_eq_true rfl, Nat.le_of_ble_eq_true rfl⟩, S.2.2.2.2 _ zw_426, S.2.2.2.2 _ zw_427⟩ (zPreV hE (hP 1 _ rfl) rfl ⟨(hP 1 _ rfl), ⟨_, _, _, _, (hP 2 _ rfl), (hP 3 _ rfl), hB⟩⟩) rfl rfl hl.1 rfl (lv_room (Nat.le_of_ble_eq_true rfl)) d_RW_mark_8 ⟨by (try dsimp only); omega, by (try dsimp only); omega⟩) ?_
  refine zi_if_lt hx hb d_RW_mark_11 rfl (by omega) (fun h11 => absurd h11 (by omega)) (fun h11 => ?_)
  refine lv_aload_n hx hb d_RW_mark_14 rfl (lv_at hl 0 rfl) ?_
  refine zgf S hE (ci := 0) rfl i_RW (hP 0 _ rfl) 1 (by decide) zw_230 rfl d_RW_mark_15 ?_
  refine zi_iconst hx hb d_RW_mark_18 ?_
  have hPc := hP.sub (ws' := [(tx, .inr (1, [.int (iI 65536), .ref q, .int (iI ((b.length : Nat) : Int))]))]) [2] rfl
  have hDc := hD.sub (ws' := [(tx, .inr (1, [.int (iI 65536), .ref q, .int (iI ((b.length : Nat) : Int))]))]) [2] (by decide) rfl
  have hFc := va_free (wc := [(tx, .inr (1, [.int (iI 65536), .ref q, .int (iI ((b.length : Nat) : Int))]))]) hD hS hA [2] rfl
  refine zcW (va_runV (As := [.int (iI 0)]) (rest := []) S (c_Row_cutTo l E _ tx q b.length 65536 (0 : Int) (by omega) (by omega)) ⟨zcwB (n := 1) S zw_396 zw_2 zw_393 (by decide +kernel) rfl rfl ⟨Nat.le_of_ble_eq_true rfl, Nat.le_of_ble_eq_true rfl⟩, S.2.2.2.2 _ zw_394, S.2.2.2.2 _ zw_395⟩ (zPreV hE (hP 2 _ rfl) rfl ⟨rfl, hPc, hDc.weaken (fun _ _ _ h => hA0 _ h), trivial⟩) rfl rfl hl.1 rfl (lv_room (Nat.le_of_ble_eq_true rfl)) d_RW_mark_19 ⟨by (try dsimp only); omega, by (try dsimp only); omega⟩) hS (fun q _ h => hFc q h) hFc (fun v H locs hq hz1 hk1 hS => ?_)
  obtain ⟨rfl, hP1, hD1⟩ := hq
  obtain ⟨hP, hD⟩ := va_join (wr := [(x, .inr (0, [.ref en, .ref tx, .ref gr, .ref h, .ref w, .int (iI lc), .int (iI lo)])), (en, .inr (2, [.int (iI (bN utf))])), (q, .inl (E.2.1 0, cap, .inl f))]) (w1 := [(tx, .inr (1, [.int (iI 65536), .ref q, .int (iI (if 0 ≤ (0 : Int) ∧ (0 : Int) < ((b.length : Nat) : Int) then (0 : Int) else ((b.length : Nat) : Int)))]))]) hP hD [2] [0, 1, 3] rfl rfl (by decide) (by decide) hk1 hFc hP1 hD1
  have hP : va_P E.1 zcl [(x, .inr (0, [.ref en, .ref tx, .ref gr, .ref h, .ref w, .int (iI lc), .int (iI lo)])), (en, .inr (2, [.int (iI (bN utf))])), (q, .inl (E.2.1 0, cap, .inl f)), (tx, .inr (1, [.int (iI 65536), .ref q, .int (iI (if 0 ≤ (0 : Int) ∧ (0 : Int) < ((b.length : Nat) : Int) then (0 : Int) else ((b.length : Nat) : Int)))]))] H := hP
  have hD : va_D A [(x, .inr (0, [.ref en, .ref tx, .ref gr, .ref h, .ref w, .int (iI lc), .int (iI lo)])), (en, .inr (2, [.int (iI (bN utf))])), (q, .inl (E.2.1 0, cap, .inl f)), (tx, .inr (1, [.int (iI 65536), .ref q, .int (iI (if 0 ≤ (0 : Int) ∧ (0 : Int) < ((b.length : Nat) : Int) then (0 : Int) else ((b.length : Nat) : Int)))]))] := hD
  have hE := hE0.at hS hA0
  have hcut : (if 0 ≤ (0 : Int) ∧ (0 : Int) < ((b.length : Nat) : Int) then (0 : Int) else ((b.length : Nat) : Int)) = ((([] : List Nat).length : Nat) : Int) := by show _ = (0 : Int); split <;> omega
  rw [hcut] at hP hD
  exact zthrow (names := zexn) S hlk hnh (htl e hadm) (by decide) (by decide) (zown_UnsupportedOperationException (args := _) hE) zw_462 zw_463 zw_26 hl.1 d_RW_mark_22 d_RW_mark_25 d_RW_mark_26 d_RW_mark_29 (Nat.le_of_ble_eq_true rfl) (Nat.le_of_ble_eq_true rfl) (by (try dsimp only); omega) (by (try dsimp only); omega) (by (try dsimp only); omega) (by (try dsimp only); omega) hS (fun H1 hz1 hk1 => ⟨(hP.sub (ws' := [(x, .inr (0, [.ref en, .ref tx, .ref gr, .ref h, .ref w, .int (iI lc), .int (iI lo)])), (en, .inr (2, [.int (iI (bN utf))])), (tx, .inr (1, [.int (iI 65536), .ref q, .int (iI ((([] : List Nat).length : Nat) : Int))])), (q, .inl (E.2.1 0, cap, .inl f))]) [0, 1, 3, 2] rfl).kept (fun k9 x9 h9 => hk1 x9.1 ((hP.sub (ws' := [(x, .inr (0, [.ref en, .ref tx, .ref gr, .ref h, .ref w, .int (iI lc), .int (iI lo)])), (en, .inr (2, [.int (iI (bN utf))])), (tx, .inr (1, [.int (iI 65536), .ref q, .int (iI ((([] : List Nat).length : Nat) : Int))])), (q, .inl (E.2.1 0, cap, .inl f))]) [0, 1, 3, 2] rfl) k9 x9 h9).lt), hD.sub (ws' := [(x, .inr (0, [.ref en, .ref tx, .ref gr, .ref h, .ref w, .int (iI lc), .int (iI lo)])), (en, .inr (2, [.int (iI (bN utf))])), (tx, .inr (1, [.int (iI 65536), .ref q, .int (iI ((([] : List Nat).length : Nat) : Int))])), (q, .inl (E.2.1 0, cap, .inl f))]) [0, 1, 3, 2] (by decide) rfl⟩)
