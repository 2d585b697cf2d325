theorem v_RW : ∀ j, j < 7 → defaultValue (t_RW j) = vp_V [.null, .null, .null, .null, .null, .int (iI 0), .int (iI 0)] j := fun j hj => match j, hj with | 0, _ => rfl | 1, _ => rfl | 2, _ => rfl | 3, _ => rfl | 4, _ => rfl | 5, _ => rfl | 6, _ => rfl | (k + 7), h => absurd h (by omega)
theorem v_Row : ∀ j, j < 3 → defaultValue (t_Row j) = vp_V [.int (iI 0), .null, .int (iI 0)] j := fun j hj => match j, hj with | 0, _ => rfl | 1, _ => rfl | 2, _ => rfl | (k + 3), h => absurd h (by omega)
theorem v_Encoding : ∀ j, j < 1 → defaultValue (t_Encoding j) = vp_V [.int (iI (bN false))] j := fun j hj => match j, hj with | 0, _ => rfl | (k + 1), h => absurd h (by omega)
theorem v_Cases : ∀ j, j < 1 → defaultValue (t_Cases j) = vp_V [.int (iI 0)] j := fun j hj => match j, hj with | 0, _ => rfl | (k + 1), h => absurd h (by omega)
theorem v_Name : ∀ j, j < 2 → defaultValue (t_Name j) = vp_V [.null, .int (iI 0)] j := fun j hj => match j, hj with | 0, _ => rfl | 1, _ => rfl | (k + 2), h => absurd h (by omega)
theorem v_Groups : ∀ j, j < 6 → defaultValue (t_Groups j) = vp_V [.null, .null, .null, .null, .int (iI 0), .int (iI 0)] j := fun j hj => match j, hj with | 0, _ => rfl | 1, _ => rfl | 2, _ => rfl | 3, _ => rfl | 4, _ => rfl | 5, _ => rfl | (k + 6), h => absurd h (by omega)
theorem v_Output : ∀ j, j < 6 → defaultValue (t_Output j) = vp_V [.null, .null, .null, .null, .null, .int (iI (bN false))] j := fun j hj => match j, hj with | 0, _ => rfl | 1, _ => rfl | 2, _ => rfl | 3, _ => rfl | 4, _ => rfl | 5, _ => rfl | (k + 6), h => absurd h (by omega)
theorem v_Escape : ∀ j, j < 4 → defaultValue (t_Escape j) = vp_V [.null, .null, .int (iI 0), .int (iI 0)] j := fun j hj => match j, hj with | 0, _ => rfl | 1, _ => rfl | 2, _ => rfl | 3, _ => rfl | (k + 4), h => absurd h (by omega)
theorem v_Writing : ∀ j, j < 10 → defaultValue (t_Writing j) = vp_V [.null, .null, .null, .null, .null, .int (iI (bN false)), .int (iI (bN false)), .int (iI (bN false)), .int (iI 0), .int (iI 0)] j := fun j hj => match j, hj with | 0, _ => rfl | 1, _ => rfl | 2, _ => rfl | 3, _ => rfl | 4, _ => rfl | 5, _ => rfl | 6, _ => rfl | 7, _ => rfl | 8, _ => rfl | 9, _ => rfl | (k + 10), h => absurd h (by omega)
theorem v_ArrayList : ∀ j, j < 3 → defaultValue (t_ArrayList j) = vp_V [.null, .int (iI 0), .int (iI 0)] j := fun j hj => match j, hj with | 0, _ => rfl | 1, _ => rfl | 2, _ => rfl | (k + 3), h => absurd h (by omega)
theorem v_Mod : ∀ j, j < 12 → defaultValue (t_Mod j) = vp_V [.null, .null, .null, .null, .int (iI 0), .int (iI 0), .int (iI 0), .int (iI (bN false)), .null, .null, .int (iI 0), .int (iI 0)] j := fun j hj => match j, hj with | 0, _ => rfl | 1, _ => rfl | 2, _ => rfl | 3, _ => rfl | 4, _ => rfl | 5, _ => rfl | 6, _ => rfl | 7, _ => rfl | 8, _ => rfl | 9, _ => rfl | 10, _ => rfl | 11, _ => rfl | (k + 12), h => absurd h (by omega)
theorem v_Table : ∀ j, j < 6 → defaultValue (t_Table j) = vp_V [.null, .int (iI (bN false)), .int (iI (bN false)), .int (iI 0), .null, .int (iI 0)] j := fun j hj => match j, hj with | 0, _ => rfl | 1, _ => rfl | 2, _ => rfl | 3, _ => rfl | 4, _ => rfl | 5, _ => rfl | (k + 6), h => absurd h (by omega)
theorem v_Template : ∀ j, j < 13 → defaultValue (t_Template j) = vp_V [.null, .null, .int (iI (bN false)), .int (iI (bN false)), .int (iI (bN false)), .null, .int (iI 0), .null, .int (iI 0), .int (iI 0), .int (iI 0), .int (iI 0), .int (iI 0)] j := fun j hj => match j, hj with | 0, _ => rfl | 1, _ => rfl | 2, _ => rfl | 3, _ => rfl | 4, _ => rfl | 5, _ => rfl | 6, _ => rfl | 7, _ => rfl | 8, _ => rfl | 9, _ => rfl | 10, _ => rfl | 11, _ => rfl | 12, _ => rfl | (k + 13), h => absurd h (by omega)
theorem v_Holder : ∀ j, j < 5 → defaultValue (t_Holder j) = vp_V [.int (iI 0), .null, .null, .null, .null] j := fun j hj => match j, hj with | 0, _ => rfl | 1, _ => rfl | 2, _ => rfl | 3, _ => rfl | 4, _ => rfl | (k + 5), h => absurd h (by omega)
set_option maxRecDepth 100000 in
set_option maxHeartbeats 4000000 in
theorem c_Row_init (l : Launch) (E : zP) (sz : Nat) (a : Nat) (most : Int) : Met l y_Row_init (.code y_Row_init b_Row_init 2 ( Option.none : Option FieldType ) :: zw) { frames := 1, cells := (1), slots := (16), locals := 20 } (zPc E [.ref a, .int (iI most)] (fun H => H.size = sz ∧ va_P E.1 zcl [(a, .inr (1, [.int (iI 0), .null, .int (iI 0)]))] H ∧ va_D (zOld E) [(a, .inr (1, [.int (iI 0), .null, .int (iI 0)]))] ∧ (True))) (zW (fun v H => v = none ∧ ∃ q, va_P E.1 zcl [(a, .inr (1, [.int (iI most), .ref q, .int (iI 0)])), (q, .inl (E.2.1 0, 16, .inl (fun _ => 0)))] H ∧ va_D (va_A [(a, .inr (1, [.int (iI 0), .null, .int (iI 0)]))] sz) [(a, .inr (1, [.int (iI most), .ref q, .int (iI 0)])), (q, .inl (E.2.1 0, 16, .inl (fun _ => 0)))]) (va_A [(a, .inr (1, [.int (iI 0), .null, .int (iI 0)]))] sz)) (1) (16) (va_A [(a, .inr (1, [.int (iI 0), .null, .int (iI 0)]))] sz) := by
  refine zMet (by decide) (Nat.le_of_ble_eq_true rfl) ?_
  intro p e s m below meth c ls S hr hlk hnm hE ⟨hsz, hP, hDo, hX⟩ hl
  have hx := S.1
  have hb := S.2.1
  have hE0 := hE
  have hl : lv_has ls 2 [(0, .ref a), (1, .int (iI most))] := hl
  subst hsz
  have hD := hDo.self (sz := s.heap.size)
  generalize hAe : va_A [(a, .inr (1, [.int (iI 0), .null, .int (iI 0)]))] s.heap.size = A at hD ⊢
  have hA : ∀ q : Nat, s.heap.size ≤ q → A q := fun q h => by rw [← hAe]; exact Or.inr h
  have hA0 := zA0 hE hDo hAe
  have hS : va_S A s.heap s.heap [] := va_S.rf
  refine lv_aload_n hx hb d_Row_init_0 rfl (lv_at hl 0 rfl) ?_
  refine W.objInit hx hb S.2.2.2.1 (S.2.2.2.2 _ zw_53) (S.2.2.2.2 _ zw_45) (S.2.2.2.2 _ zw_46) rfl (hl.1.trans S.2.2.1.symm) rfl d_Row_init_1 (Nat.le_of_ble_eq_true rfl) (Nat.le_of_ble_eq_true rfl) ?_
  refine lv_aload_n hx hb d_Row_init_4 rfl (lv_at hl 0 rfl) ?_
  refine zi_bipush hx hb d_Row_init_5 (by decide) ?_
  refine znewa (atype := .byte) (k := 0) (N := 16) (a0 := (16, .inl (fun _ => 0))) S hE zw_64 rfl (zfc0 hE) hP hD hS hA (fun _ => rfl) (by omega) (by omega) (by omega) (by show _ * 1 ≤ _; omega) (by (try dsimp only); omega) (by (try dsimp only); omega) d_Row_init_7 (fun q H hP hD hS => ?_)
  have hP : va_P E.1 zcl [(a, .inr (1, [.int (iI 0), .null, .int (iI 0)])), (q, .inl (E.2.1 0, 16, .inl (fun _ => 0)))] H := hP
  have hD : va_D A [(a, .inr (1, [.int (iI 0), .null, .int (iI 0)])), (q, .inl (E.2.1 0, 16, .inl (fun _ => 0)))] := hD
  have hE := hE0.at hS hA0
  refine va_put (D := E.1) (ci := 1) (v := .ref q) (ty := .array .byte) (C := "ReplacementWriter$Row") (T := F_Row) (N := 3) hx hb S.2.2.2.2 i_Row t_Row t_Row_ok n_Row S.2.2.2.1 hE.1 hP hD hS 0 rfl rfl 1 (by decide) (S.2.2.2.2 _ zw_55) (fun _ h9 => h9) rfl (by decide +kernel) rfl rfl (Nat.le_of_ble_eq_true rfl) d_Row_init_9 (fun H locs hP hD hS => ?_)
  have hP : va_P E.1 zcl [(a, .inr (1, [.int (iI 0), .ref q, .int (iI 0)])), (q, .inl (E.2.1 0, 16, .inl (fun _ => 0)))] H := hP
  have hD : va_D A [(a, .inr (1, [.int (iI 0), .ref q, .int (iI 0)])), (q, .inl (E.2.1 0, 16, .inl (fun _ => 0)))] := hD
  have hE := hE0.at hS hA0
  refine lv_aload_n hx hb d_Row_init_12 rfl (lv_at hl 0 rfl) ?_
  refine zi_iconst hx hb d_Row_init_13 ?_
  refine va_put (D := E.1) (ci := 1) (v := .int (iI 0)) (ty := .int) (C := "ReplacementWriter$Row") (T := F_Row) (N := 3) hx hb S.2.2.2.2 i_Row t_Row t_Row_ok n_Row S.2.2.2.1 hE.1 hP hD hS 0 rfl rfl 2 (by decide) (S.2.2.2.2 _ zw_56) (fun _ h9 => h9) rfl (by decide +kernel) rfl rfl (Nat.le_of_ble_eq_true rfl) d_Row_init_14 (fun H locs hP hD hS => ?_)
  have hP : va_P E.1 zcl [(a, .inr (1, [.int (iI 0), .ref q, .int (iI 0)])), (q, .inl (E.2.1 0, 16, .inl (fun _ => 0)))] H := hP
  have hD : va_D A [(a, .inr (1, [.int (iI 0), .ref q, .int (iI 0)])), (q, .inl (E.2.1 0, 16, .inl (fun _ => 0)))] := hD
  have hE := hE0.at hS hA0
  refine lv_aload_n hx hb d_Row_init_17 rfl (lv_at hl 0 rfl) ?_
  refine lv_iload_n hx hb d_Row_init_18 rfl (lv_at hl 1 rfl) ?_
  refine va_putF (D := E.1) (ci := 1) (v := .int (iI most)) (ty := .int) (C := "ReplacementWriter$Row") (T := F_Row) (N := 3) hx hb S.2.2.2.2 i_Row t_Row t_Row_ok n_Row S.2.2.2.1 hE.1 hP hD hS 0 rfl rfl 0 (by decide) (S.2.2.2.2 _ zw_54) (fun _ h9 => h9) rfl hnm rfl (by decide +kernel) rfl rfl (Nat.le_of_ble_eq_true rfl) d_Row_init_19 (fun H locs hP hD hS => ?_)
  have hP : va_P E.1 zcl [(a, .inr (1, [.int (iI most), .ref q, .int (iI 0)])), (q, .inl (E.2.1 0, 16, .inl (fun _ => 0)))] H := hP
  have hD : va_D A [(a, .inr (1, [.int (iI most), .ref q, .int (iI 0)])), (q, .inl (E.2.1 0, 16, .inl (fun _ => 0)))] := hD
  have hE := hE0.at hS hA0
  exact zwv S hr hlk hS (⟨rfl, q, hP.sub (ws' := [(a, .inr (1, [.int (iI most), .ref q, .int (iI 0)])), (q, .inl (E.2.1 0, 16, .inl (fun _ => 0)))]) [0, 1] rfl, hD.sub (ws' := [(a, .inr (1, [.int (iI most), .ref q, .int (iI 0)])), (q, .inl (E.2.1 0, 16, .inl (fun _ => 0)))]) [0, 1] (by decide) rfl⟩) (by (try dsimp only); omega) (by (try dsimp only); omega) d_Row_init_22

set_option maxRecDepth 100000 in
set_option maxHeartbeats 4000000 in
theorem c_Encoding_init (l : Launch) (E : zP) (sz : Nat) (a : Nat) (u : Bool) : Met l y_Encoding_init (.code y_Encoding_init b_Encoding_init 2 ( Option.none : Option FieldType ) :: zw) { frames := 1, cells := (0), slots := (0), locals := 20 } (zPc E [.ref a, .int (iI (bN u))] (fun H => H.size = sz ∧ va_P E.1 zcl [(a, .inr (2, [.int (iI (bN false))]))] H ∧ va_D (zOld E) [(a, .inr (2, [.int (iI (bN false))]))] ∧ (True))) (zW (fun v H => v = none ∧ va_P E.1 zcl [(a, .inr (2, [.int (iI (bN u))]))] H ∧ va_D (va_A [(a, .inr (2, [.int (iI (bN false))]))] sz) [(a, .inr (2, [.int (iI (bN u))]))]) (va_A [(a, .inr (2, [.int (iI (bN false))]))] sz)) (0) (0) (va_A [(a, .inr (2, [.int (iI (bN false))]))] sz) := by
  refine zMet (by decide) (Nat.le_of_ble_eq_true rfl) ?_
  intro p e s m below meth c ls S hr hlk hnm hE ⟨hsz, hP, hDo, hX⟩ hl
  have hx := S.1
  have hb := S.2.1
  have hE0 := hE
  have hl : lv_has ls 2 [(0, .ref a), (1, .int (iI (bN u)))] := hl
  subst hsz
  have hD := hDo.self (sz := s.heap.size)
  generalize hAe : va_A [(a, .inr (2, [.int (iI (bN false))]))] s.heap.size = A at hD ⊢
  have hA : ∀ q : Nat, s.heap.size ≤ q → A q := fun q h => by rw [← hAe]; exact Or.inr h
  have hA0 := zA0 hE hDo hAe
  have hS : va_S A s.heap s.heap [] := va_S.rf
  refine lv_aload_n hx hb d_Encoding_init_0 rfl (lv_at hl 0 rfl) ?_
  refine W.objInit hx hb S.2.2.2.1 (S.2.2.2.2 _ zw_126) (S.2.2.2.2 _ zw_45) (S.2.2.2.2 _ zw_46) rfl (hl.1.trans S.2.2.1.symm) rfl d_Encoding_init_1 (Nat.le_of_ble_eq_true rfl) (Nat.le_of_ble_eq_true rfl) ?_
  refine lv_aload_n hx hb d_Encoding_init_4 rfl (lv_at hl 0 rfl) ?_
  refine lv_iload_n hx hb d_Encoding_init_5 rfl (lv_at hl 1 rfl) ?_
  refine va_putF (D := E.1) (ci := 2) (v := .int (iI (bN u))) (ty := .boolean) (C := "ReplacementWriter$Encoding") (T := F_Encoding) (N := 1) hx hb S.2.2.2.2 i_Encoding t_Encoding t_Encoding_ok n_Encoding S.2.2.2.1 hE.1 hP hD hS 0 rfl rfl 0 (by decide) (S.2.2.2.2 _ zw_127) (fun _ h9 => h9) rfl hnm rfl (by decide +kernel) (bN_nar _) (bN_fit _) (Nat.le_of_ble_eq_true rfl) d_Encoding_init_6 (fun H locs hP hD hS => ?_)
  have hP : va_P E.1 zcl [(a, .inr (2, [.int (iI (bN u))]))] H := hP
  have hD : va_D A [(a, .inr (2, [.int (iI (bN u))]))] := hD
  have hE := hE0.at hS hA0
  exact zwv S hr hlk hS (⟨rfl, hP, hD⟩) (by (try dsimp only); omega) (by (try dsimp only); omega) d_Encoding_init_9

set_option maxRecDepth 100000 in
set_option maxHeartbeats 4000000 in
theorem c_Escape_init (l : Launch) (E : zP) (sz : Nat) (a tx en : Nat) : Met l y_Escape_init (.code y_Escape_init b_Escape_init 3 ( Option.none : Option FieldType ) :: zw) { frames := 1, cells := (0), slots := (0), locals := 20 } (zPc E [.ref a, .ref tx, .ref en] (fun H => H.size = sz ∧ va_P E.1 zcl [(a, .inr (7, [.null, .null, .int (iI 0), .int (iI 0)]))] H ∧ va_D (zOld E) [(a, .inr (7, [.null, .null, .int (iI 0), .int (iI 0)]))] ∧ (True))) (zW (fun v H => v = none ∧ va_P E.1 zcl [(a, .inr (7, [.ref tx, .ref en, .int (iI 0), .int (iI 0)]))] H ∧ va_D (va_A [(a, .inr (7, [.null, .null, .int (iI 0), .int (iI 0)]))] sz) [(a, .inr (7, [.ref tx, .ref en, .int (iI 0), .int (iI 0)]))]) (va_A [(a, .inr (7, [.null, .null, .int (iI 0), .int (iI 0)]))] sz)) (0) (0) (va_A [(a, .inr (7, [.null, .null, .int (iI 0), .int (iI 0)]))] sz) := by
  refine zMet (by decide) (Nat.le_of_ble_eq_true rfl) ?_
  intro p e s m below meth c ls S hr hlk hnm hE ⟨hsz, hP, hDo, hX⟩ hl
  have hx := S.1
  have hb := S.2.1
  have hE0 := hE
  have hl : lv_has ls 3 [(0, .ref a), (1, .ref tx), (2, .ref en)] := hl
  subst hsz
  have hD := hDo.self (sz := s.heap.size)
  generalize hAe : va_A [(a, .inr (7, [.null, .null, .int (iI 0), .int (iI 0)]))] s.heap.size = A at hD ⊢
  have hA : ∀ q : Nat, s.heap.size ≤ q → A q := fun q h => by rw [← hAe]; exact Or.inr h
  have hA0 := zA0 hE hDo hAe
  have hS : va_S A s.heap s.heap [] := va_S.rf
  refine lv_aload_n hx hb d_Escape_init_0 rfl (lv_at hl 0 rfl) ?_
  refine W.objInit hx hb S.2.2.2.1 (S.2.2.2.2 _ zw_184) (S.2.2.2.2 _ zw_45) (S.2.2.2.2 _ zw_46) rfl (hl.1.trans S.2.2.1.symm) rfl d_Escape_init_1 (Nat.le_of_ble_eq_true rfl) (Nat.le_of_ble_eq_true rfl) ?_
  refine lv_aload_n hx hb d_Escape_init_4 rfl (lv_at hl 0 rfl) ?_
  refine zi_iconst hx hb d_Escape_init_5 ?_
  refine va_put (D := E.1) (ci := 7) (v := .int (iI 0)) (ty := .int) (C := "ReplacementWriter$Escape") (T := F_Escape) (N := 4) hx hb S.2.2.2.2 i_Escape t_Escape t_Escape_ok n_Escape S.2.2.2.1 hE.1 hP hD hS 0 rfl rfl 2 (by decide) (S.2.2.2.2 _ zw_187) (fun _ h9 => h9) rfl (by decide +kernel) rfl rfl (Nat.le_of_ble_eq_true rfl) d_Escape_init_6 (fun H locs hP hD hS => ?_)
  have hP : va_P E.1 zcl [(a, .inr (7, [.null, .null, .int (iI 0), .int (iI 0)]))] H := hP
  have hD : va_D A [(a, .inr (7, [.null, .null, .int (iI 0), .int (iI 0)]))] := hD
  have hE := hE0.at hS hA0
  refine lv_aload_n hx hb d_Escape_init_9 rfl (lv_at hl 0 rfl) ?_
  refine zi_iconst hx hb d_Escape_init_10 ?_
  refine va_put (D := E.1) (ci := 7) (v := .int (iI 0)) (ty := .int) (C := "ReplacementWriter$Escape") (T := F_Escape) (N := 4) hx hb S.2.2.2.2 i_Escape t_Escape t_Escape_ok n_Escape S.2.2.2.1 hE.1 hP hD hS 0 rfl rfl 3 (by decide) (S.2.2.2.2 _ zw_188) (fun _ h9 => h9) rfl (by decide +kernel) rfl rfl (Nat.le_of_ble_eq_true rfl) d_Escape_init_11 (fun H locs hP hD hS => ?_)
  have hP : va_P E.1 zcl [(a, .inr (7, [.null, .null, .int (iI 0), .int (iI 0)]))] H := hP
  have hD : va_D A [(a, .inr (7, [.null, .null, .int (iI 0), .int (iI 0)]))] := hD
  have hE := hE0.at hS hA0
  refine lv_aload_n hx hb d_Escape_init_14 rfl (lv_at hl 0 rfl) ?_
  refine lv_aload_n hx hb d_Escape_init_15 rfl (lv_at hl 1 rfl) ?_
  refine va_putF (D := E.1) (ci := 7) (v := .ref tx) (ty := .object "ReplacementWriter$Row") (C := "ReplacementWriter$Escape") (T := F_Escape) (N := 4) hx hb S.2.2.2.2 i_Escape t_Escape t_Escape_ok n_Escape S.2.2.2.1 hE.1 hP hD hS 0 rfl rfl 0 (by decide) (S.2.2.2.2 _ zw_185) (fun _ h9 => h9) rfl hnm rfl (by decide +kernel) rfl rfl (Nat.le_of_ble_eq_true rfl) d_Escape_init_16 (fun H locs hP hD hS => ?_)
  have hP : va_P E.1 zcl [(a, .inr (7, [.ref tx, .null, .int (iI 0), .int (iI 0)]))] H := hP
  have hD : va_D A [(a, .inr (7, [.ref tx, .null, .int (iI 0), .int (iI 0)]))] := hD
  have hE := hE0.at hS hA0
  refine lv_aload_n hx hb d_Escape_init_19 rfl (lv_at hl 0 rfl) ?_
  refine lv_aload_n hx hb d_Escape_init_20 rfl (lv_at hl 2 rfl) ?_
  refine va_putF (D := E.1) (ci := 7) (v := .ref en) (ty := .object "ReplacementWriter$Encoding") (C := "ReplacementWriter$Escape") (T := F_Escape) (N := 4) hx hb S.2.2.2.2 i_Escape t_Escape t_Escape_ok n_Escape S.2.2.2.1 hE.1 hP hD hS 0 rfl rfl 1 (by decide) (S.2.2.2.2 _ zw_186) (fun _ h9 => h9) rfl hnm rfl (by decide +kernel) rfl rfl (Nat.le_of_ble_eq_true rfl) d_Escape_init_21 (fun H locs hP hD hS => ?_)
  have hP : va_P E.1 zcl [(a, .inr (7, [.ref tx, .ref en, .int (iI 0), .int (iI 0)]))] H := hP
  have hD : va_D A [(a, .inr (7, [.ref tx, .ref en, .int (iI 0), .int (iI 0)]))] := hD
  have hE := hE0.at hS hA0
  exact zwv S hr hlk hS (⟨rfl, hP, hD⟩) (by (try dsimp only); omega) (by (try dsimp only); omega) d_Escape_init_24

set_option maxRecDepth 100000 in
set_option maxHeartbeats 4000000 in
theorem c_Name_init (l : Launch) (E : zP) (sz : Nat) (a q : Nat) (n : Int) : Met l y_Name_init (.code y_Name_init b_Name_init 3 ( Option.none : Option FieldType ) :: zw) { frames := 1, cells := (0), slots := (0), locals := 20 } (zPc E [.ref a, .ref q, .int (iI n)] (fun H => H.size = sz ∧ va_P E.1 zcl [(a, .inr (4, [.null, .int (iI 0)]))] H ∧ va_D (zOld E) [(a, .inr (4, [.null, .int (iI 0)]))] ∧ (True))) (zW (fun v H => v = none ∧ va_P E.1 zcl [(a, .inr (4, [.ref q, .int (iI n)]))] H ∧ va_D (va_A [(a, .inr (4, [.null, .int (iI 0)]))] sz) [(a, .inr (4, [.ref q, .int (iI n)]))]) (va_A [(a, .inr (4, [.null, .int (iI 0)]))] sz)) (0) (0) (va_A [(a, .inr (4, [.null, .int (iI 0)]))] sz) := by
  refine zMet (by decide) (Nat.le_of_ble_eq_true rfl) ?_
  intro p e s m below meth c ls S hr hlk hnm hE ⟨hsz, hP, hDo, hX⟩ hl
  have hx := S.1
  have hb := S.2.1
  have hE0 := hE
  have hl : lv_has ls 3 [(0, .ref a), (1, .ref q), (2, .int (iI n))] := hl
  subst hsz
  have hD := hDo.self (sz := s.heap.size)
  generalize hAe : va_A [(a, .inr (4, [.null, .int (iI 0)]))] s.heap.size = A at hD ⊢
  have hA : ∀ q : Nat, s.heap.size ≤ q → A q := fun q h => by rw [← hAe]; exact Or.inr h
  have hA0 := zA0 hE hDo hAe
  have hS : va_S A s.heap s.heap [] := va_S.rf
  refine lv_aload_n hx hb d_Name_init_0 rfl (lv_at hl 0 rfl) ?_
  refine W.objInit hx hb S.2.2.2.1 (S.2.2.2.2 _ zw_563) (S.2.2.2.2 _ zw_45) (S.2.2.2.2 _ zw_46) rfl (hl.1.trans S.2.2.1.symm) rfl d_Name_init_1 (Nat.le_of_ble_eq_true rfl) (Nat.le_of_ble_eq_true rfl) ?_
  refine lv_aload_n hx hb d_Name_init_4 rfl (lv_at hl 0 rfl) ?_
  refine lv_aload_n hx hb d_Name_init_5 rfl (lv_at hl 1 rfl) ?_
  refine va_putF (D := E.1) (ci := 4) (v := .ref q) (ty := .array .byte) (C := "ReplacementWriter$Name") (T := F_Name) (N := 2) hx hb S.2.2.2.2 i_Name t_Name t_Name_ok n_Name S.2.2.2.1 hE.1 hP hD hS 0 rfl rfl 0 (by decide) (S.2.2.2.2 _ zw_564) (fun _ h9 => h9) rfl hnm rfl (by decide +kernel) rfl rfl (Nat.le_of_ble_eq_true rfl) d_Name_init_6 (fun H locs hP hD hS => ?_)
  have hP : va_P E.1 zcl [(a, .inr (4, [.ref q, .int (iI 0)]))] H := hP
  have hD : va_D A [(a, .inr (4, [.ref q, .int (iI 0)]))] := hD
  have hE := hE0.at hS hA0
  refine lv_aload_n hx hb d_Name_init_9 rfl (lv_at hl 0 rfl) ?_
  refine lv_iload_n hx hb d_Name_init_10 rfl (lv_at hl 2 rfl) ?_
  refine va_putF (D := E.1) (ci := 4) (v := .int (iI n)) (ty := .int) (C := "ReplacementWriter$Name") (T := F_Name) (N := 2) hx hb S.2.2.2.2 i_Name t_Name t_Name_ok n_Name S.2.2.2.1 hE.1 hP hD hS 0 rfl rfl 1 (by decide) (S.2.2.2.2 _ zw_565) (fun _ h9 => h9) rfl hnm rfl (by decide +kernel) rfl rfl (Nat.le_of_ble_eq_true rfl) d_Name_init_11 (fun H locs hP hD hS => ?_)
  have hP : va_P E.1 zcl [(a, .inr (4, [.ref q, .int (iI n)]))] H := hP
  have hD : va_D A [(a, .inr (4, [.ref q, .int (iI n)]))] := hD
  have hE := hE0.at hS hA0
  exact zwv S hr hlk hS (⟨rfl, hP, hD⟩) (by (try dsimp only); omega) (by (try dsimp only); omega) d_Name_init_14
