theorem sp_opt1 {v : Nat} (h : v < 16) : iI ((512 * v : Nat) : Int) &&& iI 512 = iI ((512 * (v % 2) : Nat) : Int) := (by decide +kernel : ∀ v, v < 16 → iI ((512 * v : Nat) : Int) &&& iI 512 = iI ((512 * (v % 2) : Nat) : Int)) v h
theorem sp_opt2 {v : Nat} (h : v < 16) : iI ((512 * v : Nat) : Int) &&& iI 1024 = iI ((1024 * (v / 2 % 2) : Nat) : Int) := (by decide +kernel : ∀ v, v < 16 → iI ((512 * v : Nat) : Int) &&& iI 1024 = iI ((1024 * (v / 2 % 2) : Nat) : Int)) v h
theorem sp_opt3 {v : Nat} (h : v < 16) : iI ((512 * v : Nat) : Int) &&& iI 2048 = iI ((2048 * (v / 4 % 2) : Nat) : Int) := (by decide +kernel : ∀ v, v < 16 → iI ((512 * v : Nat) : Int) &&& iI 2048 = iI ((2048 * (v / 4 % 2) : Nat) : Int)) v h

set_option maxRecDepth 100000 in
set_option maxHeartbeats 4000000 in
theorem c_Writing_code (l : Launch) (E : zP) (w tx gr h en es : Nat) (rich uemp uunk : Bool) (cd of : Int) : Met l y_Writing_code (.code y_Writing_code b_Writing_code 1 ( some FieldType.int ) :: zw) { frames := 0, cells := 0, slots := 0, locals := 0 } (zPc E [.ref w] (zO E 8 w [.ref tx, .ref gr, .ref h, .ref en, .ref es, .int (iI (bN rich)), .int (iI (bN uemp)), .int (iI (bN uunk)), .int (iI cd), .int (iI of)])) (zR (some (.int (iI cd)))) 0 0 (fun _ => False) := by
  refine zMet (by decide) (Nat.le_of_ble_eq_true rfl) ?_
  intro p e s m below meth c ls S hr hlk hnm hE hp hl
  have hx := S.1
  have hb := S.2.1
  have hl : lv_has ls 1 [(0, .ref w)] := hl
  refine lv_aload_n hx hb d_Writing_code_0 rfl (lv_at hl 0 rfl) ?_
  refine zgf S hE (ci := 8) rfl i_Writing hp 8 (by decide) zw_206 rfl d_Writing_code_1 ?_
  exact zretI S hr hlk d_Writing_code_4 (rfl)

set_option maxRecDepth 100000 in
set_option maxHeartbeats 4000000 in
theorem c_Writing_offset (l : Launch) (E : zP) (w tx gr h en es : Nat) (rich uemp uunk : Bool) (cd of : Int) : Met l y_Writing_offset (.code y_Writing_offset b_Writing_offset 1 ( some FieldType.int ) :: zw) { frames := 0, cells := 0, slots := 0, locals := 0 } (zPc E [.ref w] (zO E 8 w [.ref tx, .ref gr, .ref h, .ref en, .ref es, .int (iI (bN rich)), .int (iI (bN uemp)), .int (iI (bN uunk)), .int (iI cd), .int (iI of)])) (zR (some (.int (iI of)))) 0 0 (fun _ => False) := by
  refine zMet (by decide) (Nat.le_of_ble_eq_true rfl) ?_
  intro p e s m below meth c ls S hr hlk hnm hE hp hl
  have hx := S.1
  have hb := S.2.1
  have hl : lv_has ls 1 [(0, .ref w)] := hl
  refine lv_aload_n hx hb d_Writing_offset_0 rfl (lv_at hl 0 rfl) ?_
  refine zgf S hE (ci := 8) rfl i_Writing hp 9 (by decide) zw_207 rfl d_Writing_offset_1 ?_
  exact zretI S hr hlk d_Writing_offset_4 (rfl)

set_option maxRecDepth 100000 in
set_option maxHeartbeats 4000000 in
theorem c_Writing_startAnew (l : Launch) (E : zP) (sz : Nat) (w tx gr h en es : Nat) (rich uemp uunk : Bool) (cd of : Int) (ov : Nat) (hov : ov < 16) : Met l y_Writing_startAnew (.code y_Writing_startAnew b_Writing_startAnew 2 ( Option.none : Option FieldType ) :: zw) { frames := 0, cells := (0), slots := (0), locals := 0 } (zPc E [.ref w, .int (iI ((512 * ov : Nat) : Int))] (fun H => H.size = sz ∧ va_P E.1 zcl [(w, .inr (8, [.ref tx, .ref gr, .ref h, .ref en, .ref es, .int (iI (bN rich)), .int (iI (bN uemp)), .int (iI (bN uunk)), .int (iI cd), .int (iI of)]))] H ∧ va_D (zOld E) [(w, .inr (8, [.ref tx, .ref gr, .ref h, .ref en, .ref es, .int (iI (bN rich)), .int (iI (bN uemp)), .int (iI (bN uunk)), .int (iI cd), .int (iI of)]))] ∧ (True))) (zW (fun v H => v = none ∧ va_P E.1 zcl [(w, .inr (8, [.ref tx, .ref gr, .ref h, .ref en, .ref es, .int (iI (bN (decide (ov % 2 = 1)))), .int (iI (bN (decide (ov / 2 % 2 = 1)))), .int (iI (bN (decide (ov / 4 % 2 = 1)))), .int (iI 0), .int (iI (-1))]))] H ∧ va_D (va_A [(w, .inr (8, [.ref tx, .ref gr, .ref h, .ref en, .ref es, .int (iI (bN rich)), .int (iI (bN uemp)), .int (iI (bN uunk)), .int (iI cd), .int (iI of)]))] sz) [(w, .inr (8, [.ref tx, .ref gr, .ref h, .ref en, .ref es, .int (iI (bN (decide (ov % 2 = 1)))), .int (iI (bN (decide (ov / 2 % 2 = 1)))), .int (iI (bN (decide (ov / 4 % 2 = 1)))), .int (iI 0), .int (iI (-1))]))]) (va_A [(w, .inr (8, [.ref tx, .ref gr, .ref h, .ref en, .ref es, .int (iI (bN rich)), .int (iI (bN uemp)), .int (iI (bN uunk)), .int (iI cd), .int (iI of)]))] sz)) (0) (0) (va_A [(w, .inr (8, [.ref tx, .ref gr, .ref h, .ref en, .ref es, .int (iI (bN rich)), .int (iI (bN uemp)), .int (iI (bN uunk)), .int (iI cd), .int (iI of)]))] sz) := by
  refine zMet (by decide) (Nat.le_of_ble_eq_true rfl) ?_
  intro p e s m below meth c ls S hr hlk hnm hE ⟨hsz, hP, hDo, hX⟩ hl
  have hx := S.1
  have hb := S.2.1
  have hE0 := hE
  have hl : lv_has ls 2 [(0, .ref w), (1, .int (iI ((512 * ov : Nat) : Int)))] := hl
  subst hsz
  have hD := hDo.self (sz := s.heap.size)
  generalize hAe : va_A [(w, .inr (8, [.ref tx, .ref gr, .ref h, .ref en, .ref es, .int (iI (bN rich)), .int (iI (bN uemp)), .int (iI (bN uunk)), .int (iI cd), .int (iI of)]))] s.heap.size = A at hD ⊢
  have hA : ∀ q : Nat, s.heap.size ≤ q → A q := fun q h => by rw [← hAe]; exact Or.inr h
  have hA0 := zA0 hE hDo hAe
  have hS : va_S A s.heap s.heap [] := va_S.rf
  refine lv_aload_n hx hb d_Writing_startAnew_0 rfl (lv_at hl 0 rfl) ?_
  refine lv_iload_n hx hb d_Writing_startAnew_1 rfl (lv_at hl 1 rfl) ?_
  refine zi_sipush hx hb d_Writing_startAnew_2 (by decide) ?_
  refine zi_iand hx hb d_Writing_startAnew_5 (sp_opt1 hov) ?_
  refine zi_if_eq hx hb d_Writing_startAnew_6 rfl (by omega) (fun h6 => ?_) (fun h6 => ?_)
  · refine zi_iconst hx hb d_Writing_startAnew_13 ?_
    refine va_put (D := E.1) (ci := 8) (v := .int (iI (bN false))) (ty := .boolean) (C := "ReplacementWriter$Writing") (T := F_Writing) (N := 10) hx hb S.2.2.2.2 i_Writing t_Writing t_Writing_ok n_Writing S.2.2.2.1 hE.1 hP hD hS 0 rfl rfl 5 (by decide) (S.2.2.2.2 _ zw_203) (fun _ h9 => h9) rfl (by decide +kernel) (bN_nar _) (bN_fit _) (Nat.le_of_ble_eq_true rfl) d_Writing_startAnew_14 (fun H locs hP hD hS => ?_)
    have hP : va_P E.1 zcl [(w, .inr (8, [.ref tx, .ref gr, .ref h, .ref en, .ref es, .int (iI (bN false)), .int (iI (bN uemp)), .int (iI (bN uunk)), .int (iI cd), .int (iI of)]))] H := hP
    have hD : va_D A [(w, .inr (8, [.ref tx, .ref gr, .ref h, .ref en, .ref es, .int (iI (bN false)), .int (iI (bN uemp)), .int (iI (bN uunk)), .int (iI cd), .int (iI of)]))] := hD
    have hE := hE0.at hS hA0
    refine lv_aload_n hx hb d_Writing_startAnew_17 rfl (lv_at hl 0 rfl) ?_
    refine lv_iload_n hx hb d_Writing_startAnew_18 rfl (lv_at hl 1 rfl) ?_
    refine zi_sipush hx hb d_Writing_startAnew_19 (by decide) ?_
    refine zi_iand hx hb d_Writing_startAnew_22 (sp_opt2 hov) ?_
    refine zi_if_eq hx hb d_Writing_startAnew_23 rfl (by omega) (fun h23 => ?_) (fun h23 => ?_)
    · refine zi_iconst hx hb d_Writing_startAnew_30 ?_
      refine va_put (D := E.1) (ci := 8) (v := .int (iI (bN false))) (ty := .boolean) (C := "ReplacementWriter$Writing") (T := F_Writing) (N := 10) hx hb S.2.2.2.2 i_Writing t_Writing t_Writing_ok n_Writing S.2.2.2.1 hE.1 hP hD hS 0 rfl rfl 6 (by decide) (S.2.2.2.2 _ zw_204) (fun _ h9 => h9) rfl (by decide +kernel) (bN_nar _) (bN_fit _) (Nat.le_of_ble_eq_true rfl) d_Writing_startAnew_31 (fun H locs hP hD hS => ?_)
      have hP : va_P E.1 zcl [(w, .inr (8, [.ref tx, .ref gr, .ref h, .ref en, .ref es, .int (iI (bN false)), .int (iI (bN false)), .int (iI (bN uunk)), .int (iI cd), .int (iI of)]))] H := hP
      have hD : va_D A [(w, .inr (8, [.ref tx, .ref gr, .ref h, .ref en, .ref es, .int (iI (bN false)), .int (iI (bN false)), .int (iI (bN uunk)), .int (iI cd), .int (iI of)]))] := hD
      have hE := hE0.at hS hA0
      refine lv_aload_n hx hb d_Writing_startAnew_34 rfl (lv_at hl 0 rfl) ?_
      refine lv_iload_n hx hb d_Writing_startAnew_35 rfl (lv_at hl 1 rfl) ?_
      refine zi_sipush hx hb d_Writing_startAnew_36 (by decide) ?_
      refine zi_iand hx hb d_Writing_startAnew_39 (sp_opt3 hov) ?_
      refine zi_if_eq hx hb d_Writing_startAnew_40 rfl (by omega) (fun h40 => ?_) (fun h40 => ?_)
      · refine zi_iconst hx hb d_Writing_startAnew_47 ?_
        refine va_put (D := E.1) (ci := 8) (v := .int (iI (bN false))) (ty := .boolean) (C := "ReplacementWriter$Writing") (T := F_Writing) (N := 10) hx hb S.2.2.2.2 i_Writing t_Writing t_Writing_ok n_Writing S.2.2.2.1 hE.1 hP hD hS 0 rfl rfl 7 (by decide) (S.2.2.2.2 _ zw_205) (fun _ h9 => h9) rfl (by decide +kernel) (bN_nar _) (bN_fit _) (Nat.le_of_ble_eq_true rfl) d_Writing_startAnew_48 (fun H locs hP hD hS => ?_)
        have hP : va_P E.1 zcl [(w, .inr (8, [.ref tx, .ref gr, .ref h, .ref en, .ref es, .int (iI (bN false)), .int (iI (bN false)), .int (iI (bN false)), .int (iI cd), .int (iI of)]))] H := hP
        have hD : va_D A [(w, .inr (8, [.ref tx, .ref gr, .ref h, .ref en, .ref es, .int (iI (bN false)), .int (iI (bN false)), .int (iI (bN false)), .int (iI cd), .int (iI of)]))] := hD
        have hE := hE0.at hS hA0
        refine lv_aload_n hx hb d_Writing_startAnew_51 rfl (lv_at hl 0 rfl) ?_
        refine zi_iconst hx hb d_Writing_startAnew_52 ?_
        refine va_put (D := E.1) (ci := 8) (v := .int (iI 0)) (ty := .int) (C := "ReplacementWriter$Writing") (T := F_Writing) (N := 10) hx hb S.2.2.2.2 i_Writing t_Writing t_Writing_ok n_Writing S.2.2.2.1 hE.1 hP hD hS 0 rfl rfl 8 (by decide) (S.2.2.2.2 _ zw_206) (fun _ h9 => h9) rfl (by decide +kernel) rfl rfl (Nat.le_of_ble_eq_true rfl) d_Writing_startAnew_53 (fun H locs hP hD hS => ?_)
        have hP : va_P E.1 zcl [(w, .inr (8, [.ref tx, .ref gr, .ref h, .ref en, .ref es, .int (iI (bN false)), .int (iI (bN false)), .int (iI (bN false)), .int (iI 0), .int (iI of)]))] H := hP
        have hD : va_D A [(w, .inr (8, [.ref tx, .ref gr, .ref h, .ref en, .ref es, .int (iI (bN false)), .int (iI (bN false)), .int (iI (bN false)), .int (iI 0), .int (iI of)]))] := hD
        have hE := hE0.at hS hA0
        refine lv_aload_n hx hb d_Writing_startAnew_56 rfl (lv_at hl 0 rfl) ?_
        refine zi_iconst hx hb d_Writing_startAnew_57 ?_
        refine va_put (D := E.1) (ci := 8) (v := .int (iI (-1))) (ty := .int) (C := "ReplacementWriter$Writing") (T := F_Writing) (N := 10) hx hb S.2.2.2.2 i_Writing t_Writing t_Writing_ok n_Writing S.2.2.2.1 hE.1 hP hD hS 0 rfl rfl 9 (by decide) (S.2.2.2.2 _ zw_207) (fun _ h9 => h9) rfl (by decide +kernel) rfl rfl (Nat.le_of_ble_eq_true rfl) d_Writing_startAnew_58 (fun H locs hP hD hS => ?_)
        have hP : va_P E.1 zcl [(w, .inr (8, [.ref tx, .ref gr, .ref h, .ref en, .ref es, .int (iI (bN false)), .int (iI (bN false)), .int (iI (bN false)), .int (iI 0), .int (iI (-1))]))] H := hP
        have hD : va_D A [(w, .inr (8, [.ref tx, .ref gr, .ref h, .ref en, .ref es, .int (iI (bN false)), .int (iI (bN false)), .int (iI (bN false)), .int (iI 0), .int (iI (-1))]))] := hD
        have hE := hE0.at hS hA0
        exact zwv S hr hlk hS (⟨rfl, by rw [show decide (ov % 2 = 1) = false from decide_eq_false (by omega), show decide (ov / 2 % 2 = 1) = false from decide_eq_false (by omega), show decide (ov / 4 % 2 = 1) = false from decide_eq_false (by omega)]; exact hP, by rw [show decide (ov % 2 = 1) = false from decide_eq_false (by omega), show decide (ov / 2 % 2 = 1) = false from decide_eq_false (by omega), show decide (ov / 4 % 2 = 1) = false from decide_eq_false (by omega)]; exact hD⟩) (by (try dsimp only); omega) (by (try dsimp only); omega) d_Writing_startAnew_61
      · refine zi_iconst hx hb d_Writing_startAnew_43 ?_
        refine lv_goto hx hb d_Writing_startAnew_44 rfl ?_
        refine va_put (D := E.1) (ci := 8) (v := .int (iI (bN true))) (ty := .boolean) (C := "ReplacementWriter$Writing") (T := F_Writing) (N := 10) hx hb S.2.2.2.2 i_Writing t_Writing t_Writing_ok n_Writing S.2.2.2.1 hE.1 hP hD hS 0 rfl rfl 7 (by decide) (S.2.2.2.2 _ zw_205) (fun _ h9 => h9) rfl (by decide +kernel) (bN_nar _) (bN_fit _) (Nat.le_of_ble_eq_true rfl) d_Writing_startAnew_48 (fun H locs hP hD hS => ?_)
        have hP : va_P E.1 zcl [(w, .inr (8, [.ref tx, .ref gr, .ref h, .ref en, .ref es, .int (iI (bN false)), .int (iI (bN false)), .int (iI (bN true)), .int (iI cd), .int (iI of)]))] H := hP
        have hD : va_D A [(w, .inr (8, [.ref tx, .ref gr, .ref h, .ref en, .ref es, .int (iI (bN false)), .int (iI (bN false)), .int (iI (bN true)), .int (iI cd), .int (iI of)]))] := hD
        have hE := hE0.at hS hA0
        refine lv_aload_n hx hb d_Writing_startAnew_51 rfl (lv_at hl 0 rfl) ?_
        refine zi_iconst hx hb d_Writing_startAnew_52 ?_
        refine va_put (D := E.1) (ci := 8) (v := .int (iI 0)) (ty := .int) (C := "ReplacementWriter$Writing") (T := F_Writing) (N := 10) hx hb S.2.2.2.2 i_Writing t_Writing t_Writing_ok n_Writing S.2.2.2.1 hE.1 hP hD hS 0 rfl rfl 8 (by decide) (S.2.2.2.2 _ zw_206) (fun _ h9 => h9) rfl (by decide +kernel) rfl rfl (Nat.le_of_ble_eq_true rfl) d_Writing_startAnew_53 (fun H locs hP hD hS => ?_)
        have hP : va_P E.1 zcl [(w, .inr (8, [.ref tx, .ref gr, .ref h, .ref en, .ref es, .int (iI (bN false)), .int (iI (bN false)), .int (iI (bN true)), .int (iI 0), .int (iI of)]))] H := hP
        have hD : va_D A [(w, .inr (8, [.ref tx, .ref gr, .ref h, .ref en, .ref es, .int (iI (bN false)), .int (iI (bN false)), .int (iI (bN true)), .int (iI 0), .int (iI of)]))] := hD
        have hE := hE0.at hS hA0
        refine lv_aload_n hx hb d_Writing_startAnew_56 rfl (lv_at hl 0 rfl) ?_
        refine zi_iconst hx hb d_Writing_startAnew_57 ?_
        refine va_put (D := E.1) (ci := 8) (v := .int (iI (-1))) (ty := .int) (C := "ReplacementWriter$Writing") (T := F_Writing) (N := 10) hx hb S.2.2.2.2 i_Writing t_Writing t_Writing_ok n_Writing S.2.2.2.1 hE.1 hP hD hS 0 rfl rfl 9 (by decide) (S.2.2.2.2 _ zw_207) (fun _ h9 => h9) rfl (by decide +kernel) rfl rfl (Nat.le_of_ble_eq_true rfl) d_Writing_startAnew_58 (fun H locs hP hD hS => ?_)
        have hP : va_P E.1 zcl [(w, .inr (8, [.ref tx, .ref gr, .ref h, .ref en, .ref es, .int (iI (bN false)), .int (iI (bN false)), .int (iI (bN true)), .int (iI 0), .int (iI (-1))]))] H := hP
        have hD : va_D A [(w, .inr (8, [.ref tx, .ref gr, .ref h, .ref en, .ref es, .int (iI (bN false)), .int (iI (bN false)), .int (iI (bN true)), .int (iI 0), .int (iI (-1))]))] := hD
        have hE := hE0.at hS hA0
        exact zwv S hr hlk hS (⟨rfl, by rw [show decide (ov % 2 = 1) = false from decide_eq_false (by omega), show decide (ov / 2 % 2 = 1) = false from decide_eq_false (by omega), show decide (ov / 4 % 2 = 1) = true from decide_eq_true (by omega)]; exact hP, by rw [show decide (ov % 2 = 1) = false from decide_eq_false (by omega), show decide (ov / 2 % 2 = 1) = false from decide_eq_false (by omega), show decide (ov / 4 % 2 = 1) = true from decide_eq_true (by omega)]; exact hD⟩) (by (try dsimp only); omega) (by (try dsimp only); omega) d_Writing_startAnew_61
    · refine zi_iconst hx hb d_Writing_startAnew_26 ?_
      refine lv_goto hx hb d_Writing_startAnew_27 rfl ?_
      refine va_put (D := E.1) (ci := 8) (v := .int (iI (bN true))) (ty := .boolean) (C := "ReplacementWriter$Writing") (T := F_Writing) (N := 10) hx hb S.2.2.2.2 i_Writing t_Writing t_Writing_ok n_Writing S.2.2.2.1 hE.1 hP hD hS 0 rfl rfl 6 (by decide) (S.2.2.2.2 _ zw_204) (fun _ h9 => h9) rfl (by decide +kernel) (bN_nar _) (bN_fit _) (Nat.le_of_ble_eq_true rfl) d_Writing_startAnew_31 (fun H locs hP hD hS => ?_)
      have hP : va_P E.1 zcl [(w, .inr (8, [.ref tx, .ref gr, .ref h, .ref en, .ref es, .int (iI (bN false)), .int (iI (bN true)), .int (iI (bN uunk)), .int (iI cd), .int (iI of)]))] H := hP
      have hD : va_D A [(w, .inr (8, [.ref tx, .ref gr, .ref h, .ref en, .ref es, .int (iI (bN false)), .int (iI (bN true)), .int (iI (bN uunk)), .int (iI cd), .int (iI of)]))] := hD
      have hE := hE0.at hS hA0
      refine lv_aload_n hx hb d_Writing_startAnew_34 rfl (lv_at hl 0 rfl) ?_
      refine lv_iload_n hx hb d_Writing_startAnew_35 rfl (lv_at hl 1 rfl) ?_
      refine zi_sipush hx hb d_Writing_startAnew_36 (by decide) ?_
      refine zi_iand hx hb d_Writing_startAnew_39 (sp_opt3 hov) ?_
      refine zi_if_eq hx hb d_Writing_startAnew_40 rfl (by omega) (fun h40 => ?_) (fun h40 => ?_)
      · refine zi_iconst hx hb d_Writing_startAnew_47 ?_
        refine va_put (D := E.1) (ci := 8) (v := .int (iI (bN false))) (ty := .boolean) (C := "ReplacementWriter$Writing") (T := F_Writing) (N := 10) hx hb S.2.2.2.2 i_Writing t_Writing t_Writing_ok n_Writing S.2.2.2.1 hE.1 hP hD hS 0 rfl rfl 7 (by decide) (S.2.2.2.2 _ zw_205) (fun _ h9 => h9) rfl (by decide +kernel) (bN_nar _) (bN_fit _) (Nat.le_of_ble_eq_true rfl) d_Writing_startAnew_48 (fun H locs hP hD hS => ?_)
        have hP : va_P E.1 zcl [(w, .inr (8, [.ref tx, .ref gr, .ref h, .ref en, .ref es, .int (iI (bN false)), .int (iI (bN true)), .int (iI (bN false)), .int (iI cd), .int (iI of)]))] H := hP
        have hD : va_D A [(w, .inr (8, [.ref tx, .ref gr, .ref h, .ref en, .ref es, .int (iI (bN false)), .int (iI (bN true)), .int (iI (bN false)), .int (iI cd), .int (iI of)]))] := hD
        have hE := hE0.at hS hA0
        refine lv_aload_n hx hb d_Writing_startAnew_51 rfl (lv_at hl 0 rfl) ?_
        refine zi_iconst hx hb d_Writing_startAnew_52 ?_
        refine va_put (D := E.1) (ci := 8) (v := .int (iI 0)) (ty := .int) (C := "ReplacementWriter$Writing") (T := F_Writing) (N := 10) hx hb S.2.2.2.2 i_Writing t_Writing t_Writing_ok n_Writing S.2.2.2.1 hE.1 hP hD hS 0 rfl rfl 8 (by decide) (S.2.2.2.2 _ zw_206) (fun _ h9 => h9) rfl (by decide +kernel) rfl rfl (Nat.le_of_ble_eq_true rfl) d_Writing_startAnew_53 (fun H locs hP hD hS => ?_)
        have hP : va_P E.1 zcl [(w, .inr (8, [.ref tx, .ref gr, .ref h, .ref en, .ref es, .int (iI (bN false)), .int (iI (bN true)), .int (iI (bN false)), .int (iI 0), .int (iI of)]))] H := hP
        have hD : va_D A [(w, .inr (8, [.ref tx, .ref gr, .ref h, .ref en, .ref es, .int (iI (bN false)), .int (iI (bN true)), .int (iI (bN false)), .int (iI 0), .int (iI of)]))] := hD
        have hE := hE0.at hS hA0
        refine lv_aload_n hx hb d_Writing_startAnew_56 rfl (lv_at hl 0 rfl) ?_
        refine zi_iconst hx hb d_Writing_startAnew_57 ?_
        refine va_put (D := E.1) (ci := 8) (v := .int (iI (-1))) (ty := .int) (C := "ReplacementWriter$Writing") (T := F_Writing) (N := 10) hx hb S.2.2.2.2 i_Writing t_Writing t_Writing_ok n_Writing S.2.2.2.1 hE.1 hP hD hS 0 rfl rfl 9 (by decide) (S.2.2.2.2 _ zw_207) (fun _ h9 => h9) rfl (by decide +kernel) rfl rfl (Nat.le_of_ble_eq_true rfl) d_Writing_startAnew_58 (fun H locs hP hD hS => ?_)
        have hP : va_P E.1 zcl [(w, .inr (8, [.ref tx, .ref gr, .ref h, .ref en, .ref es, .int (iI (bN false)), .int (iI (bN true)), .int (iI (bN false)), .int (iI 0), .int (iI (-1))]))] H := hP
        have hD : va_D A [(w, .inr (8, [.ref tx, .ref gr, .ref h, .ref en, .ref es, .int (iI (bN false)), .int (iI (bN true)), .int (iI (bN false)), .int (iI 0), .int (iI (-1))]))] := hD
        have hE := hE0.at hS hA0
        exact zwv S hr hlk hS (⟨rfl, by rw [show decide (ov % 2 = 1) = false from decide_eq_false (by omega), show decide (ov / 2 % 2 = 1) = true from decide_eq_true (by omega), show decide (ov / 4 % 2 = 1) = false from decide_eq_false (by omega)]; exact hP, by rw [show decide (ov % 2 = 1) = false from decide_eq_false (by omega), show decide (ov / 2 % 2 = 1) = true from decide_eq_true (by omega), show decide (ov / 4 % 2 = 1) = false from decide_eq_false (by omega)]; exact hD⟩) (by (try dsimp only); omega) (by (try dsimp only); omega) d_Writing_startAnew_61
      · refine zi_iconst hx hb d_Writing_startAnew_43 ?_
        refine lv_goto hx hb d_Writing_startAnew_44 rfl ?_
        refine va_put (D := E.1) (ci := 8) (v := .int (iI (bN true))) (ty := .boolean) (C := "ReplacementWriter$Writing") (T := F_Writing) (N := 10) hx hb S.2.2.2.2 i_Writing t_Writing t_Writing_ok n_Writing S.2.2.2.1 hE.1 hP hD hS 0 rfl rfl 7 (by decide) (S.2.2.2.2 _ zw_205) (fun _ h9 => h9) rfl (by decide +kernel) (bN_nar _) (bN_fit _) (Nat.le_of_ble_eq_true rfl) d_Writing_startAnew_48 (fun H locs hP hD hS => ?_)
        have hP : va_P E.1 zcl [(w, .inr (8, [.ref tx, .ref gr, .ref h, .ref en, .ref es, .int (iI (bN false)), .int (iI (bN true)), .int (iI (bN true)), .int (iI cd), .int (iI of)]))] H := hP
        have hD : va_D A [(w, .inr (8, [.ref tx, .ref gr, .ref h, .ref en, .ref es, .int (iI (bN false)), .int (iI (bN true)), .int (iI (bN true)), .int (iI cd), .int (iI of)]))] := hD
        have hE := hE0.at hS hA0
        refine lv_aload_n hx hb d_Writing_startAnew_51 rfl (lv_at hl 0 rfl) ?_
        refine zi_iconst hx hb d_Writing_startAnew_52 ?_
        refine va_put (D := E.1) (ci := 8) (v := .int (iI 0)) (ty := .int) (C := "ReplacementWriter$Writing") (T := F_Writing) (N := 10) hx hb S.2.2.2.2 i_Writing t_Writing t_Writing_ok n_Writing S.2.2.2.1 hE.1 hP hD hS 0 rfl rfl 8 (by decide) (S.2.2.2.2 _ zw_206) (fun _ h9 => h9) rfl (by decide +kernel) rfl rfl (Nat.le_of_ble_eq_true rfl) d_Writing_startAnew_53 (fun H locs hP hD hS => ?_)
        have hP : va_P E.1 zcl [(w, .inr (8, [.ref tx, .ref gr, .ref h, .ref en, .ref es, .int (iI (bN false)), .int (iI (bN true)), .int (iI (bN true)), .int (iI 0), .int (iI of)]))] H := hP
        have hD : va_D A [(w, .inr (8, [.ref tx, .ref gr, .ref h, .ref en, .ref es, .int (iI (bN false)), .int (iI (bN true)), .int (iI (bN true)), .int (iI 0), .int (iI of)]))] := hD
        have hE := hE0.at hS hA0
        refine lv_aload_n hx hb d_Writing_startAnew_56 rfl (lv_at hl 0 rfl) ?_
        refine zi_iconst hx hb d_Writing_startAnew_57 ?_
        refine va_put (D := E.1) (ci := 8) (v := .int (iI (-1))) (ty := .int) (C := "ReplacementWriter$Writing") (T := F_Writing) (N := 10) hx hb S.2.2.2.2 i_Writing t_Writing t_Writing_ok n_Writing S.2.2.2.1 hE.1 hP hD hS 0 rfl rfl 9 (by decide) (S.2.2.2.2 _ zw_207) (fun _ h9 => h9) rfl (by decide +kernel) rfl rfl (Nat.le_of_ble_eq_true rfl) d_Writing_startAnew_58 (fun H locs hP hD hS => ?_)
        have hP : va_P E.1 zcl [(w, .inr (8, [.ref tx, .ref gr, .ref h, .ref en, .ref es, .int (iI (bN false)), .int (iI (bN true)), .int (iI (bN true)), .int (iI 0), .int (iI (-1))]))] H := hP
        have hD : va_D A [(w, .inr (8, [.ref tx, .ref gr, .ref h, .ref en, .ref es, .int (iI (bN false)), .int (iI (bN true)), .int (iI (bN true)), .int (iI 0), .int (iI (-1))]))] := hD
        have hE := hE0.at hS hA0
        exact zwv S hr hlk hS (⟨rfl, by rw [show decide (ov % 2 = 1) = false from decide_eq_false (by omega), show decide (ov / 2 % 2 = 1) = true from decide_eq_true (by omega), show decide (ov / 4 % 2 = 1) = true from decide_eq_true (by omega)]; exact hP, by rw [show decide (ov % 2 = 1) = false from decide_eq_false (by omega), show decide (ov / 2 % 2 = 1) = true from decide_eq_true (by omega), show decide (ov / 4 % 2 = 1) = true from decide_eq_true (by omega)]; exact hD⟩) (by (try dsimp only); omega) (by (try dsimp only); omega) d_Writing_startAnew_61
  · refine zi_iconst hx hb d_Writing_startAnew_9 ?_
    refine lv_goto hx hb d_Writing_startAnew_10 rfl ?_
    refine va_put (D := E.1) (ci := 8) (v := .int (iI (bN true))) (ty := .boolean) (C := "ReplacementWriter$Writing") (T := F_Writing) (N := 10) hx hb S.2.2.2.2 i_Writing t_Writing t_Writing_ok n_Writing S.2.2.2.1 hE.1 hP hD hS 0 rfl rfl 5 (by decide) (S.2.2.2.2 _ zw_203) (fun _ h9 => h9) rfl (by decide +kernel) (bN_nar _) (bN_fit _) (Nat.le_of_ble_eq_true rfl) d_Writing_startAnew_14 (fun H locs hP hD hS => ?_)
    have hP : va_P E.1 zcl [(w, .inr (8, [.ref tx, .ref gr, .ref h, .ref en, .ref es, .int (iI (bN true)), .int (iI (bN uemp)), .int (iI (bN uunk)), .int (iI cd), .int (iI of)]))] H := hP
    have hD : va_D A [(w, .inr (8, [.ref tx, .ref gr, .ref h, .ref en, .ref es, .int (iI (bN true)), .int (iI (bN uemp)), .int (iI (bN uunk)), .int (iI cd), .int (iI of)]))] := hD
    have hE := hE0.at hS hA0
    refine lv_aload_n hx hb d_Writing_startAnew_17 rfl (lv_at hl 0 rfl) ?_
    refine lv_iload_n hx hb d_Writing_startAnew_18 rfl (lv_at hl 1 rfl) ?_
    refine zi_sipush hx hb d_Writing_startAnew_19 (by decide) ?_
    refine zi_iand hx hb d_Writing_startAnew_22 (sp_opt2 hov) ?_
    refine zi_if_eq hx hb d_Writing_startAnew_23 rfl (by omega) (fun h23 => ?_) (fun h23 => ?_)
    · refine zi_iconst hx hb d_Writing_startAnew_30 ?_
      refine va_put (D := E.1) (ci := 8) (v := .int (iI (bN false))) (ty := .boolean) (C := "ReplacementWriter$Writing") (T := F_Writing) (N := 10) hx hb S.2.2.2.2 i_Writing t_Writing t_Writing_ok n_Writing S.2.2.2.1 hE.1 hP hD hS 0 rfl rfl 6 (by decide) (S.2.2.2.2 _ zw_204) (fun _ h9 => h9) rfl (by decide +kernel) (bN_nar _) (bN_fit _) (Nat.le_of_ble_eq_true rfl) d_Writing_startAnew_31 (fun H locs hP hD hS => ?_)
      have hP : va_P E.1 zcl [(w, .inr (8, [.ref tx, .ref gr, .ref h, .ref en, .ref es, .int (iI (bN true)), .int (iI (bN false)), .int (iI (bN uunk)), .int (iI cd), .int (iI of)]))] H := hP
      have hD : va_D A [(w, .inr (8, [.ref tx, .ref gr, .ref h, .ref en, .ref es, .int (iI (bN true)), .int (iI (bN false)), .int (iI (bN uunk)), .int (iI cd), .int (iI of)]))] := hD
      have hE := hE0.at hS hA0
      refine lv_aload_n hx hb d_Writing_startAnew_34 rfl (lv_at hl 0 rfl) ?_
      refine lv_iload_n hx hb d_Writing_startAnew_35 rfl (lv_at hl 1 rfl) ?_
      refine zi_sipush hx hb d_Writing_startAnew_36 (by decide) ?_
      refine zi_iand hx hb d_Writing_startAnew_39 (sp_opt3 hov) ?_
      refine zi_if_eq hx hb d_Writing_startAnew_40 rfl (by omega) (fun h40 => ?_) (fun h40 => ?_)
      · refine zi_iconst hx hb d_Writing_startAnew_47 ?_
        refine va_put (D := E.1) (ci := 8) (v := .int (iI (bN false))) (ty := .boolean) (C := "ReplacementWriter$Writing") (T := F_Writing) (N := 10) hx hb S.2.2.2.2 i_Writing t_Writing t_Writing_ok n_Writing S.2.2.2.1 hE.1 hP hD hS 0 rfl rfl 7 (by decide) (S.2.2.2.2 _ zw_205) (fun _ h9 => h9) rfl (by decide +kernel) (bN_nar _) (bN_fit _) (Nat.le_of_ble_eq_true rfl) d_Writing_startAnew_48 (fun H locs hP hD hS => ?_)
        have hP : va_P E.1 zcl [(w, .inr (8, [.ref tx, .ref gr, .ref h, .ref en, .ref es, .int (iI (bN true)), .int (iI (bN false)), .int (iI (bN false)), .int (iI cd), .int (iI of)]))] H := hP
        have hD : va_D A [(w, .inr (8, [.ref tx, .ref gr, .ref h, .ref en, .ref es, .int (iI (bN true)), .int (iI (bN false)), .int (iI (bN false)), .int (iI cd), .int (iI of)]))] := hD
        have hE := hE0.at hS hA0
        refine lv_aload_n hx hb d_Writing_startAnew_51 rfl (lv_at hl 0 rfl) ?_
        refine zi_iconst hx hb d_Writing_startAnew_52 ?_
        refine va_put (D := E.1) (ci := 8) (v := .int (iI 0)) (ty := .int) (C := "ReplacementWriter$Writing") (T := F_Writing) (N := 10) hx hb S.2.2.2.2 i_Writing t_Writing t_Writing_ok n_Writing S.2.2.2.1 hE.1 hP hD hS 0 rfl rfl 8 (by decide) (S.2.2.2.2 _ zw_206) (fun _ h9 => h9) rfl (by decide +kernel) rfl rfl (Nat.le_of_ble_eq_true rfl) d_Writing_startAnew_53 (fun H locs hP hD hS => ?_)
        have hP : va_P E.1 zcl [(w, .inr (8, [.ref tx, .ref gr, .ref h, .ref en, .ref es, .int (iI (bN true)), .int (iI (bN false)), .int (iI (bN false)), .int (iI 0), .int (iI of)]))] H := hP
        have hD : va_D A [(w, .inr (8, [.ref tx, .ref gr, .ref h, .ref en, .ref es, .int (iI (bN true)), .int (iI (bN false)), .int (iI (bN false)), .int (iI 0), .int (iI of)]))] := hD
        have hE := hE0.at hS hA0
        refine lv_aload_n hx hb d_Writing_startAnew_56 rfl (lv_at hl 0 rfl) ?_
        refine zi_iconst hx hb d_Writing_startAnew_57 ?_
        refine va_put (D := E.1) (ci := 8) (v := .int (iI (-1))) (ty := .int) (C := "ReplacementWriter$Writing") (T := F_Writing) (N := 10) hx hb S.2.2.2.2 i_Writing t_Writing t_Writing_ok n_Writing S.2.2.2.1 hE.1 hP hD hS 0 rfl rfl 9 (by decide) (S.2.2.2.2 _ zw_207) (fun _ h9 => h9) rfl (by decide +kernel) rfl rfl (Nat.le_of_ble_eq_true rfl) d_Writing_startAnew_58 (fun H locs hP hD hS => ?_)
        have hP : va_P E.1 zcl [(w, .inr (8, [.ref tx, .ref gr, .ref h, .ref en, .ref es, .int (iI (bN true)), .int (iI (bN false)), .int (iI (bN false)), .int (iI 0), .int (iI (-1))]))] H := hP
        have hD : va_D A [(w, .inr (8, [.ref tx, .ref gr, .ref h, .ref en, .ref es, .int (iI (bN true)), .int (iI (bN false)), .int (iI (bN false)), .int (iI 0), .int (iI (-1))]))] := hD
        have hE := hE0.at hS hA0
        exact zwv S hr hlk hS (⟨rfl, by rw [show decide (ov % 2 = 1) = true from decide_eq_true (by omega), show decide (ov / 2 % 2 = 1) = false from decide_eq_false (by omega), show decide (ov / 4 % 2 = 1) = false from decide_eq_false (by omega)]; exact hP, by rw [show decide (ov % 2 = 1) = true from decide_eq_true (by omega), show decide (ov / 2 % 2 = 1) = false from decide_eq_false (by omega), show decide (ov / 4 % 2 = 1) = false from decide_eq_false (by omega)]; exact hD⟩) (by (try dsimp only); omega) (by (try dsimp only); omega) d_Writing_startAnew_61
      · refine zi_iconst hx hb d_Writing_startAnew_43 ?_
        refine lv_goto hx hb d_Writing_startAnew_44 rfl ?_
        refine va_put (D := E.1) (ci := 8) (v := .int (iI (bN true))) (ty := .boolean) (C := "ReplacementWriter$Writing") (T := F_Writing) (N := 10) hx hb S.2.2.2.2 i_Writing t_Writing t_Writing_ok n_Writing S.2.2.2.1 hE.1 hP hD hS 0 rfl rfl 7 (by decide) (S.2.2.2.2 _ zw_205) (fun _ h9 => h9) rfl (by decide +kernel) (bN_nar _) (bN_fit _) (Nat.le_of_ble_eq_true rfl) d_Writing_startAnew_48 (fun H locs hP hD hS => ?_)
        have hP : va_P E.1 zcl [(w, .inr (8, [.ref tx, .ref gr, .ref h, .ref en, .ref es, .int (iI (bN true)), .int (iI (bN false)), .int (iI (bN true)), .int (iI cd), .int (iI of)]))] H := hP
        have hD : va_D A [(w, .inr (8, [.ref tx, .ref gr, .ref h, .ref en, .ref es, .int (iI (bN true)), .int (iI (bN false)), .int (iI (bN true)), .int (iI cd), .int (iI of)]))] := hD
        have hE := hE0.at hS hA0
        refine lv_aload_n hx hb d_Writing_startAnew_51 rfl (lv_at hl 0 rfl) ?_
        refine zi_iconst hx hb d_Writing_startAnew_52 ?_
        refine va_put (D := E.1) (ci := 8) (v := .int (iI 0)) (ty := .int) (C := "ReplacementWriter$Writing") (T := F_Writing) (N := 10) hx hb S.2.2.2.2 i_Writing t_Writing t_Writing_ok n_Writing S.2.2.2.1 hE.1 hP hD hS 0 rfl rfl 8 (by decide) (S.2.2.2.2 _ zw_206) (fun _ h9 => h9) rfl (by decide +kernel) rfl rfl (Nat.le_of_ble_eq_true rfl) d_Writing_startAnew_53 (fun H locs hP hD hS => ?_)
        have hP : va_P E.1 zcl [(w, .inr (8, [.ref tx, .ref gr, .ref h, .ref en, .ref es, .int (iI (bN true)), .int (iI (bN false)), .int (iI (bN true)), .int (iI 0), .int (iI of)]))] H := hP
        have hD : va_D A [(w, .inr (8, [.ref tx, .ref gr, .ref h, .ref en, .ref es, .int (iI (bN true)), .int (iI (bN false)), .int (iI (bN true)), .int (iI 0), .int (iI of)]))] := hD
        have hE := hE0.at hS hA0
        refine lv_aload_n hx hb d_Writing_startAnew_56 rfl (lv_at hl 0 rfl) ?_
        refine zi_iconst hx hb d_Writing_startAnew_57 ?_
        refine va_put (D := E.1) (ci := 8) (v := .int (iI (-1))) (ty := .int) (C := "ReplacementWriter$Writing") (T := F_Writing) (N := 10) hx hb S.2.2.2.2 i_Writing t_Writing t_Writing_ok n_Writing S.2.2.2.1 hE.1 hP hD hS 0 rfl rfl 9 (by decide) (S.2.2.2.2 _ zw_207) (fun _ h9 => h9) rfl (by decide +kernel) rfl rfl (Nat.le_of_ble_eq_true rfl) d_Writing_startAnew_58 (fun H locs hP hD hS => ?_)
        have hP : va_P E.1 zcl [(w, .inr (8, [.ref tx, .ref gr, .ref h, .ref en, .ref es, .int (iI (bN true)), .int (iI (bN false)), .int (iI (bN true)), .int (iI 0), .int (iI (-1))]))] H := hP
        have hD : va_D A [(w, .inr (8, [.ref tx, .ref gr, .ref h, .ref en, .ref es, .int (iI (bN true)), .int (iI (bN false)), .int (iI (bN true)), .int (iI 0), .int (iI (-1))]))] := hD
        have hE := hE0.at hS hA0
        exact zwv S hr hlk hS (⟨rfl, by rw [show decide (ov % 2 = 1) = true from decide_eq_true (by omega), show decide (ov / 2 % 2 = 1) = false from decide_eq_false (by omega), show decide (ov / 4 % 2 = 1) = true from decide_eq_true (by omega)]; exact hP, by rw [show decide (ov % 2 = 1) = true from decide_eq_true (by omega), show decide (ov / 2 % 2 = 1) = false from decide_eq_false (by omega), show decide (ov / 4 % 2 = 1) = true from decide_eq_true (by omega)]; exact hD⟩) (by (try dsimp only); omega) (by (try dsimp only); omega) d_Writing_startAnew_61
    · refine zi_iconst hx hb d_Writing_startAnew_26 ?_
      refine lv_goto hx hb d_Writing_startAnew_27 rfl ?_
      refine va_put (D := E.1) (ci := 8) (v := .int (iI (bN true))) (ty := .boolean) (C := "ReplacementWriter$Writing") (T := F_Writing) (N := 10) hx hb S.2.2.2.2 i_Writing t_Writing t_Writing_ok n_Writing S.2.2.2.1 hE.1 hP hD hS 0 rfl rfl 6 (by decide) (S.2.2.2.2 _ zw_204) (fun _ h9 => h9) rfl (by decide +kernel) (bN_nar _) (bN_fit _) (Nat.le_of_ble_eq_true rfl) d_Writing_startAnew_31 (fun H locs hP hD hS => ?_)
      have hP : va_P E.1 zcl [(w, .inr (8, [.ref tx, .ref gr, .ref h, .ref en, .ref es, .int (iI (bN true)), .int (iI (bN true)), .int (iI (bN uunk)), .int (iI cd), .int (iI of)]))] H := hP
      have hD : va_D A [(w, .inr (8, [.ref tx, .ref gr, .ref h, .ref en, .ref es, .int (iI (bN true)), .int (iI (bN true)), .int (iI (bN uunk)), .int (iI cd), .int (iI of)]))] := hD
      have hE := hE0.at hS hA0
      refine lv_aload_n hx hb d_Writing_startAnew_34 rfl (lv_at hl 0 rfl) ?_
      refine lv_iload_n hx hb d_Writing_startAnew_35 rfl (lv_at hl 1 rfl) ?_
      refine zi_sipush hx hb d_Writing_startAnew_36 (by decide) ?_
      refine zi_iand hx hb d_Writing_startAnew_39 (sp_opt3 hov) ?_
      refine zi_if_eq hx hb d_Writing_startAnew_40 rfl (by omega) (fun h40 => ?_) (fun h40 => ?_)
      · refine zi_iconst hx hb d_Writing_startAnew_47 ?_
        refine va_put (D := E.1) (ci := 8) (v := .int (iI (bN false))) (ty := .boolean) (C := "ReplacementWriter$Writing") (T := F_Writing) (N := 10) hx hb S.2.2.2.2 i_Writing t_Writing t_Writing_ok n_Writing S.2.2.2.1 hE.1 hP hD hS 0 rfl rfl 7 (by decide) (S.2.2.2.2 _ zw_205) (fun _ h9 => h9) rfl (by decide +kernel) (bN_nar _) (bN_fit _) (Nat.le_of_ble_eq_true rfl) d_Writing_startAnew_48 (fun H locs hP hD hS => ?_)
        have hP : va_P E.1 zcl [(w, .inr (8, [.ref tx, .ref gr, .ref h, .ref en, .ref es, .int (iI (bN true)), .int (iI (bN true)), .int (iI (bN false)), .int (iI cd), .int (iI of)]))] H := hP
        have hD : va_D A [(w, .inr (8, [.ref tx, .ref gr, .ref h, .ref en, .ref es, .int (iI (bN true)), .int (iI (bN true)), .int (iI (bN false)), .int (iI cd), .int (iI of)]))] := hD
        have hE := hE0.at hS hA0
        refine lv_aload_n hx hb d_Writing_startAnew_51 rfl (lv_at hl 0 rfl) ?_
        refine zi_iconst hx hb d_Writing_startAnew_52 ?_
        refine va_put (D := E.1) (ci := 8) (v := .int (iI 0)) (ty := .int) (C := "ReplacementWriter$Writing") (T := F_Writing) (N := 10) hx hb S.2.2.2.2 i_Writing t_Writing t_Writing_ok n_Writing S.2.2.2.1 hE.1 hP hD hS 0 rfl rfl 8 (by decide) (S.2.2.2.2 _ zw_206) (fun _ h9 => h9) rfl (by decide +kernel) rfl rfl (Nat.le_of_ble_eq_true rfl) d_Writing_startAnew_53 (fun H locs hP hD hS => ?_)
        have hP : va_P E.1 zcl [(w, .inr (8, [.ref tx, .ref gr, .ref h, .ref en, .ref es, .int (iI (bN true)), .int (iI (bN true)), .int (iI (bN false)), .int (iI 0), .int (iI of)]))] H := hP
        have hD : va_D A [(w, .inr (8, [.ref tx, .ref gr, .ref h, .ref en, .ref es, .int (iI (bN true)), .int (iI (bN true)), .int (iI (bN false)), .int (iI 0), .int (iI of)]))] := hD
        have hE := hE0.at hS hA0
        refine lv_aload_n hx hb d_Writing_startAnew_56 rfl (lv_at hl 0 rfl) ?_
        refine zi_iconst hx hb d_Writing_startAnew_57 ?_
        refine va_put (D := E.1) (ci := 8) (v := .int (iI (-1))) (ty := .int) (C := "ReplacementWriter$Writing") (T := F_Writing) (N := 10) hx hb S.2.2.2.2 i_Writing t_Writing t_Writing_ok n_Writing S.2.2.2.1 hE.1 hP hD hS 0 rfl rfl 9 (by decide) (S.2.2.2.2 _ zw_207) (fun _ h9 => h9) rfl (by decide +kernel) rfl rfl (Nat.le_of_ble_eq_true rfl) d_Writing_startAnew_58 (fun H locs hP hD hS => ?_)
        have hP : va_P E.1 zcl [(w, .inr (8, [.ref tx, .ref gr, .ref h, .ref en, .ref es, .int (iI (bN true)), .int (iI (bN true)), .int (iI (bN false)), .int (iI 0), .int (iI (-1))]))] H := hP
        have hD : va_D A [(w, .inr (8, [.ref tx, .ref gr, .ref h, .ref en, .ref es, .int (iI (bN true)), .int (iI (bN true)), .int (iI (bN false)), .int (iI 0), .int (iI (-1))]))] := hD
        have hE := hE0.at hS hA0
        exact zwv S hr hlk hS (⟨rfl, by rw [show decide (ov % 2 = 1) = true from decide_eq_true (by omega), show decide (ov / 2 % 2 = 1) = true from decide_eq_true (by omega), show decide (ov / 4 % 2 = 1) = false from decide_eq_false (by omega)]; exact hP, by rw [show decide (ov % 2 = 1) = true from decide_eq_true (by omega), show decide (ov / 2 % 2 = 1) = true from decide_eq_true (by omega), show decide (ov / 4 % 2 = 1) = false from decide_eq_false (by omega)]; exact hD⟩) (by (try dsimp only); omega) (by (try dsimp only); omega) d_Writing_startAnew_61
      · refine zi_iconst hx hb d_Writing_startAnew_43 ?_
        refine lv_goto hx hb d_Writing_startAnew_44 rfl ?_
        refine va_put (D := E.1) (ci := 8) (v := .int (iI (bN true))) (ty := .boolean) (C := "ReplacementWriter$Writing") (T := F_Writing) (N := 10) hx hb S.2.2.2.2 i_Writing t_Writing t_Writing_ok n_Writing S.2.2.2.1 hE.1 hP hD hS 0 rfl rfl 7 (by decide) (S.2.2.2.2 _ zw_205) (fun _ h9 => h9) rfl (by decide +kernel) (bN_nar _) (bN_fit _) (Nat.le_of_ble_eq_true rfl) d_Writing_startAnew_48 (fun H locs hP hD hS => ?_)
        have hP : va_P E.1 zcl [(w, .inr (8, [.ref tx, .ref gr, .ref h, .ref en, .ref es, .int (iI (bN true)), .int (iI (bN true)), .int (iI (bN true)), .int (iI cd), .int (iI of)]))] H := hP
        have hD : va_D A [(w, .inr (8, [.ref tx, .ref gr, .ref h, .ref en, .ref es, .int (iI (bN true)), .int (iI (bN true)), .int (iI (bN true)), .int (iI cd), .int (iI of)]))] := hD
        have hE := hE0.at hS hA0
        refine lv_aload_n hx hb d_Writing_startAnew_51 rfl (lv_at hl 0 rfl) ?_
        refine zi_iconst hx hb d_Writing_startAnew_52 ?_
        refine va_put (D := E.1) (ci := 8) (v := .int (iI 0)) (ty := .int) (C := "ReplacementWriter$Writing") (T := F_Writing) (N := 10) hx hb S.2.2.2.2 i_Writing t_Writing t_Writing_ok n_Writing S.2.2.2.1 hE.1 hP hD hS 0 rfl rfl 8 (by decide) (S.2.2.2.2 _ zw_206) (fun _ h9 => h9) rfl (by decide +kernel) rfl rfl (Nat.le_of_ble_eq_true rfl) d_Writing_startAnew_53 (fun H locs hP hD hS => ?_)
        have hP : va_P E.1 zcl [(w, .inr (8, [.ref tx, .ref gr, .ref h, .ref en, .ref es, .int (iI (bN true)), .int (iI (bN true)), .int (iI (bN true)), .int (iI 0), .int (iI of)]))] H := hP
        have hD : va_D A [(w, .inr (8, [.ref tx, .ref gr, .ref h, .ref en, .ref es, .int (iI (bN true)), .int (iI (bN true)), .int (iI (bN true)), .int (iI 0), .int (iI of)]))] := hD
        have hE := hE0.at hS hA0
        refine lv_aload_n hx hb d_Writing_startAnew_56 rfl (lv_at hl 0 rfl) ?_
        refine zi_iconst hx hb d_Writing_startAnew_57 ?_
        refine va_put (D := E.1) (ci := 8) (v := .int (iI (-1))) (ty := .int) (C := "ReplacementWriter$Writing") (T := F_Writing) (N := 10) hx hb S.2.2.2.2 i_Writing t_Writing t_Writing_ok n_Writing S.2.2.2.1 hE.1 hP hD hS 0 rfl rfl 9 (by decide) (S.2.2.2.2 _ zw_207) (fun _ h9 => h9) rfl (by decide +kernel) rfl rfl (Nat.le_of_ble_eq_true rfl) d_Writing_startAnew_58 (fun H locs hP hD hS => ?_)
        have hP : va_P E.1 zcl [(w, .inr (8, [.ref tx, .ref gr, .ref h, .ref en, .ref es, .int (iI (bN true)), .int (iI (bN true)), .int (iI (bN true)), .int (iI 0), .int (iI (-1))]))] H := hP
        have hD : va_D A [(w, .inr (8, [.ref tx, .ref gr, .ref h, .ref en, .ref es, .int (iI (bN true)), .int (iI (bN true)), .int (iI (bN true)), .int (iI 0), .int (iI (-1))]))] := hD
        have hE := hE0.at hS hA0
        exact zwv S hr hlk hS (⟨rfl, by rw [show decide (ov % 2 = 1) = true from decide_eq_true (by omega), show decide (ov / 2 % 2 = 1) = true from decide_eq_true (by omega), show decide (ov / 4 % 2 = 1) = true from decide_eq_true (by omega)]; exact hP, by rw [show decide (ov % 2 = 1) = true from decide_eq_true (by omega), show decide (ov / 2 % 2 = 1) = true from decide_eq_true (by omega), show decide (ov / 4 % 2 = 1) = true from decide_eq_true (by omega)]; exact hD⟩) (by (try dsimp only); omega) (by (try dsimp only); omega) d_Writing_startAnew_61
