set_option maxRecDepth 100000 in
set_option maxHeartbeats 4000000 in
theorem c_AbstractCollection_init (l : Launch) (E : zP) (sz : Nat) (a : Nat) : Met l y_AbstractCollection_init (.code y_AbstractCollection_init b_AbstractCollection_init 1 ( Option.none : Option FieldType ) :: zw) { frames := 1, cells := (0), slots := (0), locals := 20 } (zPc E [.ref a] (fun H => H.size = sz ∧ va_P E.1 zcl [(a, .inr (9, [.null, .int (iI 0), .int (iI 0)]))] H ∧ va_D (zOld E) [(a, .inr (9, [.null, .int (iI 0), .int (iI 0)]))] ∧ (True))) (zW (fun v H => v = none ∧ va_P E.1 zcl [(a, .inr (9, [.null, .int (iI 0), .int (iI 0)]))] H ∧ va_D (va_A [(a, .inr (9, [.null, .int (iI 0), .int (iI 0)]))] sz) [(a, .inr (9, [.null, .int (iI 0), .int (iI 0)]))]) (va_A [(a, .inr (9, [.null, .int (iI 0), .int (iI 0)]))] sz)) (0) (0) (va_A [(a, .inr (9, [.null, .int (iI 0), .int (iI 0)]))] sz) := by
  refine zMetF (by decide +kernel) (Nat.le_of_ble_eq_true rfl) ?_
  intro p e s m below meth c ls S hr hlk hnm hE ⟨hsz, hP, hDo, hX⟩ hl
  have hx := S.1
  have hb := S.2.1
  have hE0 := hE
  have hl : lv_has ls 1 [(0, .ref a)] := hl
  subst hsz
  have hD := hDo.self (sz := s.heap.size)
  generalize hAe : va_A [(a, .inr (9, [.null, .int (iI 0), .int (iI 0)]))] s.heap.size = A at hD ⊢
  have hA : ∀ q : Nat, s.heap.size ≤ q → A q := fun q h => by rw [← hAe]; exact Or.inr h
  have hA0 := zA0 hE hDo hAe
  have hS : va_S A s.heap s.heap [] := va_S.rf
  refine lv_aload_n hx hb d_AbstractCollection_init_0 rfl (lv_at hl 0 rfl) ?_
  refine W.objInit hx hb S.2.2.2.1 (S.2.2.2.2 _ zw_84) (S.2.2.2.2 _ zw_45) (S.2.2.2.2 _ zw_46) rfl (hl.1.trans S.2.2.1.symm) rfl d_AbstractCollection_init_1 (Nat.le_of_ble_eq_true rfl) (Nat.le_of_ble_eq_true rfl) ?_
  exact zwv S hr hlk hS (⟨rfl, hP, hD⟩) (by (try dsimp only); omega) (by (try dsimp only); omega) d_AbstractCollection_init_4

set_option maxRecDepth 100000 in
set_option maxHeartbeats 4000000 in
theorem c_AbstractList_init (l : Launch) (E : zP) (sz : Nat) (a : Nat) : Met l y_AbstractList_init (.code y_AbstractList_init b_AbstractList_init 1 ( Option.none : Option FieldType ) :: zw) { frames := 2, cells := (0), slots := (0), locals := 40 } (zPc E [.ref a] (fun H => H.size = sz ∧ va_P E.1 zcl [(a, .inr (9, [.null, .int (iI 0), .int (iI 0)]))] H ∧ va_D (zOld E) [(a, .inr (9, [.null, .int (iI 0), .int (iI 0)]))] ∧ (True))) (zW (fun v H => v = none ∧ va_P E.1 zcl [(a, .inr (9, [.null, .int (iI 0), .int (iI 0)]))] H ∧ va_D (va_A [(a, .inr (9, [.null, .int (iI 0), .int (iI 0)]))] sz) [(a, .inr (9, [.null, .int (iI 0), .int (iI 0)]))]) (va_A [(a, .inr (9, [.null, .int (iI 0), .int (iI 0)]))] sz)) (0) (0) (va_A [(a, .inr (9, [.null, .int (iI 0), .int (iI 0)]))] sz) := by
  refine zMetF (by decide +kernel) (Nat.le_of_ble_eq_true rfl) ?_
  intro p e s m below meth c ls S hr hlk hnm hE ⟨hsz, hP, hDo, hX⟩ hl
  have hx := S.1
  have hb := S.2.1
  have hE0 := hE
  have hl : lv_has ls 1 [(0, .ref a)] := hl
  subst hsz
  have hD := hDo.self (sz := s.heap.size)
  generalize hAe : va_A [(a, .inr (9, [.null, .int (iI 0), .int (iI 0)]))] s.heap.size = A at hD ⊢
  have hA : ∀ q : Nat, s.heap.size ≤ q → A q := fun q h => by rw [← hAe]; exact Or.inr h
  have hA0 := zA0 hE hDo hAe
  have hS : va_S A s.heap s.heap [] := va_S.rf
  refine lv_aload_n hx hb d_AbstractList_init_0 rfl (lv_at hl 0 rfl) ?_
  have hPc := hP.sub (ws' := [(a, .inr (9, [.null, .int (iI 0), .int (iI 0)]))]) [0] rfl
  have hDc := hD.sub (ws' := [(a, .inr (9, [.null, .int (iI 0), .int (iI 0)]))]) [0] (by decide) rfl
  have hFc := va_free (wc := [(a, .inr (9, [.null, .int (iI 0), .int (iI 0)]))]) hD hS hA [0] rfl
  refine zcW (va_runI (As := []) (rest := []) S (c_AbstractCollection_init l E _ a) ⟨zcwB (n := 0) S zw_83 zw_4 zw_81 (by decide +kernel) rfl rfl ⟨Nat.le_of_ble_eq_true rfl, Nat.le_of_ble_eq_true rfl⟩, rfl, S.2.2.2.2 _ zw_82⟩ (zPreS hE ⟨rfl, hPc, hDc.weaken (fun _ _ _ h => hA0 _ h), trivial⟩) rfl rfl hl.1 rfl (lv_room (Nat.le_of_ble_eq_true rfl)) d_AbstractList_init_1 ⟨by (try dsimp only); omega, by (try dsimp only); omega⟩) hS (fun q _ h => hFc q h) hFc (fun v H locs hq hz1 hk1 hS => ?_)
  obtain ⟨rfl, hP1, hD1⟩ := hq
  obtain ⟨hP, hD⟩ := va_join (wr := []) (w1 := [(a, .inr (9, [.null, .int (iI 0), .int (iI 0)]))]) hP hD [0] [] rfl rfl (by decide) (by decide) hk1 hFc hP1 hD1
  have hP : va_P E.1 zcl [(a, .inr (9, [.null, .int (iI 0), .int (iI 0)]))] H := hP
  have hD : va_D A [(a, .inr (9, [.null, .int (iI 0), .int (iI 0)]))] := hD
  have hE := hE0.at hS hA0
  refine lv_aload_n hx hb d_AbstractList_init_4 rfl (lv_at hl 0 rfl) ?_
  refine zi_iconst hx hb d_AbstractList_init_5 ?_
  refine va_put (D := E.1) (ci := 9) (v := .int (iI 0)) (ty := .int) (C := "java/util/ArrayList") (T := F_ArrayList) (N := 3) hx hb S.2.2.2.2 i_ArrayList t_ArrayList t_ArrayList_ok n_ArrayList S.2.2.2.1 hE.1 hP hD hS 0 rfl rfl 2 (by decide) (S.2.2.2.2 _ zw_89) (fun _ h9 => h9) rfl (by decide +kernel) rfl rfl (Nat.le_of_ble_eq_true rfl) d_AbstractList_init_6 (fun H locs hP hD hS => ?_)
  have hP : va_P E.1 zcl [(a, .inr (9, [.null, .int (iI 0), .int (iI 0)]))] H := hP
  have hD : va_D A [(a, .inr (9, [.null, .int (iI 0), .int (iI 0)]))] := hD
  have hE := hE0.at hS hA0
  exact zwv S hr hlk hS (⟨rfl, hP, hD⟩) (by (try dsimp only); omega) (by (try dsimp only); omega) d_AbstractList_init_9

set_option maxRecDepth 100000 in
set_option maxHeartbeats 4000000 in
theorem c_ArrayList_init (l : Launch) (E : zP) (sz : Nat) (a : Nat) : Met l y_ArrayList_init (.code y_ArrayList_init b_ArrayList_init 1 ( Option.none : Option FieldType ) :: zw) { frames := 3, cells := (0), slots := (0), locals := 60 } (zPc E [.ref a] (fun H => H.size = sz ∧ va_P E.1 zcl [(a, .inr (9, [.null, .int (iI 0), .int (iI 0)]))] H ∧ va_D (zOld E) [(a, .inr (9, [.null, .int (iI 0), .int (iI 0)]))] ∧ (True))) (zW (fun v H => v = none ∧ va_P E.1 zcl [(a, .inr (9, [.ref (E.2.2.1 4), .int (iI 0), .int (iI 0)]))] H ∧ va_D (va_A [(a, .inr (9, [.null, .int (iI 0), .int (iI 0)]))] sz) [(a, .inr (9, [.ref (E.2.2.1 4), .int (iI 0), .int (iI 0)]))]) (va_A [(a, .inr (9, [.null, .int (iI 0), .int (iI 0)]))] sz)) (0) (0) (va_A [(a, .inr (9, [.null, .int (iI 0), .int (iI 0)]))] sz) := by
  refine zMetF (by decide +kernel) (Nat.le_of_ble_eq_true rfl) ?_
  intro p e s m below meth c ls S hr hlk hnm hE ⟨hsz, hP, hDo, hX⟩ hl
  have hx := S.1
  have hb := S.2.1
  have hE0 := hE
  have hl : lv_has ls 1 [(0, .ref a)] := hl
  subst hsz
  have hD := hDo.self (sz := s.heap.size)
  generalize hAe : va_A [(a, .inr (9, [.null, .int (iI 0), .int (iI 0)]))] s.heap.size = A at hD ⊢
  have hA : ∀ q : Nat, s.heap.size ≤ q → A q := fun q h => by rw [← hAe]; exact Or.inr h
  have hA0 := zA0 hE hDo hAe
  have hS : va_S A s.heap s.heap [] := va_S.rf
  refine lv_aload_n hx hb d_ArrayList_init_0 rfl (lv_at hl 0 rfl) ?_
  have hPc := hP.sub (ws' := [(a, .inr (9, [.null, .int (iI 0), .int (iI 0)]))]) [0] rfl
  have hDc := hD.sub (ws' := [(a, .inr (9, [.null, .int (iI 0), .int (iI 0)]))]) [0] (by decide) rfl
  have hFc := va_free (wc := [(a, .inr (9, [.null, .int (iI 0), .int (iI 0)]))]) hD hS hA [0] rfl
  refine zcW (va_runI (As := []) (rest := []) S (c_AbstractList_init l E _ a) ⟨zcwB (n := 0) S zw_80 zw_5 zw_78 (by decide +kernel) rfl rfl ⟨Nat.le_of_ble_eq_true rfl, Nat.le_of_ble_eq_true rfl⟩, rfl, S.2.2.2.2 _ zw_79⟩ (zPreS hE ⟨rfl, hPc, hDc.weaken (fun _ _ _ h => hA0 _ h), trivial⟩) rfl rfl hl.1 rfl (lv_room (Nat.le_of_ble_eq_true rfl)) d_ArrayList_init_1 ⟨by (try dsimp only); omega, by (try dsimp only); omega⟩) hS (fun q _ h => hFc q h) hFc (fun v H locs hq hz1 hk1 hS => ?_)
  obtain ⟨rfl, hP1, hD1⟩ := hq
  obtain ⟨hP, hD⟩ := va_join (wr := []) (w1 := [(a, .inr (9, [.null, .int (iI 0), .int (iI 0)]))]) hP hD [0] [] rfl rfl (by decide) (by decide) hk1 hFc hP1 hD1
  have hP : va_P E.1 zcl [(a, .inr (9, [.null, .int (iI 0), .int (iI 0)]))] H := hP
  have hD : va_D A [(a, .inr (9, [.null, .int (iI 0), .int (iI 0)]))] := hD
  have hE := hE0.at hS hA0
  refine lv_aload_n hx hb d_ArrayList_init_4 rfl (lv_at hl 0 rfl) ?_
  refine zgs S hE.elist zw_85 d_ArrayList_init_5 ?_
  refine va_put (D := E.1) (ci := 9) (v := .ref (E.2.2.1 4)) (ty := .array (.object "java/lang/Object")) (C := "java/util/ArrayList") (T := F_ArrayList) (N := 3) hx hb S.2.2.2.2 i_ArrayList t_ArrayList t_ArrayList_ok n_ArrayList S.2.2.2.1 hE.1 hP hD hS 0 rfl rfl 0 (by decide) (S.2.2.2.2 _ zw_87) (fun _ h9 => h9) rfl (by decide +kernel) rfl rfl (Nat.le_of_ble_eq_true rfl) d_ArrayList_init_8 (fun H locs hP hD hS => ?_)
  have hP : va_P E.1 zcl [(a, .inr (9, [.ref (E.2.2.1 4), .int (iI 0), .int (iI 0)]))] H := hP
  have hD : va_D A [(a, .inr (9, [.ref (E.2.2.1 4), .int (iI 0), .int (iI 0)]))] := hD
  have hE := hE0.at hS hA0
  exact zwv S hr hlk hS (⟨rfl, hP, hD⟩) (by (try dsimp only); omega) (by (try dsimp only); omega) d_ArrayList_init_11

set_option maxRecDepth 100000 in
set_option maxHeartbeats 4000000 in
theorem c_Output_init (l : Launch) (E : zP) (sz : Nat) (h en ca : Nat) : Met l y_Output_init (.code y_Output_init b_Output_init 3 ( Option.none : Option FieldType ) :: zw) { frames := 2, cells := (2), slots := (19), locals := 41 } (zPc E [.ref h, .ref en, .ref ca] (fun H => H.size = sz ∧ va_P E.1 zcl [(h, .inr (6, [.null, .null, .null, .null, .null, .int (iI (bN false))]))] H ∧ va_D (zOld E) [(h, .inr (6, [.null, .null, .null, .null, .null, .int (iI (bN false))]))] ∧ (True))) (zW (fun v H => v = none ∧ ∃ rb q, va_P E.1 zcl [(h, .inr (6, [.ref en, .ref ca, .ref rb, .ref (E.2.2.1 1), .ref (E.2.2.1 1), .int (iI (bN false))])), (rb, .inr (1, [.int (iI 262144), .ref q, .int (iI 0)])), (q, .inl (E.2.1 0, 16, .inl (fun _ => 0)))] H ∧ va_D (va_A [(h, .inr (6, [.null, .null, .null, .null, .null, .int (iI (bN false))]))] sz) [(h, .inr (6, [.ref en, .ref ca, .ref rb, .ref (E.2.2.1 1), .ref (E.2.2.1 1), .int (iI (bN false))])), (rb, .inr (1, [.int (iI 262144), .ref q, .int (iI 0)])), (q, .inl (E.2.1 0, 16, .inl (fun _ => 0)))]) (va_A [(h, .inr (6, [.null, .null, .null, .null, .null, .int (iI (bN false))]))] sz)) (2) (19) (va_A [(h, .inr (6, [.null, .null, .null, .null, .null, .int (iI (bN false))]))] sz) := by
  refine zMet (by decide) (Nat.le_of_ble_eq_true rfl) ?_
  intro p e s m below meth c ls S hr hlk hnm hE ⟨hsz, hP, hDo, hX⟩ hl
  have hx := S.1
  have hb := S.2.1
  have hE0 := hE
  have hl : lv_has ls 3 [(0, .ref h), (1, .ref en), (2, .ref ca)] := hl
  subst hsz
  have hD := hDo.self (sz := s.heap.size)
  generalize hAe : va_A [(h, .inr (6, [.null, .null, .null, .null, .null, .int (iI (bN false))]))] s.heap.size = A at hD ⊢
  have hA : ∀ q : Nat, s.heap.size ≤ q → A q := fun q h => by rw [← hAe]; exact Or.inr h
  have hA0 := zA0 hE hDo hAe
  have hS : va_S A s.heap s.heap [] := va_S.rf
  refine lv_aload_n hx hb d_Output_init_0 rfl (lv_at hl 0 rfl) ?_
  refine W.objInit hx hb S.2.2.2.1 (S.2.2.2.2 _ zw_148) (S.2.2.2.2 _ zw_45) (S.2.2.2.2 _ zw_46) rfl (hl.1.trans S.2.2.1.symm) rfl d_Output_init_1 (Nat.le_of_ble_eq_true rfl) (Nat.le_of_ble_eq_true rfl) ?_
  refine lv_aload_n hx hb d_Output_init_4 rfl (lv_at hl 0 rfl) ?_
  refine va_new (D := E.1) (ci := 1) (C := "ReplacementWriter$Row") (T := F_Row) (N := 3) (fs := [.int (iI 0), .null, .int (iI 0)]) hx hb S.2.2.2.2 i_Row t_Row t_Row_ok S.2.2.2.1 (S.2.2.2.2 _ zw_149) (S.2.2.2.2 _ zw_48) (S.2.2.2.2 _ zw_2) hE.1 hP hD hS hA rfl v_Row (by (try dsimp only); omega) (by (try dsimp only); omega) d_Output_init_5 (fun rb H hP hD hS => ?_)
  have hP : va_P E.1 zcl [(h, .inr (6, [.null, .null, .null, .null, .null, .int (iI (bN false))])), (rb, .inr (1, [.int (iI 0), .null, .int (iI 0)]))] H := hP
  have hD : va_D A [(h, .inr (6, [.null, .null, .null, .null, .null, .int (iI (bN false))])), (rb, .inr (1, [.int (iI 0), .null, .int (iI 0)]))] := hD
  have hE := hE0.at hS hA0
  refine lv_dup hx hb d_Output_init_8 rfl ?_
  refine zldc (n := 262144) S zw_150 (by decide) d_Output_init_9 ?_
  have hPc := hP.sub (ws' := [(rb, .inr (1, [.int (iI 0), .null, .int (iI 0)]))]) [1] rfl
  have hDc := hD.sub (ws' := [(rb, .inr (1, [.int (iI 0), .null, .int (iI 0)]))]) [1] (by decide) rfl
  have hFc := va_free (wc := [(rb, .inr (1, [.int (iI 0), .null, .int (iI 0)]))]) hD hS hA [1] rfl
  refine zcW (va_runI (As := [.int (iI 262144)]) (rest := [.ref rb, .ref h]) S (c_Row_init l E _ rb 262144) ⟨zcwB (n := 1) S zw_52 zw_2 zw_151 (by decide +kernel) rfl rfl ⟨Nat.le_of_ble_eq_true rfl, Nat.le_of_ble_eq_true rfl⟩, rfl, S.2.2.2.2 _ zw_51⟩ (zPreS hE ⟨rfl, hPc, hDc.weaken (fun _ _ _ h => hA0 _ h), trivial⟩) rfl rfl hl.1 rfl (lv_room (Nat.le_of_ble_eq_true rfl)) d_Output_init_11 ⟨by (try dsimp only); omega, by (try dsimp only); omega⟩) hS (fun q _ h => hFc q h) hFc (fun v H locs hq hz1 hk1 hS => ?_)
  obtain ⟨rfl, q, hP1, hD1⟩ := hq
  obtain ⟨hP, hD⟩ := va_join (wr := [(h, .inr (6, [.null, .null, .null, .null, .null, .int (iI (bN false))]))]) (w1 := [(rb, .inr (1, [.int (iI 262144), .ref q, .int (iI 0)])), (q, .inl (E.2.1 0, 16, .inl (fun _ => 0)))]) hP hD [1] [0] rfl rfl (by decide) (by decide) hk1 hFc hP1 hD1
  have hP : va_P E.1 zcl [(h, .inr (6, [.null, .null, .null, .null, .null, .int (iI (bN false))])), (rb, .inr (1, [.int (iI 262144), .ref q, .int (iI 0)])), (q, .inl (E.2.1 0, 16, .inl (fun _ => 0)))] H := hP
  have hD : va_D A [(h, .inr (6, [.null, .null, .null, .null, .null, .int (iI (bN false))])), (rb, .inr (1, [.int (iI 262144), .ref q, .int (iI 0)])), (q, .inl (E.2.1 0, 16, .inl (fun _ => 0)))] := hD
  have hE := hE0.at hS hA0
  refine va_putF (D := E.1) (ci := 6) (v := .ref rb) (ty := .object "ReplacementWriter$Row") (C := "ReplacementWriter$Output") (T := F_Output) (N := 6) hx hb S.2.2.2.2 i_Output t_Output t_Output_ok n_Output S.2.2.2.1 hE.1 hP hD hS 0 rfl rfl 2 (by decide) (S.2.2.2.2 _ zw_156) (fun _ h9 => h9) rfl hnm rfl (by decide +kernel) rfl rfl (Nat.le_of_ble_eq_true rfl) d_Output_init_14 (fun H locs hP hD hS => ?_)
  have hP : va_P E.1 zcl [(h, .inr (6, [.null, .null, .ref rb, .null, .null, .int (iI (bN false))])), (rb, .inr (1, [.int (iI 262144), .ref q, .int (iI 0)])), (q, .inl (E.2.1 0, 16, .inl (fun _ => 0)))] H := hP
  have hD : va_D A [(h, .inr (6, [.null, .null, .ref rb, .null, .null, .int (iI (bN false))])), (rb, .inr (1, [.int (iI 262144), .ref q, .int (iI 0)])), (q, .inl (E.2.1 0, 16, .inl (fun _ => 0)))] := hD
  have hE := hE0.at hS hA0
  refine lv_aload_n hx hb d_Output_init_17 rfl (lv_at hl 0 rfl) ?_
  refine zgs S hE.asis zw_152 d_Output_init_18 ?_
  refine va_put (D := E.1) (ci := 6) (v := .ref (E.2.2.1 1)) (ty := .object "ReplacementWriter$Turn") (C := "ReplacementWriter$Output") (T := F_Output) (N := 6) hx hb S.2.2.2.2 i_Output t_Output t_Output_ok n_Output S.2.2.2.1 hE.1 hP hD hS 0 rfl rfl 3 (by decide) (S.2.2.2.2 _ zw_157) (fun _ h9 => h9) rfl (by decide +kernel) rfl rfl (Nat.le_of_ble_eq_true rfl) d_Output_init_21 (fun H locs hP hD hS => ?_)
  have hP : va_P E.1 zcl [(h, .inr (6, [.null, .null, .ref rb, .ref (E.2.2.1 1), .null, .int (iI (bN false))])), (rb, .inr (1, [.int (iI 262144), .ref q, .int (iI 0)])), (q, .inl (E.2.1 0, 16, .inl (fun _ => 0)))] H := hP
  have hD : va_D A [(h, .inr (6, [.null, .null, .ref rb, .ref (E.2.2.1 1), .null, .int (iI (bN false))])), (rb, .inr (1, [.int (iI 262144), .ref q, .int (iI 0)])), (q, .inl (E.2.1 0, 16, .inl (fun _ => 0)))] := hD
  have hE := hE0.at hS hA0
  refine lv_aload_n hx hb d_Output_init_24 rfl (lv_at hl 0 rfl) ?_
  refine zgs S hE.asis zw_152 d_Output_init_25 ?_
  refine va_put (D := E.1) (ci := 6) (v := .ref (E.2.2.1 1)) (ty := .object "ReplacementWriter$Turn") (C := "ReplacementWriter$Output") (T := F_Output) (N := 6) hx hb S.2.2.2.2 i_Output t_Output t_Output_ok n_Output S.2.2.2.1 hE.1 hP hD hS 0 rfl rfl 4 (by decide) (S.2.2.2.2 _ zw_158) (fun _ h9 => h9) rfl (by decide +kernel) rfl rfl (Nat.le_of_ble_eq_true rfl) d_Output_init_28 (fun H locs hP hD hS => ?_)
  have hP : va_P E.1 zcl [(h, .inr (6, [.null, .null, .ref rb, .ref (E.2.2.1 1), .ref (E.2.2.1 1), .int (iI (bN false))])), (rb, .inr (1, [.int (iI 262144), .ref q, .int (iI 0)])), (q, .inl (E.2.1 0, 16, .inl (fun _ => 0)))] H := hP
  have hD : va_D A [(h, .inr (6, [.null, .null, .ref rb, .ref (E.2.2.1 1), .ref (E.2.2.1 1), .int (iI (bN false))])), (rb, .inr (1, [.int (iI 262144), .ref q, .int (iI 0)])), (q, .inl (E.2.1 0, 16, .inl (fun _ => 0)))] := hD
  have hE := hE0.at hS hA0
  refine lv_aload_n hx hb d_Output_init_31 rfl (lv_at hl 0 rfl) ?_
  refine zi_iconst hx hb d_Output_init_32 ?_
  refine va_put (D := E.1) (ci := 6) (v := .int (iI (bN false))) (ty := .boolean) (C := "ReplacementWriter$Output") (T := F_Output) (N := 6) hx hb S.2.2.2.2 i_Output t_Output t_Output_ok n_Output S.2.2.2.1 hE.1 hP hD hS 0 rfl rfl 5 (by decide) (S.2.2.2.2 _ zw_159) (fun _ h9 => h9) rfl (by decide +kernel) (bN_nar _) (bN_fit _) (Nat.le_of_ble_eq_true rfl) d_Output_init_33 (fun H locs hP hD hS => ?_)
  have hP : va_P E.1 zcl [(h, .inr (6, [.null, .null, .ref rb, .ref (E.2.2.1 1), .ref (E.2.2.1 1), .int (iI (bN false))])), (rb, .inr (1, [.int (iI 262144), .ref q, .int (iI 0)])), (q, .inl (E.2.1 0, 16, .inl (fun _ => 0)))] H := hP
  have hD : va_D A [(h, .inr (6, [.null, .null, .ref rb, .ref (E.2.2.1 1), .ref (E.2.2.1 1), .int (iI (bN false))])), (rb, .inr (1, [.int (iI 262144), .ref q, .int (iI 0)])), (q, .inl (E.2.1 0, 16, .inl (fun _ => 0)))] := hD
  have hE := hE0.at hS hA0
  refine lv_aload_n hx hb d_Output_init_36 rfl (lv_at hl 0 rfl) ?_
  refine lv_aload_n hx hb d_Output_init_37 rfl (lv_at hl 1 rfl) ?_
  refine va_putF (D := E.1) (ci := 6) (v := .ref en) (ty := .object "ReplacementWriter$Encoding") (C := "ReplacementWriter$Output") (T := F_Output) (N := 6) hx hb S.2.2.2.2 i_Output t_Output t_Output_ok n_Output S.2.2.2.1 hE.1 hP hD hS 0 rfl rfl 0 (by decide) (S.2.2.2.2 _ zw_154) (fun _ h9 => h9) rfl hnm rfl (by decide +kernel) rfl rfl (Nat.le_of_ble_eq_true rfl) d_Output_init_38 (fun H locs hP hD hS => ?_)
  have hP : va_P E.1 zcl [(h, .inr (6, [.ref en, .null, .ref rb, .ref (E.2.2.1 1), .ref (E.2.2.1 1), .int (iI (bN false))])), (rb, .inr (1, [.int (iI 262144), .ref q, .int (iI 0)])), (q, .inl (E.2.1 0, 16, .inl (fun _ => 0)))] H := hP
  have hD : va_D A [(h, .inr (6, [.ref en, .null, .ref rb, .ref (E.2.2.1 1), .ref (E.2.2.1 1), .int (iI (bN false))])), (rb, .inr (1, [.int (iI 262144), .ref q, .int (iI 0)])), (q, .inl (E.2.1 0, 16, .inl (fun _ => 0)))] := hD
  have hE := hE0.at hS hA0
  refine lv_aload_n hx hb d_Output_init_41 rfl (lv_at hl 0 rfl) ?_
  refine lv_aload_n hx hb d_Output_init_42 rfl (lv_at hl 2 rfl) ?_
  refine va_putF (D := E.1) (ci := 6) (v := .ref ca) (ty := .object "ReplacementWriter$Cases") (C := "ReplacementWriter$Output") (T := F_Output) (N := 6) hx hb S.2.2.2.2 i_Output t_Output t_Output_ok n_Output S.2.2.2.1 hE.1 hP hD hS 0 rfl rfl 1 (by decide) (S.2.2.2.2 _ zw_155) (fun _ h9 => h9) rfl hnm rfl (by decide +kernel) rfl rfl (Nat.le_of_ble_eq_true rfl) d_Output_init_43 (fun H locs hP hD hS => ?_)
  have hP : va_P E.1 zcl [(h, .inr (6, [.ref en, .ref ca, .ref rb, .ref (E.2.2.1 1), .ref (E.2.2.1 1), .int (iI (bN false))])), (rb, .inr (1, [.int (iI 262144), .ref q, .int (iI 0)])), (q, .inl (E.2.1 0, 16, .inl (fun _ => 0)))] H := hP
  have hD : va_D A [(h, .inr (6, [.ref en, .ref ca, .ref rb, .ref (E.2.2.1 1), .ref (E.2.2.1 1), .int (iI (bN false))])), (rb, .inr (1, [.int (iI 262144), .ref q, .int (iI 0)])), (q, .inl (E.2.1 0, 16, .inl (fun _ => 0)))] := hD
  have hE := hE0.at hS hA0
  exact zwv S hr hlk hS (⟨rfl, rb, q, hP.sub (ws' := [(h, .inr (6, [.ref en, .ref ca, .ref rb, .ref (E.2.2.1 1), .ref (E.2.2.1 1), .int (iI (bN false))])), (rb, .inr (1, [.int (iI 262144), .ref q, .int (iI 0)])), (q, .inl (E.2.1 0, 16, .inl (fun _ => 0)))]) [0, 1, 2] rfl, hD.sub (ws' := [(h, .inr (6, [.ref en, .ref ca, .ref rb, .ref (E.2.2.1 1), .ref (E.2.2.1 1), .int (iI (bN false))])), (rb, .inr (1, [.int (iI 262144), .ref q, .int (iI 0)])), (q, .inl (E.2.1 0, 16, .inl (fun _ => 0)))]) [0, 1, 2] (by decide) rfl⟩) (by (try dsimp only); omega) (by (try dsimp only); omega) d_Output_init_46

set_option maxRecDepth 100000 in
set_option maxHeartbeats 4000000 in
theorem c_Writing_init (l : Launch) (E : zP) (sz : Nat) (w tx gr h en : Nat) : Met l y_Writing_init (.code y_Writing_init b_Writing_init 5 ( Option.none : Option FieldType ) :: zw) { frames := 2, cells := (1), slots := (4), locals := 42 } (zPc E [.ref w, .ref tx, .ref gr, .ref h, .ref en] (fun H => H.size = sz ∧ va_P E.1 zcl [(w, .inr (8, [.null, .null, .null, .null, .null, .int (iI (bN false)), .int (iI (bN false)), .int (iI (bN false)), .int (iI 0), .int (iI 0)]))] H ∧ va_D (zOld E) [(w, .inr (8, [.null, .null, .null, .null, .null, .int (iI (bN false)), .int (iI (bN false)), .int (iI (bN false)), .int (iI 0), .int (iI 0)]))] ∧ (True))) (zW (fun v H => v = none ∧ ∃ es, va_P E.1 zcl [(w, .inr (8, [.ref tx, .ref gr, .ref h, .ref en, .ref es, .int (iI (bN false)), .int (iI (bN false)), .int (iI (bN false)), .int (iI 0), .int (iI (-1))])), (es, .inr (7, [.ref tx, .ref en, .int (iI 0), .int (iI 0)]))] H ∧ va_D (va_A [(w, .inr (8, [.null, .null, .null, .null, .null, .int (iI (bN false)), .int (iI (bN false)), .int (iI (bN false)), .int (iI 0), .int (iI 0)]))] sz) [(w, .inr (8, [.ref tx, .ref gr, .ref h, .ref en, .ref es, .int (iI (bN false)), .int (iI (bN false)), .int (iI (bN false)), .int (iI 0), .int (iI (-1))])), (es, .inr (7, [.ref tx, .ref en, .int (iI 0), .int (iI 0)]))]) (va_A [(w, .inr (8, [.null, .null, .null, .null, .null, .int (iI (bN false)), .int (iI (bN false)), .int (iI (bN false)), .int (iI 0), .int (iI 0)]))] sz)) (1) (4) (va_A [(w, .inr (8, [.null, .null, .null, .null, .null, .int (iI (bN false)), .int (iI (bN false)), .int (iI (bN false)), .int (iI 0), .int (iI 0)]))] sz) := by
  refine zMet (by decide) (Nat.le_of_ble_eq_true rfl) ?_
  intro p e s m below meth c ls S hr hlk hnm hE ⟨hsz, hP, hDo, hX⟩ hl
  have hx := S.1
  have hb := S.2.1
  have hE0 := hE
  have hl : lv_has ls 5 [(0, .ref w), (1, .ref tx), (2, .ref gr), (3, .ref h), (4, .ref en)] := hl
  subst hsz
  have hD := hDo.self (sz := s.heap.size)
  generalize hAe : va_A [(w, .inr (8, [.null, .null, .null, .null, .null, .int (iI (bN false)), .int (iI (bN false)), .int (iI (bN false)), .int (iI 0), .int (iI 0)]))] s.heap.size = A at hD ⊢
  have hA : ∀ q : Nat, s.heap.size ≤ q → A q := fun q h => by rw [← hAe]; exact Or.inr h
  have hA0 := zA0 hE hDo hAe
  have hS : va_S A s.heap s.heap [] := va_S.rf
  refine lv_aload_n hx hb d_Writing_init_0 rfl (lv_at hl 0 rfl) ?_
  refine W.objInit hx hb S.2.2.2.1 (S.2.2.2.2 _ zw_178) (S.2.2.2.2 _ zw_45) (S.2.2.2.2 _ zw_46) rfl (hl.1.trans S.2.2.1.symm) rfl d_Writing_init_1 (Nat.le_of_ble_eq_true rfl) (Nat.le_of_ble_eq_true rfl) ?_
  refine lv_aload_n hx hb d_Writing_init_4 rfl (lv_at hl 0 rfl) ?_
  refine zi_iconst hx hb d_Writing_init_5 ?_
  refine va_put (D := E.1) (ci := 8) (v := .int (iI (bN false))) (ty := .boolean) (C := "ReplacementWriter$Writing") (T := F_Writing) (N := 10) hx hb S.2.2.2.2 i_Writing t_Writing t_Writing_ok n_Writing S.2.2.2.1 hE.1 hP hD hS 0 rfl rfl 5 (by decide) (S.2.2.2.2 _ zw_203) (fun _ h9 => h9) rfl (by decide +kernel) (bN_nar _) (bN_fit _) (Nat.le_of_ble_eq_true rfl) d_Writing_init_6 (fun H locs hP hD hS => ?_)
  have hP : va_P E.1 zcl [(w, .inr (8, [.null, .null, .null, .null, .null, .int (iI (bN false)), .int (iI (bN false)), .int (iI (bN false)), .int (iI 0), .int (iI 0)]))] H := hP
  have hD : va_D A [(w, .inr (8, [.null, .null, .null, .null, .null, .int (iI (bN false)), .int (iI (bN false)), .int (iI (bN false)), .int (iI 0), .int (iI 0)]))] := hD
  have hE := hE0.at hS hA0
  refine lv_aload_n hx hb d_Writing_init_9 rfl (lv_at hl 0 rfl) ?_
  refine zi_iconst hx hb d_Writing_init_10 ?_
  refine va_put (D := E.1) (ci := 8) (v := .int (iI (bN false))) (ty := .boolean) (C := "ReplacementWriter$Writing") (T := F_Writing) (N := 10) hx hb S.2.2.2.2 i_Writing t_Writing t_Writing_ok n_Writing S.2.2.2.1 hE.1 hP hD hS 0 rfl rfl 6 (by decide) (S.2.2.2.2 _ zw_204) (fun _ h9 => h9) rfl (by decide +kernel) (bN_nar _) (bN_fit _) (Nat.le_of_ble_eq_true rfl) d_Writing_init_11 (fun H locs hP hD hS => ?_)
  have hP : va_P E.1 zcl [(w, .inr (8, [.null, .null, .null, .null, .null, .int (iI (bN false)), .int (iI (bN false)), .int (iI (bN false)), .int (iI 0), .int (iI 0)]))] H := hP
  have hD : va_D A [(w, .inr (8, [.null, .null, .null, .null, .null, .int (iI (bN false)), .int (iI (bN false)), .int (iI (bN false)), .int (iI 0), .int (iI 0)]))] := hD
  have hE := hE0.at hS hA0
  refine lv_aload_n hx hb d_Writing_init_14 rfl (lv_at hl 0 rfl) ?_
  refine zi_iconst hx hb d_Writing_init_15 ?_
  refine va_put (D := E.1) (ci := 8) (v := .int (iI (bN false))) (ty := .boolean) (C := "ReplacementWriter$Writing") (T := F_Writing) (N := 10) hx hb S.2.2.2.2 i_Writing t_Writing t_Writing_ok n_Writing S.2.2.2.1 hE.1 hP hD hS 0 rfl rfl 7 (by decide) (S.2.2.2.2 _ zw_205) (fun _ h9 => h9) rfl (by decide +kernel) (bN_nar _) (bN_fit _) (Nat.le_of_ble_eq_true rfl) d_Writing_init_16 (fun H locs hP hD hS => ?_)
  have hP : va_P E.1 zcl [(w, .inr (8, [.null, .null, .null, .null, .null, .int (iI (bN false)), .int (iI (bN false)), .int (iI (bN false)), .int (iI 0), .int (iI 0)]))] H := hP
  have hD : va_D A [(w, .inr (8, [.null, .null, .null, .null, .null, .int (iI (bN false)), .int (iI (bN false)), .int (iI (bN false)), .int (iI 0), .int (iI 0)]))] := hD
  have hE := hE0.at hS hA0
  refine lv_aload_n hx hb d_Writing_init_19 rfl (lv_at hl 0 rfl) ?_
  refine zi_iconst hx hb d_Writing_init_20 ?_
  refine va_put (D := E.1) (ci := 8) (v := .int (iI 0)) (ty := .int) (C := "ReplacementWriter$Writing") (T := F_Writing) (N := 10) hx hb S.2.2.2.2 i_Writing t_Writing t_Writing_ok n_Writing S.2.2.2.1 hE.1 hP hD hS 0 rfl rfl 8 (by decide) (S.2.2.2.2 _ zw_206) (fun _ h9 => h9) rfl (by decide +kernel) rfl rfl (Nat.le_of_ble_eq_true rfl) d_Writing_init_21 (fun H locs hP hD hS => ?_)
  have hP : va_P E.1 zcl [(w, .inr (8, [.null, .null, .null, .null, .null, .int (iI (bN false)), .int (iI (bN false)), .int (iI (bN false)), .int (iI 0), .int (iI 0)]))] H := hP
  have hD : va_D A [(w, .inr (8, [.null, .null, .null, .null, .null, .int (iI (bN false)), .int (iI (bN false)), .int (iI (bN false)), .int (iI 0), .int (iI 0)]))] := hD
  have hE := hE0.at hS hA0
  refine lv_aload_n hx hb d_Writing_init_24 rfl (lv_at hl 0 rfl) ?_
  refine zi_iconst hx hb d_Writing_init_25 ?_
  refine va_put (D := E.1) (ci := 8) (v := .int (iI (-1))) (ty := .int) (C := "ReplacementWriter$Writing") (T := F_Writing) (N := 10) hx hb S.2.2.2.2 i_Writing t_Writing t_Writing_ok n_Writing S.2.2.2.1 hE.1 hP hD hS 0 rfl rfl 9 (by decide) (S.2.2.2.2 _ zw_207) (fun _ h9 => h9) rfl (by decide +kernel) rfl rfl (Nat.le_of_ble_eq_true rfl) d_Writing_init_26 (fun H locs hP hD hS => ?_)
  have hP : va_P E.1 zcl [(w, .inr (8, [.null, .null, .null, .null, .null, .int (iI (bN false)), .int (iI (bN false)), .int (iI (bN false)), .int (iI 0), .int (iI (-1))]))] H := hP
  have hD : va_D A [(w, .inr (8, [.null, .null, .null, .null, .null, .int (iI (bN false)), .int (iI (bN false)), .int (iI (bN false)), .int (iI 0), .int (iI (-1))]))] := hD
  have hE := hE0.at hS hA0
  refine lv_aload_n hx hb d_Writing_init_29 rfl (lv_at hl 0 rfl) ?_
  refine lv_aload_n hx hb d_Writing_init_30 rfl (lv_at hl 1 rfl) ?_
  refine va_putF (D := E.1) (ci := 8) (v := .ref tx) (ty := .object "ReplacementWriter$Row") (C := "ReplacementWriter$Writing") (T := F_Writing) (N := 10) hx hb S.2.2.2.2 i_Writing t_Writing t_Writing_ok n_Writing S.2.2.2.1 hE.1 hP hD hS 0 rfl rfl 0 (by decide) (S.2.2.2.2 _ zw_198) (fun _ h9 => h9) rfl hnm rfl (by decide +kernel) rfl rfl (Nat.le_of_ble_eq_true rfl) d_Writing_init_31 (fun H locs hP hD hS => ?_)
  have hP : va_P E.1 zcl [(w, .inr (8, [.ref tx, .null, .null, .null, .null, .int (iI (bN false)), .int (iI (bN false)), .int (iI (bN false)), .int (iI 0), .int (iI (-1))]))] H := hP
  have hD : va_D A [(w, .inr (8, [.ref tx, .null, .null, .null, .null, .int (iI (bN false)), .int (iI (bN false)), .int (iI (bN false)), .int (iI 0), .int (iI (-1))]))] := hD
  have hE := hE0.at hS hA0
  refine lv_aload_n hx hb d_Writing_init_34 rfl (lv_at hl 0 rfl) ?_
  refine lv_aload_n hx hb d_Writing_init_35 rfl (lv_at hl 2 rfl) ?_
  refine va_putF (D := E.1) (ci := 8) (v := .ref gr) (ty := .object "ReplacementWriter$Groups") (C := "ReplacementWriter$Writing") (T := F_Writing) (N := 10) hx hb S.2.2.2.2 i_Writing t_Writing t_Writing_ok n_Writing S.2.2.2.1 hE.1 hP hD hS 0 rfl rfl 1 (by decide) (S.2.2.2.2 _ zw_199) (fun _ h9 => h9) rfl hnm rfl (by decide +kernel) rfl rfl (Nat.le_of_ble_eq_true rfl) d_Writing_init_36 (fun H locs hP hD hS => ?_)
  have hP : va_P E.1 zcl [(w, .inr (8, [.ref tx, .ref gr, .null, .null, .null, .int (iI (bN false)), .int (iI (bN false)), .int (iI (bN false)), .int (iI 0), .int (iI (-1))]))] H := hP
  have hD : va_D A [(w, .inr (8, [.ref tx, .ref gr, .null, .null, .null, .int (iI (bN false)), .int (iI (bN false)), .int (iI (bN false)), .int (iI 0), .int (iI (-1))]))] := hD
  have hE := hE0.at hS hA0
  refine lv_aload_n hx hb d_Writing_init_39 rfl (lv_at hl 0 rfl) ?_
  refine lv_aload_n hx hb d_Writing_init_40 rfl (lv_at hl 3 rfl) ?_
  refine va_putF (D := E.1) (ci := 8) (v := .ref h) (ty := .object "ReplacementWriter$Output") (C := "ReplacementWriter$Writing") (T := F_Writing) (N := 10) hx hb S.2.2.2.2 i_Writing t_Writing t_Writing_ok n_Writing S.2.2.2.1 hE.1 hP hD hS 0 rfl rfl 2 (by decide) (S.2.2.2.2 _ zw_200) (fun _ h9 => h9) rfl hnm rfl (by decide +kernel) rfl rfl (Nat.le_of_ble_eq_true rfl) d_Writing_init_41 (fun H locs hP hD hS => ?_)
  have hP : va_P E.1 zcl [(w, .inr (8, [.ref tx, .ref gr, .ref h, .null, .null, .int (iI (bN false)), .int (iI (bN false)), .int (iI (bN false)), .int (iI 0), .int (iI (-1))]))] H := hP
  have hD : va_D A [(w, .inr (8, [.ref tx, .ref gr, .ref h, .null, .null, .int (iI (bN false)), .int (iI (bN false)), .int (iI (bN false)), .int (iI 0), .int (iI (-1))]))] := hD
  have hE := hE0.at hS hA0
  refine lv_aload_n hx hb d_Writing_init_44 rfl (lv_at hl 0 rfl) ?_
  refine lv_aload hx hb d_Writing_init_45 (lv_at hl 4 rfl) ?_
  refine va_putF (D := E.1) (ci := 8) (v := .ref en) (ty := .object "ReplacementWriter$Encoding") (C := "ReplacementWriter$Writing") (T := F_Writing) (N := 10) hx hb S.2.2.2.2 i_Writing t_Writing t_Writing_ok n_Writing S.2.2.2.1 hE.1 hP hD hS 0 rfl rfl 3 (by decide) (S.2.2.2.2 _ zw_201) (fun _ h9 => h9) rfl hnm rfl (by decide +kernel) rfl rfl (Nat.le_of_ble_eq_true rfl) d_Writing_init_47 (fun H locs hP hD hS => ?_)
  have hP : va_P E.1 zcl [(w, .inr (8, [.ref tx, .ref gr, .ref h, .ref en, .null, .int (iI (bN false)), .int (iI (bN false)), .int (iI (bN false)), .int (iI 0), .int (iI (-1))]))] H := hP
  have hD : va_D A [(w, .inr (8, [.ref tx, .ref gr, .ref h, .ref en, .null, .int (iI (bN false)), .int (iI (bN false)), .int (iI (bN false)), .int (iI 0), .int (iI (-1))]))] := hD
  have hE := hE0.at hS hA0
  refine lv_aload_n hx hb d_Writing_init_50 rfl (lv_at hl 0 rfl) ?_
  refine va_new (D := E.1) (ci := 7) (C := "ReplacementWriter$Escape") (T := F_Escape) (N := 4) (fs := [.null, .null, .int (iI 0), .int (iI 0)]) hx hb S.2.2.2.2 i_Escape t_Escape t_Escape_ok S.2.2.2.1 (S.2.2.2.2 _ zw_179) (S.2.2.2.2 _ zw_180) (S.2.2.2.2 _ zw_13) hE.1 hP hD hS hA rfl v_Escape (by (try dsimp only); omega) (by (try dsimp only); omega) d_Writing_init_51 (fun es H hP hD hS => ?_)
  have hP : va_P E.1 zcl [(w, .inr (8, [.ref tx, .ref gr, .ref h, .ref en, .null, .int (iI (bN false)), .int (iI (bN false)), .int (iI (bN false)), .int (iI 0), .int (iI (-1))])), (es, .inr (7, [.null, .null, .int (iI 0), .int (iI 0)]))] H := hP
  have hD : va_D A [(w, .inr (8, [.ref tx, .ref gr, .ref h, .ref en, .null, .int (iI (bN false)), .int (iI (bN false)), .int (iI (bN false)), .int (iI 0), .int (iI (-1))])), (es, .inr (7, [.null, .null, .int (iI 0), .int (iI 0)]))] := hD
  have hE := hE0.at hS hA0
  refine lv_dup hx hb d_Writing_init_54 rfl ?_
  refine lv_aload_n hx hb d_Writing_init_55 rfl (lv_at hl 1 rfl) ?_
  refine lv_aload hx hb d_Writing_init_56 (lv_at hl 4 rfl) ?_
  have hPc := hP.sub (ws' := [(es, .inr (7, [.null, .null, .int (iI 0), .int (iI 0)]))]) [1] rfl
  have hDc := hD.sub (ws' := [(es, .inr (7, [.null, .null, .int (iI 0), .int (iI 0)]))]) [1] (by decide) rfl
  have hFc := va_free (wc := [(es, .inr (7, [.null, .null, .int (iI 0), .int (iI 0)]))]) hD hS hA [1] rfl
  refine zcW (va_runI (As := [.ref tx, .ref en]) (rest := [.ref es, .ref w]) S (c_Escape_init l E _ es tx en) ⟨zcwB (n := 2) S zw_183 zw_13 zw_181 (by decide +kernel) rfl rfl ⟨Nat.le_of_ble_eq_true rfl, Nat.le_of_ble_eq_true rfl⟩, rfl, S.2.2.2.2 _ zw_182⟩ (zPreS hE ⟨rfl, hPc, hDc.weaken (fun _ _ _ h => hA0 _ h), trivial⟩) rfl rfl hl.1 rfl (lv_room (Nat.le_of_ble_eq_true rfl)) d_Writing_init_58 ⟨by (try dsimp only); omega, by (try dsimp only); omega⟩) hS (fun q _ h => hFc q h) hFc (fun v H locs hq hz1 hk1 hS => ?_)
  obtain ⟨rfl, hP1, hD1⟩ := hq
  obtain ⟨hP, hD⟩ := va_join (wr := [(w, .inr (8, [.ref tx, .ref gr, .ref h, .ref en, .null, .int (iI (bN false)), .int (iI (bN false)), .int (iI (bN false)), .int (iI 0), .int (iI (-1))]))]) (w1 := [(es, .inr (7, [.ref tx, .ref en, .int (iI 0), .int (iI 0)]))]) hP hD [1] [0] rfl rfl (by decide) (by decide) hk1 hFc hP1 hD1
  have hP : va_P E.1 zcl [(w, .inr (8, [.ref tx, .ref gr, .ref h, .ref en, .null, .int (iI (bN false)), .int (iI (bN false)), .int (iI (bN false)), .int (iI 0), .int (iI (-1))])), (es, .inr (7, [.ref tx, .ref en, .int (iI 0), .int (iI 0)]))] H := hP
  have hD : va_D A [(w, .inr (8, [.ref tx, .ref gr, .ref h, .ref en, .null, .int (iI (bN false)), .int (iI (bN false)), .int (iI (bN false)), .int (iI 0), .int (iI (-1))])), (es, .inr (7, [.ref tx, .ref en, .int (iI 0), .int (iI 0)]))] := hD
  have hE := hE0.at hS hA0
  refine va_putF (D := E.1) (ci := 8) (v := .ref es) (ty := .object "ReplacementWriter$Escape") (C := "ReplacementWriter$Writing") (T := F_Writing) (N := 10) hx hb S.2.2.2.2 i_Writing t_Writing t_Writing_ok n_Writing S.2.2.2.1 hE.1 hP hD hS 0 rfl rfl 4 (by decide) (S.2.2.2.2 _ zw_202) (fun _ h9 => h9) rfl hnm rfl (by decide +kernel) rfl rfl (Nat.le_of_ble_eq_true rfl) d_Writing_init_61 (fun H locs hP hD hS => ?_)
  have hP : va_P E.1 zcl [(w, .inr (8, [.ref tx, .ref gr, .ref h, .ref en, .ref es, .int (iI (bN false)), .int (iI (bN false)), .int (iI (bN false)), .int (iI 0), .int (iI (-1))])), (es, .inr (7, [.ref tx, .ref en, .int (iI 0), .int (iI 0)]))] H := hP
  have hD : va_D A [(w, .inr (8, [.ref tx, .ref gr, .ref h, .ref en, .ref es, .int (iI (bN false)), .int (iI (bN false)), .int (iI (bN false)), .int (iI 0), .int (iI (-1))])), (es, .inr (7, [.ref tx, .ref en, .int (iI 0), .int (iI 0)]))] := hD
  have hE := hE0.at hS hA0
  exact zwv S hr hlk hS (⟨rfl, es, hP.sub (ws' := [(w, .inr (8, [.ref tx, .ref gr, .ref h, .ref en, .ref es, .int (iI (bN false)), .int (iI (bN false)), .int (iI (bN false)), .int (iI 0), .int (iI (-1))])), (es, .inr (7, [.ref tx, .ref en, .int (iI 0), .int (iI 0)]))]) [0, 1] rfl, hD.sub (ws' := [(w, .inr (8, [.ref tx, .ref gr, .ref h, .ref en, .ref es, .int (iI (bN false)), .int (iI (bN false)), .int (iI (bN false)), .int (iI 0), .int (iI (-1))])), (es, .inr (7, [.ref tx, .ref en, .int (iI 0), .int (iI 0)]))]) [0, 1] (by decide) rfl⟩) (by (try dsimp only); omega) (by (try dsimp only); omega) d_Writing_init_64

set_option maxRecDepth 100000 in
set_option maxHeartbeats 4000000 in
theorem c_Cases_init (l : Launch) (E : zP) (sz : Nat) (a : Nat) (u uc : Bool) : Met l y_Cases_init (.code y_Cases_init b_Cases_init 3 ( Option.none : Option FieldType ) :: zw) { frames := 1, cells := (0), slots := (0), locals := 20 } (zPc E [.ref a, .int (iI (bN u)), .int (iI (bN uc))] (fun H => H.size = sz ∧ va_P E.1 zcl [(a, .inr (3, [.int (iI 0)]))] H ∧ va_D (zOld E) [(a, .inr (3, [.int (iI 0)]))] ∧ (True))) (zW (fun v H => v = none ∧ va_P E.1 zcl [(a, .inr (3, [.int (iI ((5 * sp_many u uc : Nat) : Int))]))] H ∧ va_D (va_A [(a, .inr (3, [.int (iI 0)]))] sz) [(a, .inr (3, [.int (iI ((5 * sp_many u uc : Nat) : Int))]))]) (va_A [(a, .inr (3, [.int (iI 0)]))] sz)) (0) (0) (va_A [(a, .inr (3, [.int (iI 0)]))] sz) := by
  refine zMet (by decide) (Nat.le_of_ble_eq_true rfl) ?_
  intro p e s m below meth c ls S hr hlk hnm hE ⟨hsz, hP, hDo, hX⟩ hl
  have hx := S.1
  have hb := S.2.1
  have hE0 := hE
  have hl : lv_has ls 3 [(0, .ref a), (1, .int (iI (bN u))), (2, .int (iI (bN uc)))] := hl
  subst hsz
  have hD := hDo.self (sz := s.heap.size)
  generalize hAe : va_A [(a, .inr (3, [.int (iI 0)]))] s.heap.size = A at hD ⊢
  have hA : ∀ q : Nat, s.heap.size ≤ q → A q := fun q h => by rw [← hAe]; exact Or.inr h
  have hA0 := zA0 hE hDo hAe
  have hS : va_S A s.heap s.heap [] := va_S.rf
  refine lv_aload_n hx hb d_Cases_init_0 rfl (lv_at hl 0 rfl) ?_
  refine W.objInit hx hb S.2.2.2.1 (S.2.2.2.2 _ zw_138) (S.2.2.2.2 _ zw_45) (S.2.2.2.2 _ zw_46) rfl (hl.1.trans S.2.2.1.symm) rfl d_Cases_init_1 (Nat.le_of_ble_eq_true rfl) (Nat.le_of_ble_eq_true rfl) ?_
  refine lv_aload_n hx hb d_Cases_init_4 rfl (lv_at hl 0 rfl) ?_
  refine lv_iload_n hx hb d_Cases_init_5 rfl (lv_at hl 1 rfl) ?_
  refine zb_ifeq hx hb d_Cases_init_6 rfl (fun h6 => ?_) (fun h6 => ?_)
  · refine lv_iload_n hx hb d_Cases_init_16 rfl (lv_at hl 2 rfl) ?_
    refine zb_ifeq hx hb d_Cases_init_17 rfl (fun h17 => ?_) (fun h17 => ?_)
    · refine zi_iconst hx hb d_Cases_init_25 ?_
      refine va_putF (D := E.1) (ci := 3) (v := .int (iI 5)) (ty := .int) (C := "ReplacementWriter$Cases") (T := F_Cases) (N := 1) hx hb S.2.2.2.2 i_Cases t_Cases t_Cases_ok n_Cases S.2.2.2.1 hE.1 hP hD hS 0 rfl rfl 0 (by decide) (S.2.2.2.2 _ zw_141) (fun _ h9 => h9) rfl hnm rfl (by decide +kernel) rfl rfl (Nat.le_of_ble_eq_true rfl) d_Cases_init_26 (fun H locs hP hD hS => ?_)
      have hP : va_P E.1 zcl [(a, .inr (3, [.int (iI 5)]))] H := hP
      have hD : va_D A [(a, .inr (3, [.int (iI 5)]))] := hD
      have hE := hE0.at hS hA0
      have e9 : ((5 * sp_many u uc : Nat) : Int) = 5 := by simp [sp_many, h6, h17]
      exact zwv S hr hlk hS (⟨rfl, by rw [e9]; exact hP, by rw [e9]; exact hD⟩) (by (try dsimp only); omega) (by (try dsimp only); omega) d_Cases_init_29
    · refine zi_bipush hx hb d_Cases_init_20 (by decide) ?_
      refine lv_goto hx hb d_Cases_init_22 rfl ?_
      refine va_putF (D := E.1) (ci := 3) (v := .int (iI 15)) (ty := .int) (C := "ReplacementWriter$Cases") (T := F_Cases) (N := 1) hx hb S.2.2.2.2 i_Cases t_Cases t_Cases_ok n_Cases S.2.2.2.1 hE.1 hP hD hS 0 rfl rfl 0 (by decide) (S.2.2.2.2 _ zw_141) (fun _ h9 => h9) rfl hnm rfl (by decide +kernel) rfl rfl (Nat.le_of_ble_eq_true rfl) d_Cases_init_26 (fun H locs hP hD hS => ?_)
      have hP : va_P E.1 zcl [(a, .inr (3, [.int (iI 15)]))] H := hP
      have hD : va_D A [(a, .inr (3, [.int (iI 15)]))] := hD
      have hE := hE0.at hS hA0
      have e9 : ((5 * sp_many u uc : Nat) : Int) = 15 := by simp [sp_many, h6, h17]
      exact zwv S hr hlk hS (⟨rfl, by rw [e9]; exact hP, by rw [e9]; exact hD⟩) (by (try dsimp only); omega) (by (try dsimp only); omega) d_Cases_init_29
  · refine zgs S hE.pairs zw_139 d_Cases_init_9 ?_
    refine va_tlen (v := iI 90) hx hb hE0.pairsT ⟨hS.1, fun q h1 h2 => hS.2.1 q h1 (fun z => h2 (hA0 q z)), fun l hl => hA0 _ (hS.2.2 l hl)⟩ rfl d_Cases_init_12 ?_
    refine lv_goto hx hb d_Cases_init_13 rfl ?_
    refine va_putF (D := E.1) (ci := 3) (v := .int (iI 90)) (ty := .int) (C := "ReplacementWriter$Cases") (T := F_Cases) (N := 1) hx hb S.2.2.2.2 i_Cases t_Cases t_Cases_ok n_Cases S.2.2.2.1 hE.1 hP hD hS 0 rfl rfl 0 (by decide) (S.2.2.2.2 _ zw_141) (fun _ h9 => h9) rfl hnm rfl (by decide +kernel) rfl rfl (Nat.le_of_ble_eq_true rfl) d_Cases_init_26 (fun H locs hP hD hS => ?_)
    have hP : va_P E.1 zcl [(a, .inr (3, [.int (iI 90)]))] H := hP
    have hD : va_D A [(a, .inr (3, [.int (iI 90)]))] := hD
    have hE := hE0.at hS hA0
    have e9 : ((5 * sp_many u uc : Nat) : Int) = 90 := by simp [sp_many, h6]
    exact zwv S hr hlk hS (⟨rfl, by rw [e9]; exact hP, by rw [e9]; exact hD⟩) (by (try dsimp only); omega) (by (try dsimp only); omega) d_Cases_init_29
