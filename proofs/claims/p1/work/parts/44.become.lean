set_option maxRecDepth 100000 in
set_option maxHeartbeats 4000000 in
theorem c_Row_become (l : Launch) (E : zP) (sz : Nat) (a q cap ot q2 cap2 : Nat) (most most2 : Int) (f f2 : Nat → Int32) (b b2 : List Nat) (hB : zbytes b cap f) (hF : zfit cap f) (hB2 : zbytes b2 cap2 f2) (hF2 : zfit cap2 f2) (hl2 : b2.length ≤ 65536) : Met l y_Row_become (.code y_Row_become b_Row_become 2 ( Option.none : Option FieldType ) :: zw) { frames := 1, cells := (1), slots := (b2.length), locals := 39 } (zPc E [.ref a, .ref ot] (fun H => H.size = sz ∧ va_P E.1 zcl [(a, .inr (1, [.int (iI most), .ref q, .int (iI ((b.length : Nat) : Int))])), (q, .inl (E.2.1 0, cap, .inl f)), (ot, .inr (1, [.int (iI most2), .ref q2, .int (iI ((b2.length : Nat) : Int))])), (q2, .inl (E.2.1 0, cap2, .inl f2))] H ∧ va_D (zOld E) [(a, .inr (1, [.int (iI most), .ref q, .int (iI ((b.length : Nat) : Int))])), (q, .inl (E.2.1 0, cap, .inl f)), (ot, .inr (1, [.int (iI most2), .ref q2, .int (iI ((b2.length : Nat) : Int))])), (q2, .inl (E.2.1 0, cap2, .inl f2))] ∧ (True))) (zW (fun v H => v = none ∧ ∃ (q3 cap3 : Nat) (f3 : Nat → Int32), va_P E.1 zcl [(a, .inr (1, [.int (iI most), .ref q3, .int (iI ((b2.length : Nat) : Int))])), (q3, .inl (E.2.1 0, cap3, .inl f3)), (ot, .inr (1, [.int (iI most2), .ref q2, .int (iI ((b2.length : Nat) : Int))])), (q2, .inl (E.2.1 0, cap2, .inl f2))] H ∧ va_D (va_A [(a, .inr (1, [.int (iI most), .ref q, .int (iI ((b.length : Nat) : Int))])), (q, .inl (E.2.1 0, cap, .inl f)), (ot, .inr (1, [.int (iI most2), .ref q2, .int (iI ((b2.length : Nat) : Int))])), (q2, .inl (E.2.1 0, cap2, .inl f2))] sz) [(a, .inr (1, [.int (iI most), .ref q3, .int (iI ((b2.length : Nat) : Int))])), (q3, .inl (E.2.1 0, cap3, .inl f3)), (ot, .inr (1, [.int (iI most2), .ref q2, .int (iI ((b2.length : Nat) : Int))])), (q2, .inl (E.2.1 0, cap2, .inl f2))] ∧ zbytes b2 cap3 f3 ∧ zfit cap3 f3 ∧ cap3 = max cap b2.length) (va_A [(a, .inr (1, [.int (iI most), .ref q, .int (iI ((b.length : Nat) : Int))])), (q, .inl (E.2.1 0, cap, .inl f)), (ot, .inr (1, [.int (iI most2), .ref q2, .int (iI ((b2.length : Nat) : Int))])), (q2, .inl (E.2.1 0, cap2, .inl f2))] sz)) (1) (b2.length) (va_A [(a, .inr (1, [.int (iI most), .ref q, .int (iI ((b.length : Nat) : Int))])), (q, .inl (E.2.1 0, cap, .inl f)), (ot, .inr (1, [.int (iI most2), .ref q2, .int (iI ((b2.length : Nat) : Int))])), (q2, .inl (E.2.1 0, cap2, .inl f2))] sz) := by
  refine zMet (by decide) (Nat.le_of_ble_eq_true rfl) ?_
  intro p e s m below meth c ls S hr hlk hnm hE ⟨hsz, hP, hDo, hX⟩ hl
  have hx := S.1
  have hb := S.2.1
  have hE0 := hE
  have hl : lv_has ls 2 [(0, .ref a), (1, .ref ot)] := hl
  subst hsz
  have hD := hDo.self (sz := s.heap.size)
  generalize hAe : va_A [(a, .inr (1, [.int (iI most), .ref q, .int (iI ((b.length : Nat) : Int))])), (q, .inl (E.2.1 0, cap, .inl f)), (ot, .inr (1, [.int (iI most2), .ref q2, .int (iI ((b2.length : Nat) : Int))])), (q2, .inl (E.2.1 0, cap2, .inl f2))] s.heap.size = A at hD ⊢
  have hA : ∀ q : Nat, s.heap.size ≤ q → A q := fun q h => by rw [← hAe]; exact Or.inr h
  have hA0 := zA0 hE hDo hAe
  have hS : va_S A s.heap s.heap [] := va_S.rf
  have hBl := hB.1
  have hBc := hB.2.1
  have hBl2 := hB2.1
  have hBc2 := hB2.2.1
  refine lv_aload_n hx hb d_Row_become_0 rfl (lv_at hl 1 rfl) ?_
  refine zgf S hE (ci := 1) rfl i_Row (hP 2 _ rfl) 2 (by decide) zw_56 rfl d_Row_become_1 ?_
  refine lv_aload_n hx hb d_Row_become_4 rfl (lv_at hl 0 rfl) ?_
  refine zgf S hE (ci := 1) rfl i_Row (hP 0 _ rfl) 1 (by decide) zw_55 rfl d_Row_become_5 ?_
  refine zalen hx hb hE 0 (by decide) (hP 1 _ rfl) rfl d_Row_become_8 ?_
  refine zi_icmp_le hx hb d_Row_become_9 rfl (by omega) (by omega) (fun h9 => ?_) (fun h9 => ?_)
  · skip
    refine lv_aload_n hx hb d_Row_become_22 rfl (lv_at hl 1 rfl) ?_
    refine zgf S hE (ci := 1) rfl i_Row (hP 2 _ rfl) 1 (by decide) zw_55 rfl d_Row_become_23 ?_
    refine zi_iconst hx hb d_Row_become_26 ?_
    refine lv_aload_n hx hb d_Row_become_27 rfl (lv_at hl 0 rfl) ?_
    refine zgf S hE (ci := 1) rfl i_Row (hP 0 _ rfl) 1 (by decide) zw_55 rfl d_Row_become_28 ?_
    refine zi_iconst hx hb d_Row_become_31 ?_
    refine lv_aload_n hx hb d_Row_become_32 rfl (lv_at hl 1 rfl) ?_
    refine zgf S hE (ci := 1) rfl i_Row (hP 2 _ rfl) 2 (by decide) zw_56 rfl d_Row_become_33 ?_
    refine zcopy S zw_485 hE hP hD hS 3 1 0 rfl rfl rfl rfl rfl (by omega) (by omega) (by omega) (by omega) (by omega) (fun i hi => by rw [Int.toNat_zero, Nat.zero_add]; exact zbytes_fit hB2 i (by omega)) hl.1 (Nat.le_of_ble_eq_true rfl) (by (try dsimp only); decide) d_Row_become_36 (fun H locs hP hD hS => ?_)
    have hP : va_P E.1 zcl [(a, .inr (1, [.int (iI most), .ref q, .int (iI ((b.length : Nat) : Int))])), (q, .inl (E.2.1 0, cap, .inl (va_cpy f2 f (Int.toNat 0) (Int.toNat 0) (Int.toNat ((b2.length : Nat) : Int))))), (ot, .inr (1, [.int (iI most2), .ref q2, .int (iI ((b2.length : Nat) : Int))])), (q2, .inl (E.2.1 0, cap2, .inl f2))] H := hP
    have hD : va_D A [(a, .inr (1, [.int (iI most), .ref q, .int (iI ((b.length : Nat) : Int))])), (q, .inl (E.2.1 0, cap, .inl (va_cpy f2 f (Int.toNat 0) (Int.toNat 0) (Int.toNat ((b2.length : Nat) : Int))))), (ot, .inr (1, [.int (iI most2), .ref q2, .int (iI ((b2.length : Nat) : Int))])), (q2, .inl (E.2.1 0, cap2, .inl f2))] := hD
    have hE := hE0.at hS hA0
    refine lv_aload_n hx hb d_Row_become_39 rfl (lv_at hl 0 rfl) ?_
    refine lv_aload_n hx hb d_Row_become_40 rfl (lv_at hl 1 rfl) ?_
    refine zgf S hE (ci := 1) rfl i_Row (hP 2 _ rfl) 2 (by decide) zw_56 rfl d_Row_become_41 ?_
    refine va_put (D := E.1) (ci := 1) (v := .int (iI ((b2.length : Nat) : Int))) (ty := .int) (C := "ReplacementWriter$Row") (T := F_Row) (N := 3) hx hb S.2.2.2.2 i_Row t_Row t_Row_ok n_Row S.2.2.2.1 hE.1 hP hD hS 0 rfl rfl 2 (by decide) (S.2.2.2.2 _ zw_56) (fun _ h9 => h9) rfl (by decide +kernel) rfl rfl (Nat.le_of_ble_eq_true rfl) d_Row_become_44 (fun H locs hP hD hS => ?_)
    have hP : va_P E.1 zcl [(a, .inr (1, [.int (iI most), .ref q, .int (iI ((b2.length : Nat) : Int))])), (q, .inl (E.2.1 0, cap, .inl (va_cpy f2 f (Int.toNat 0) (Int.toNat 0) (Int.toNat ((b2.length : Nat) : Int))))), (ot, .inr (1, [.int (iI most2), .ref q2, .int (iI ((b2.length : Nat) : Int))])), (q2, .inl (E.2.1 0, cap2, .inl f2))] H := hP
    have hD : va_D A [(a, .inr (1, [.int (iI most), .ref q, .int (iI ((b2.length : Nat) : Int))])), (q, .inl (E.2.1 0, cap, .inl (va_cpy f2 f (Int.toNat 0) (Int.toNat 0) (Int.toNat ((b2.length : Nat) : Int))))), (ot, .inr (1, [.int (iI most2), .ref q2, .int (iI ((b2.length : Nat) : Int))])), (q2, .inl (E.2.1 0, cap2, .inl f2))] := hD
    have hE := hE0.at hS hA0
    exact zwv S hr hlk hS (⟨rfl, q, cap, _, hP.sub (ws' := [(a, .inr (1, [.int (iI most), .ref q, .int (iI ((b2.length : Nat) : Int))])), (q, .inl (E.2.1 0, cap, .inl (va_cpy f2 f (Int.toNat 0) (Int.toNat 0) (Int.toNat ((b2.length : Nat) : Int))))), (ot, .inr (1, [.int (iI most2), .ref q2, .int (iI ((b2.length : Nat) : Int))])), (q2, .inl (E.2.1 0, cap2, .inl f2))]) [0, 1, 2, 3] rfl, hD.sub (ws' := [(a, .inr (1, [.int (iI most), .ref q, .int (iI ((b2.length : Nat) : Int))])), (q, .inl (E.2.1 0, cap, .inl (va_cpy f2 f (Int.toNat 0) (Int.toNat 0) (Int.toNat ((b2.length : Nat) : Int))))), (ot, .inr (1, [.int (iI most2), .ref q2, .int (iI ((b2.length : Nat) : Int))])), (q2, .inl (E.2.1 0, cap2, .inl f2))]) [0, 1, 2, 3] (by decide) rfl, by rw [Int.toNat_zero, Int.toNat_natCast]; exact zbytes_copy hB2 (by omega) (by omega), by rw [Int.toNat_zero, Int.toNat_natCast]; exact zfit_copy hF2 hF hB2.1, by omega⟩) (by (try dsimp only); omega) (by (try dsimp only); omega) d_Row_become_47
  · skip
    refine lv_aload_n hx hb d_Row_become_12 rfl (lv_at hl 0 rfl) ?_
    refine lv_aload_n hx hb d_Row_become_13 rfl (lv_at hl 1 rfl) ?_
    refine zgf S hE (ci := 1) rfl i_Row (hP 2 _ rfl) 2 (by decide) zw_56 rfl d_Row_become_14 ?_
    refine znewa (atype := .byte) (k := 0) (N := b2.length) (a0 := (b2.length, .inl (fun _ => 0))) S hE zw_64 rfl (zfc0 hE) hP hD hS hA (fun _ => rfl) (by omega) (by omega) (by omega) (by show _ * 1 ≤ _; omega) (by (try dsimp only); omega) (by (try dsimp only); omega) d_Row_become_17 (fun q17 H hP hD hS => ?_)
    have hP : va_P E.1 zcl [(a, .inr (1, [.int (iI most), .ref q, .int (iI ((b.length : Nat) : Int))])), (q, .inl (E.2.1 0, cap, .inl f)), (ot, .inr (1, [.int (iI most2), .ref q2, .int (iI ((b2.length : Nat) : Int))])), (q2, .inl (E.2.1 0, cap2, .inl f2)), (q17, .inl (E.2.1 0, b2.length, .inl (fun _ => 0)))] H := hP
    have hD : va_D A [(a, .inr (1, [.int (iI most), .ref q, .int (iI ((b.length : Nat) : Int))])), (q, .inl (E.2.1 0, cap, .inl f)), (ot, .inr (1, [.int (iI most2), .ref q2, .int (iI ((b2.length : Nat) : Int))])), (q2, .inl (E.2.1 0, cap2, .inl f2)), (q17, .inl (E.2.1 0, b2.length, .inl (fun _ => 0)))] := hD
    have hE := hE0.at hS hA0
    refine va_put (D := E.1) (ci := 1) (v := .ref q17) (ty := .array .byte) (C := "ReplacementWriter$Row") (T := F_Row) (N := 3) hx hb S.2.2.2.2 i_Row t_Row t_Row_ok n_Row S.2.2.2.1 hE.1 hP hD hS 0 rfl rfl 1 (by decide) (S.2.2.2.2 _ zw_55) (fun _ h9 => h9) rfl (by decide +kernel) rfl rfl (Nat.le_of_ble_eq_true rfl) d_Row_become_19 (fun H locs hP hD hS => ?_)
    have hP : va_P E.1 zcl [(a, .inr (1, [.int (iI most), .ref q17, .int (iI ((b.length : Nat) : Int))])), (q, .inl (E.2.1 0, cap, .inl f)), (ot, .inr (1, [.int (iI most2), .ref q2, .int (iI ((b2.length : Nat) : Int))])), (q2, .inl (E.2.1 0, cap2, .inl f2)), (q17, .inl (E.2.1 0, b2.length, .inl (fun _ => 0)))] H := hP
    have hD : va_D A [(a, .inr (1, [.int (iI most), .ref q17, .int (iI ((b.length : Nat) : Int))])), (q, .inl (E.2.1 0, cap, .inl f)), (ot, .inr (1, [.int (iI most2), .ref q2, .int (iI ((b2.length : Nat) : Int))])), (q2, .inl (E.2.1 0, cap2, .inl f2)), (q17, .inl (E.2.1 0, b2.length, .inl (fun _ => 0)))] := hD
    have hE := hE0.at hS hA0
    refine lv_aload_n hx hb d_Row_become_22 rfl (lv_at hl 1 rfl) ?_
    refine zgf S hE (ci := 1) rfl i_Row (hP 2 _ rfl) 1 (by decide) zw_55 rfl d_Row_become_23 ?_
    refine zi_iconst hx hb d_Row_become_26 ?_
    refine lv_aload_n hx hb d_Row_become_27 rfl (lv_at hl 0 rfl) ?_
    refine zgf S hE (ci := 1) rfl i_Row (hP 0 _ rfl) 1 (by decide) zw_55 rfl d_Row_become_28 ?_
    refine zi_iconst hx hb d_Row_become_31 ?_
    refine lv_aload_n hx hb d_Row_become_32 rfl (lv_at hl 1 rfl) ?_
    refine zgf S hE (ci := 1) rfl i_Row (hP 2 _ rfl) 2 (by decide) zw_56 rfl d_Row_become_33 ?_
    refine zcopy S zw_485 hE hP hD hS 3 4 0 rfl rfl rfl rfl rfl (by omega) (by omega) (by omega) (by omega) (by omega) (fun i hi => by rw [Int.toNat_zero, Nat.zero_add]; exact zbytes_fit hB2 i (by omega)) hl.1 (Nat.le_of_ble_eq_true rfl) (by (try dsimp only); decide) d_Row_become_36 (fun H locs hP hD hS => ?_)
    have hP : va_P E.1 zcl [(a, .inr (1, [.int (iI most), .ref q17, .int (iI ((b.length : Nat) : Int))])), (q, .inl (E.2.1 0, cap, .inl f)), (ot, .inr (1, [.int (iI most2), .ref q2, .int (iI ((b2.length : Nat) : Int))])), (q2, .inl (E.2.1 0, cap2, .inl f2)), (q17, .inl (E.2.1 0, b2.length, .inl (va_cpy f2 (fun _ => 0) (Int.toNat 0) (Int.toNat 0) (Int.toNat ((b2.length : Nat) : Int)))))] H := hP
    have hD : va_D A [(a, .inr (1, [.int (iI most), .ref q17, .int (iI ((b.length : Nat) : Int))])), (q, .inl (E.2.1 0, cap, .inl f)), (ot, .inr (1, [.int (iI most2), .ref q2, .int (iI ((b2.length : Nat) : Int))])), (q2, .inl (E.2.1 0, cap2, .inl f2)), (q17, .inl (E.2.1 0, b2.length, .inl (va_cpy f2 (fun _ => 0) (Int.toNat 0) (Int.toNat 0) (Int.toNat ((b2.length : Nat) : Int)))))] := hD
    have hE := hE0.at hS hA0
    refine lv_aload_n hx hb d_Row_become_39 rfl (lv_at hl 0 rfl) ?_
    refine lv_aload_n hx hb d_Row_become_40 rfl (lv_at hl 1 rfl) ?_
    refine zgf S hE (ci := 1) rfl i_Row (hP 2 _ rfl) 2 (by decide) zw_56 rfl d_Row_become_41 ?_
    refine va_put (D := E.1) (ci := 1) (v := .int (iI ((b2.length : Nat) : Int))) (ty := .int) (C := "ReplacementWriter$Row") (T := F_Row) (N := 3) hx hb S.2.2.2.2 i_Row t_Row t_Row_ok n_Row S.2.2.2.1 hE.1 hP hD hS 0 rfl rfl 2 (by decide) (S.2.2.2.2 _ zw_56) (fun _ h9 => h9) rfl (by decide +kernel) rfl rfl (Nat.le_of_ble_eq_true rfl) d_Row_become_44 (fun H locs hP hD hS => ?_)
    have hP : va_P E.1 zcl [(a, .inr (1, [.int (iI most), .ref q17, .int (iI ((b2.length : Nat) : Int))])), (q, .inl (E.2.1 0, cap, .inl f)), (ot, .inr (1, [.int (iI most2), .ref q2, .int (iI ((b2.length : Nat) : Int))])), (q2, .inl (E.2.1 0, cap2, .inl f2)), (q17, .inl (E.2.1 0, b2.length, .inl (va_cpy f2 (fun _ => 0) (Int.toNat 0) (Int.toNat 0) (Int.toNat ((b2.length : Nat) : Int)))))] H := hP
    have hD : va_D A [(a, .inr (1, [.int (iI most), .ref q17, .int (iI ((b2.length : Nat) : Int))])), (q, .inl (E.2.1 0, cap, .inl f)), (ot, .inr (1, [.int (iI most2), .ref q2, .int (iI ((b2.length : Nat) : Int))])), (q2, .inl (E.2.1 0, cap2, .inl f2)), (q17, .inl (E.2.1 0, b2.length, .inl (va_cpy f2 (fun _ => 0) (Int.toNat 0) (Int.toNat 0) (Int.toNat ((b2.length : Nat) : Int)))))] := hD
    have hE := hE0.at hS hA0
    exact zwv S hr hlk hS (⟨rfl, q17, b2.length, _, hP.sub (ws' := [(a, .inr (1, [.int (iI most), .ref q17, .int (iI ((b2.length : Nat) : Int))])), (q17, .inl (E.2.1 0, b2.length, .inl (va_cpy f2 (fun _ => 0) (Int.toNat 0) (Int.toNat 0) (Int.toNat ((b2.length : Nat) : Int))))), (ot, .inr (1, [.int (iI most2), .ref q2, .int (iI ((b2.length : Nat) : Int))])), (q2, .inl (E.2.1 0, cap2, .inl f2))]) [0, 4, 2, 3] rfl, hD.sub (ws' := [(a, .inr (1, [.int (iI most), .ref q17, .int (iI ((b2.length : Nat) : Int))])), (q17, .inl (E.2.1 0, b2.length, .inl (va_cpy f2 (fun _ => 0) (Int.toNat 0) (Int.toNat 0) (Int.toNat ((b2.length : Nat) : Int))))), (ot, .inr (1, [.int (iI most2), .ref q2, .int (iI ((b2.length : Nat) : Int))])), (q2, .inl (E.2.1 0, cap2, .inl f2))]) [0, 4, 2, 3] (by decide) rfl, by rw [Int.toNat_zero, Int.toNat_natCast]; exact zbytes_copy hB2 (by omega) (by omega), by rw [Int.toNat_zero, Int.toNat_natCast]; exact zfit_copy hF2 (zfit_0 _) hB2.1, by omega⟩) (by (try dsimp only); omega) (by (try dsimp only); omega) d_Row_become_47
