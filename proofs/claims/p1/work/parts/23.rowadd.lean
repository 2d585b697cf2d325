set_option maxRecDepth 100000 in
set_option maxHeartbeats 4000000 in
theorem c_Arrays_copyOf_BI (l : Launch) (E : zP) (sz : Nat) (q cap n : Nat) (f : Nat → Int32) (hf : ∀ i, i < cap → fits .byte (.int (f i)) = true) (hn : cap < n) (hn2 : n < 536870912) : Met l y_Arrays_copyOf_BI (.code y_Arrays_copyOf_BI b_Arrays_copyOf_BI 3 ( some ( FieldType.array FieldType.byte ) ) :: zw) { frames := 1, cells := (1), slots := (n), locals := 39 } (zPc E [.ref q, .int (iI ((n : Nat) : Int))] (fun H => H.size = sz ∧ va_P E.1 zcl [(q, .inl (E.2.1 0, cap, .inl f))] H ∧ va_D (zOld E) [(q, .inl (E.2.1 0, cap, .inl f))] ∧ (True))) (zW (fun v H => ∃ q2, v = some (.ref q2) ∧ va_P E.1 zcl [(q, .inl (E.2.1 0, cap, .inl f)), (q2, .inl (E.2.1 0, n, .inl (va_cpy f (fun _ => 0) 0 0 cap)))] H ∧ va_D (va_A [(q, .inl (E.2.1 0, cap, .inl f))] sz) [(q, .inl (E.2.1 0, cap, .inl f)), (q2, .inl (E.2.1 0, n, .inl (va_cpy f (fun _ => 0) 0 0 cap)))]) (va_A [(q, .inl (E.2.1 0, cap, .inl f))] sz)) (1) (n) (va_A [(q, .inl (E.2.1 0, cap, .inl f))] sz) := by
  refine zMetF (by decide +kernel) (Nat.le_of_ble_eq_true rfl) ?_
  intro p e s m below meth c ls S hr hlk hnm hE ⟨hsz, hP, hDo, hX⟩ hl
  have hx := S.1
  have hb := S.2.1
  have hE0 := hE
  have hl : lv_has ls 3 [(0, .ref q), (1, .int (iI ((n : Nat) : Int)))] := hl
  subst hsz
  have hD := hDo.self (sz := s.heap.size)
  generalize hAe : va_A [(q, .inl (E.2.1 0, cap, .inl f))] s.heap.size = A at hD ⊢
  have hA : ∀ q : Nat, s.heap.size ≤ q → A q := fun q h => by rw [← hAe]; exact Or.inr h
  have hA0 := zA0 hE hDo hAe
  have hS : va_S A s.heap s.heap [] := va_S.rf
  refine lv_iload_n hx hb d_Arrays_copyOf_BI_0 rfl (lv_at hl 1 rfl) ?_
  refine lv_aload_n hx hb d_Arrays_copyOf_BI_1 rfl (lv_at hl 0 rfl) ?_
  refine zalen hx hb hE 0 (by decide) (hP 0 _ rfl) rfl d_Arrays_copyOf_BI_2 ?_
  refine zi_icmp_ne hx hb d_Arrays_copyOf_BI_3 rfl (by omega) (by omega) (fun h3 => ?_) (fun h => absurd h (by omega))
  refine lv_iload_n hx hb d_Arrays_copyOf_BI_14 rfl (lv_at hl 1 rfl) ?_
  refine znewa (atype := .byte) (k := 0) (N := n) (a0 := (n, .inl (fun _ => 0))) S hE zw_64 rfl (zfc0 hE) hP hD hS hA (fun _ => rfl) (by omega) (by omega) (by omega) (by show _ * 1 ≤ _; omega) (by (try dsimp only); omega) (by (try dsimp only); omega) d_Arrays_copyOf_BI_15 (fun q15 H hP hD hS => ?_)
  have hP : va_P E.1 zcl [(q, .inl (E.2.1 0, cap, .inl f)), (q15, .inl (E.2.1 0, n, .inl (fun _ => 0)))] H := hP
  have hD : va_D A [(q, .inl (E.2.1 0, cap, .inl f)), (q15, .inl (E.2.1 0, n, .inl (fun _ => 0)))] := hD
  have hE := hE0.at hS hA0
  refine lv_astore_n (lv' := [(2, .ref q15), (0, .ref q), (1, .int (iI ((n : Nat) : Int)))]) hx hb d_Arrays_copyOf_BI_17 rfl hl (by decide) rfl (fun ls hl => ?_)
  refine lv_aload_n hx hb d_Arrays_copyOf_BI_18 rfl (lv_at hl 1 rfl) ?_
  refine zi_iconst hx hb d_Arrays_copyOf_BI_19 ?_
  refine lv_aload_n hx hb d_Arrays_copyOf_BI_20 rfl (lv_at hl 0 rfl) ?_
  refine zi_iconst hx hb d_Arrays_copyOf_BI_21 ?_
  refine lv_aload_n hx hb d_Arrays_copyOf_BI_22 rfl (lv_at hl 1 rfl) ?_
  refine zalen hx hb hE 0 (by decide) (hP 0 _ rfl) rfl d_Arrays_copyOf_BI_23 ?_
  refine lv_iload_n hx hb d_Arrays_copyOf_BI_24 rfl (lv_at hl 2 rfl) ?_
  refine zcR (va_runS (As := [.int (iI ((cap : Nat) : Int)), .int (iI ((n : Nat) : Int))]) (rest := [.int (iI 0), .ref q15, .int (iI 0), .ref q]) S (c_Math_min l E ((cap : Nat) : Int) ((n : Nat) : Int) (by omega) (by omega)) ⟨zcwB (n := 2) S zw_366 zw_23 zw_364 (by decide +kernel) rfl rfl ⟨Nat.le_of_ble_eq_true rfl, Nat.le_of_ble_eq_true rfl⟩, S.2.2.2.2 _ zw_365⟩ (zPreS hE trivial) rfl rfl hl.1 rfl (lv_room (Nat.le_of_ble_eq_true rfl)) d_Arrays_copyOf_BI_25 ⟨by (try dsimp only); omega, by (try dsimp only); omega⟩) ?_
  refine zcopy S zw_367 hE hP hD hS 0 1 0 rfl rfl rfl rfl rfl (by omega) (by omega) (by omega) (by omega) (by omega) (fun i hi => by rw [Int.toNat_zero, Nat.zero_add]; exact hf i (by omega)) hl.1 (Nat.le_of_ble_eq_true rfl) (by (try dsimp only); decide) d_Arrays_copyOf_BI_28 (fun H locs hP hD hS => ?_)
  have hP : va_P E.1 zcl [(q, .inl (E.2.1 0, cap, .inl f)), (q15, .inl (E.2.1 0, n, .inl (va_cpy f (fun _ => 0) (Int.toNat 0) (Int.toNat 0) (Int.toNat (min ((cap : Nat) : Int) ((n : Nat) : Int))))))] H := hP
  have hD : va_D A [(q, .inl (E.2.1 0, cap, .inl f)), (q15, .inl (E.2.1 0, n, .inl (va_cpy f (fun _ => 0) (Int.toNat 0) (Int.toNat 0) (Int.toNat (min ((cap : Nat) : Int) ((n : Nat) : Int))))))] := hD
  have hE := hE0.at hS hA0
  refine lv_aload_n hx hb d_Arrays_copyOf_BI_31 rfl (lv_at hl 0 rfl) ?_
  exact zwa S hr (Or.inr ⟨_, rfl⟩) hlk hS (⟨q15, rfl, (by rw [show (Int.toNat (min ((cap : Nat) : Int) ((n : Nat) : Int))) = cap by omega] at hP; exact hP), (by rw [show (Int.toNat (min ((cap : Nat) : Int) ((n : Nat) : Int))) = cap by omega] at hD; exact hD)⟩) (by (try dsimp only); omega) (by (try dsimp only); omega) d_Arrays_copyOf_BI_32

set_option maxRecDepth 100000 in
set_option maxHeartbeats 4000000 in
theorem c_Row_cutTo (l : Launch) (E : zP) (sz : Nat) (h q len : Nat) (most k : Int) (hk : r32 k) (hlen : len < 2147483648) : Met l y_Row_cutTo (.code y_Row_cutTo b_Row_cutTo 2 ( Option.none : Option FieldType ) :: zw) { frames := 0, cells := (0), slots := (0), locals := 0 } (zPc E [.ref h, .int (iI k)] (fun H => H.size = sz ∧ va_P E.1 zcl [(h, .inr (1, [.int (iI most), .ref q, .int (iI ((len : Nat) : Int))]))] H ∧ va_D (zOld E) [(h, .inr (1, [.int (iI most), .ref q, .int (iI ((len : Nat) : Int))]))] ∧ (True))) (zW (fun v H => v = none ∧ va_P E.1 zcl [(h, .inr (1, [.int (iI most), .ref q, .int (iI (if 0 ≤ k ∧ k < (len : Int) then k else (len : Int)))]))] H ∧ va_D (va_A [(h, .inr (1, [.int (iI most), .ref q, .int (iI ((len : Nat) : Int))]))] sz) [(h, .inr (1, [.int (iI most), .ref q, .int (iI (if 0 ≤ k ∧ k < (len : Int) then k else (len : Int)))]))]) (va_A [(h, .inr (1, [.int (iI most), .ref q, .int (iI ((len : Nat) : Int))]))] sz)) (0) (0) (va_A [(h, .inr (1, [.int (iI most), .ref q, .int (iI ((len : Nat) : Int))]))] sz) := by
  refine zMet (by decide) (Nat.le_of_ble_eq_true rfl) ?_
  intro p e s m below meth c ls S hr hlk hnm hE ⟨hsz, hP, hDo, hX⟩ hl
  have hx := S.1
  have hb := S.2.1
  have hE0 := hE
  have hl : lv_has ls 2 [(0, .ref h), (1, .int (iI k))] := hl
  subst hsz
  have hD := hDo.self (sz := s.heap.size)
  generalize hAe : va_A [(h, .inr (1, [.int (iI most), .ref q, .int (iI ((len : Nat) : Int))]))] s.heap.size = A at hD ⊢
  have hA : ∀ q : Nat, s.heap.size ≤ q → A q := fun q h => by rw [← hAe]; exact Or.inr h
  have hA0 := zA0 hE hDo hAe
  have hS : va_S A s.heap s.heap [] := va_S.rf
  refine lv_iload_n hx hb d_Row_cutTo_0 rfl (lv_at hl 1 rfl) ?_
  refine zi_if_lt hx hb d_Row_cutTo_1 rfl (by omega) (fun h1 => ?_) (fun h1 => ?_)
  · exact zwv S hr hlk hS (⟨rfl, by first | (rw [if_pos (by omega)]; exact hP) | (rw [if_neg (by omega)]; exact hP), by first | (rw [if_pos (by omega)]; exact hD) | (rw [if_neg (by omega)]; exact hD)⟩) (by (try dsimp only); omega) (by (try dsimp only); omega) d_Row_cutTo_17
  · refine lv_iload_n hx hb d_Row_cutTo_4 rfl (lv_at hl 1 rfl) ?_
    refine lv_aload_n hx hb d_Row_cutTo_5 rfl (lv_at hl 0 rfl) ?_
    refine zgf S hE (ci := 1) rfl i_Row (hP 0 _ rfl) 2 (by decide) zw_56 rfl d_Row_cutTo_6 ?_
    refine zi_icmp_ge hx hb d_Row_cutTo_9 rfl (by omega) (by omega) (fun h9 => ?_) (fun h9 => ?_)
    · exact zwv S hr hlk hS (⟨rfl, by first | (rw [if_pos (by omega)]; exact hP) | (rw [if_neg (by omega)]; exact hP), by first | (rw [if_pos (by omega)]; exact hD) | (rw [if_neg (by omega)]; exact hD)⟩) (by (try dsimp only); omega) (by (try dsimp only); omega) d_Row_cutTo_17
    · refine lv_aload_n hx hb d_Row_cutTo_12 rfl (lv_at hl 0 rfl) ?_
      refine lv_iload_n hx hb d_Row_cutTo_13 rfl (lv_at hl 1 rfl) ?_
      refine va_put (D := E.1) (ci := 1) (v := .int (iI k)) (ty := .int) (C := "ReplacementWriter$Row") (T := F_Row) (N := 3) hx hb S.2.2.2.2 i_Row t_Row t_Row_ok n_Row S.2.2.2.1 hE.1 hP hD hS 0 rfl rfl 2 (by decide) (S.2.2.2.2 _ zw_56) (fun _ h9 => h9) rfl (by decide +kernel) rfl rfl (Nat.le_of_ble_eq_true rfl) d_Row_cutTo_14 (fun H locs hP hD hS => ?_)
      have hP : va_P E.1 zcl [(h, .inr (1, [.int (iI most), .ref q, .int (iI k)]))] H := hP
      have hD : va_D A [(h, .inr (1, [.int (iI most), .ref q, .int (iI k)]))] := hD
      have hE := hE0.at hS hA0
      exact zwv S hr hlk hS (⟨rfl, by first | (rw [if_pos (by omega)]; exact hP) | (rw [if_neg (by omega)]; exact hP), by first | (rw [if_pos (by omega)]; exact hD) | (rw [if_neg (by omega)]; exact hD)⟩) (by (try dsimp only); omega) (by (try dsimp only); omega) d_Row_cutTo_17

set_option maxRecDepth 100000 in
set_option maxHeartbeats 4000000 in
theorem c_Row_add (l : Launch) (E : zP) (sz : Nat) (h q cap n : Nat) (most : Int) (f : Nat → Int32) (b : List Nat) (w : Int32) (hw : w.toInt8.toInt32 = sb_b n) (hn : n < 256) (hB : zbytes b cap f) (hm : (b.length : Int) < most) (hm2 : most ≤ 262144) (hc : 16 ≤ cap) (hc2 : cap ≤ 262144) (hfit : zfit cap f) : Met l y_Row_add (.code y_Row_add b_Row_add 2 ( Option.none : Option FieldType ) :: zw) { frames := 2, cells := ((sp_grow cap b.length - cap) / 16), slots := (2 * (sp_grow cap b.length - cap)), locals := 61 } (zPc E [.ref h, .int w] (fun H => H.size = sz ∧ va_P E.1 zcl [(h, .inr (1, [.int (iI most), .ref q, .int (iI ((b.length : Nat) : Int))])), (q, .inl (E.2.1 0, cap, .inl f))] H ∧ va_D (zOld E) [(h, .inr (1, [.int (iI most), .ref q, .int (iI ((b.length : Nat) : Int))])), (q, .inl (E.2.1 0, cap, .inl f))] ∧ (True))) (zW (fun v H => v = none ∧ ∃ (q2 : Nat) (f2 : Nat → Int32), va_P E.1 zcl [(h, .inr (1, [.int (iI most), .ref q2, .int (iI (((b ++ [n]).length : Nat) : Int))])), (q2, .inl (E.2.1 0, sp_grow cap b.length, .inl f2))] H ∧ va_D (va_A [(h, .inr (1, [.int (iI most), .ref q, .int (iI ((b.length : Nat) : Int))])), (q, .inl (E.2.1 0, cap, .inl f))] sz) [(h, .inr (1, [.int (iI most), .ref q2, .int (iI (((b ++ [n]).length : Nat) : Int))])), (q2, .inl (E.2.1 0, sp_grow cap b.length, .inl f2))] ∧ zbytes (b ++ [n]) (sp_grow cap b.length) f2 ∧ zfit (sp_grow cap b.length) f2) (va_A [(h, .inr (1, [.int (iI most), .ref q, .int (iI ((b.length : Nat) : Int))])), (q, .inl (E.2.1 0, cap, .inl f))] sz)) ((sp_grow cap b.length - cap) / 16) (2 * (sp_grow cap b.length - cap)) (va_A [(h, .inr (1, [.int (iI most), .ref q, .int (iI ((b.length : Nat) : Int))])), (q, .inl (E.2.1 0, cap, .inl f))] sz) := by
  refine zMet (by decide) (Nat.le_of_ble_eq_true rfl) ?_
  intro p e s m below meth c ls S hr hlk hnm hE ⟨hsz, hP, hDo, hX⟩ hl
  have hx := S.1
  have hb := S.2.1
  have hE0 := hE
  have hl : lv_has ls 2 [(0, .ref h), (1, .int w)] := hl
  subst hsz
  have hD := hDo.self (sz := s.heap.size)
  generalize hAe : va_A [(h, .inr (1, [.int (iI most), .ref q, .int (iI ((b.length : Nat) : Int))])), (q, .inl (E.2.1 0, cap, .inl f))] s.heap.size = A at hD ⊢
  have hA : ∀ q : Nat, s.heap.size ≤ q → A q := fun q h => by rw [← hAe]; exact Or.inr h
  have hA0 := zA0 hE hDo hAe
  have hS : va_S A s.heap s.heap [] := va_S.rf
  have hBl := hB.1
  refine lv_aload_n hx hb d_Row_add_0 rfl (lv_at hl 0 rfl) ?_
  refine zgf S hE (ci := 1) rfl i_Row (hP 0 _ rfl) 2 (by decide) zw_56 rfl d_Row_add_1 ?_
  refine lv_aload_n hx hb d_Row_add_4 rfl (lv_at hl 0 rfl) ?_
  refine zgf S hE (ci := 1) rfl i_Row (hP 0 _ rfl) 0 (by decide) zw_54 rfl d_Row_add_5 ?_
  refine zi_icmp_lt hx hb d_Row_add_8 rfl (by omega) (by omega) (fun h8 => ?_) (fun h => absurd h (by omega))
  refine lv_aload_n hx hb d_Row_add_12 rfl (lv_at hl 0 rfl) ?_
  refine zgf S hE (ci := 1) rfl i_Row (hP 0 _ rfl) 2 (by decide) zw_56 rfl d_Row_add_13 ?_
  refine lv_aload_n hx hb d_Row_add_16 rfl (lv_at hl 0 rfl) ?_
  refine zgf S hE (ci := 1) rfl i_Row (hP 0 _ rfl) 1 (by decide) zw_55 rfl d_Row_add_17 ?_
  refine zalen hx hb hE 0 (by decide) (hP 1 _ rfl) rfl d_Row_add_20 ?_
  refine zi_icmp_lt hx hb d_Row_add_21 rfl (by omega) (by omega) (fun h21 => ?_) (fun h21 => ?_)
  · rw [show sp_grow cap b.length = cap from if_pos (by omega)]
    have hB2 := hB
    have hF2 := hfit
    refine lv_aload_n hx hb d_Row_add_42 rfl (lv_at hl 0 rfl) ?_
    refine zgf S hE (ci := 1) rfl i_Row (hP 0 _ rfl) 1 (by decide) zw_55 rfl d_Row_add_43 ?_
    refine lv_aload_n hx hb d_Row_add_46 rfl (lv_at hl 0 rfl) ?_
    refine zgf S hE (ci := 1) rfl i_Row (hP 0 _ rfl) 2 (by decide) zw_56 rfl d_Row_add_47 ?_
    refine lv_iload_n hx hb d_Row_add_50 rfl (lv_at hl 1 rfl) ?_
    refine lv_i2b hx hb d_Row_add_51 rfl ?_
    refine zbast hx hb hE hP hD hS 1 rfl (by omega) (by omega) (by omega) d_Row_add_52 (fun H locs hP hD hS => ?_)
    have hP : va_P E.1 zcl [(h, .inr (1, [.int (iI most), .ref q, .int (iI ((b.length : Nat) : Int))])), (q, .inl (E.2.1 0, cap, .inl (upd f (Int.toNat ((b.length : Nat) : Int)) (vp_nar .byte ((w).toInt8.toInt32)))))] H := hP
    have hD : va_D A [(h, .inr (1, [.int (iI most), .ref q, .int (iI ((b.length : Nat) : Int))])), (q, .inl (E.2.1 0, cap, .inl (upd f (Int.toNat ((b.length : Nat) : Int)) (vp_nar .byte ((w).toInt8.toInt32)))))] := hD
    have hE := hE0.at hS hA0
    refine lv_aload_n hx hb d_Row_add_53 rfl (lv_at hl 0 rfl) ?_
    refine lv_dup hx hb d_Row_add_54 rfl ?_
    refine zgf S hE (ci := 1) rfl i_Row (hP 0 _ rfl) 2 (by decide) zw_56 rfl d_Row_add_55 ?_
    refine zi_iconst hx hb d_Row_add_58 ?_
    refine zi_iadd hx hb d_Row_add_59 ?_
    refine va_put (D := E.1) (ci := 1) (v := .int (iI (((b.length : Nat) : Int) + 1))) (ty := .int) (C := "ReplacementWriter$Row") (T := F_Row) (N := 3) hx hb S.2.2.2.2 i_Row t_Row t_Row_ok n_Row S.2.2.2.1 hE.1 hP hD hS 0 rfl rfl 2 (by decide) (S.2.2.2.2 _ zw_56) (fun _ h9 => h9) rfl (by decide +kernel) rfl rfl (Nat.le_of_ble_eq_true rfl) d_Row_add_60 (fun H locs hP hD hS => ?_)
    have hP : va_P E.1 zcl [(h, .inr (1, [.int (iI most), .ref q, .int (iI (((b.length : Nat) : Int) + 1))])), (q, .inl (E.2.1 0, cap, .inl (upd f (Int.toNat ((b.length : Nat) : Int)) (vp_nar .byte ((w).toInt8.toInt32)))))] H := hP
    have hD : va_D A [(h, .inr (1, [.int (iI most), .ref q, .int (iI (((b.length : Nat) : Int) + 1))])), (q, .inl (E.2.1 0, cap, .inl (upd f (Int.toNat ((b.length : Nat) : Int)) (vp_nar .byte ((w).toInt8.toInt32)))))] := hD
    have hE := hE0.at hS hA0
    rw [show ((b.length : Nat) : Int) + 1 = (((b ++ [n]).length : Nat) : Int) by simp] at hP hD
    exact zwv S hr hlk hS (⟨rfl, q, _, hP.sub (ws' := [(h, .inr (1, [.int (iI most), .ref q, .int (iI (((b ++ [n]).length : Nat) : Int))])), (q, .inl (E.2.1 0, cap, .inl (upd f (Int.toNat ((b.length : Nat) : Int)) (vp_nar .byte ((w).toInt8.toInt32)))))]) [0, 1] rfl, hD.sub (ws' := [(h, .inr (1, [.int (iI most), .ref q, .int (iI (((b ++ [n]).length : Nat) : Int))])), (q, .inl (E.2.1 0, cap, .inl (upd f (Int.toNat ((b.length : Nat) : Int)) (vp_nar .byte ((w).toInt8.toInt32)))))]) [0, 1] (by decide) rfl, by rw [Int.toNat_natCast]; exact zbytes_push hB2 (by omega) hn (by rw [sb_nar, hw]), zfit_upd hF2 (by rw [sb_nar, hw]; exact sb_fitB n)⟩) (by (try dsimp only); omega) (by (try dsimp only); omega) d_Row_add_63
  · rw [show sp_grow cap b.length = 4 * cap from if_neg (by omega)]
    have hB2 := zbytes_grow hB (n := 4 * cap) (by omega) (by omega)
    have hF2 := zfit_grow (n := 4 * cap) hfit
    refine lv_aload_n hx hb d_Row_add_24 rfl (lv_at hl 0 rfl) ?_
    refine lv_aload_n hx hb d_Row_add_25 rfl (lv_at hl 0 rfl) ?_
    refine zgf S hE (ci := 1) rfl i_Row (hP 0 _ rfl) 1 (by decide) zw_55 rfl d_Row_add_26 ?_
    refine zi_iconst hx hb d_Row_add_29 ?_
    refine lv_aload_n hx hb d_Row_add_30 rfl (lv_at hl 0 rfl) ?_
    refine zgf S hE (ci := 1) rfl i_Row (hP 0 _ rfl) 1 (by decide) zw_55 rfl d_Row_add_31 ?_
    refine zalen hx hb hE 0 (by decide) (hP 1 _ rfl) rfl d_Row_add_34 ?_
    refine zi_imul hx hb d_Row_add_35 ?_
    rw [show (4 : Int) * ((cap : Nat) : Int) = ((4 * cap : Nat) : Int) by omega]
    have hPc := hP.sub (ws' := [(q, .inl (E.2.1 0, cap, .inl f))]) [1] rfl
    have hDc := hD.sub (ws' := [(q, .inl (E.2.1 0, cap, .inl f))]) [1] (by decide) rfl
    have hFc := va_free (wc := [(q, .inl (E.2.1 0, cap, .inl f))]) hD hS hA [1] rfl
    refine zcW (va_runS (As := [.ref q, .int (iI ((4 * cap : Nat) : Int))]) (rest := [.ref h]) S (c_Arrays_copyOf_BI l E s.heap.size q cap (4 * cap) f (fun i hi => hfit i hi) (by omega) (by omega)) ⟨zcwB (n := 2) S zw_356 zw_22 zw_354 (by decide +kernel) rfl rfl ⟨Nat.le_of_ble_eq_true rfl, Nat.le_of_ble_eq_true rfl⟩, S.2.2.2.2 _ zw_355⟩ (zPreS hE ⟨rfl, hPc, hDc.weaken (fun _ _ _ h => hA0 _ h), trivial⟩) rfl rfl hl.1 rfl (lv_room (Nat.le_of_ble_eq_true rfl)) d_Row_add_36 ⟨by (try dsimp only); omega, by (try dsimp only); omega⟩) hS (fun q _ h => hFc q h) hFc (fun v H locs hq hz1 hk1 hS => ?_)
    obtain ⟨q36, rfl, hP1, hD1⟩ := hq
    obtain ⟨hP, hD⟩ := va_join (wr := [(h, .inr (1, [.int (iI most), .ref q, .int (iI ((b.length : Nat) : Int))]))]) (w1 := [(q, .inl (E.2.1 0, cap, .inl f)), (q36, .inl (E.2.1 0, 4 * cap, .inl (va_cpy f (fun _ => 0) 0 0 cap)))]) hP hD [1] [0] rfl rfl (by decide) (by decide) hk1 hFc hP1 hD1
    have hP : va_P E.1 zcl [(h, .inr (1, [.int (iI most), .ref q, .int (iI ((b.length : Nat) : Int))])), (q, .inl (E.2.1 0, cap, .inl f)), (q36, .inl (E.2.1 0, 4 * cap, .inl (va_cpy f (fun _ => 0) 0 0 cap)))] H := hP
    have hD : va_D A [(h, .inr (1, [.int (iI most), .ref q, .int (iI ((b.length : Nat) : Int))])), (q, .inl (E.2.1 0, cap, .inl f)), (q36, .inl (E.2.1 0, 4 * cap, .inl (va_cpy f (fun _ => 0) 0 0 cap)))] := hD
    have hE := hE0.at hS hA0
    refine va_put (D := E.1) (ci := 1) (v := .ref q36) (ty := .array .byte) (C := "ReplacementWriter$Row") (T := F_Row) (N := 3) hx hb S.2.2.2.2 i_Row t_Row t_Row_ok n_Row S.2.2.2.1 hE.1 hP hD hS 0 rfl rfl 1 (by decide) (S.2.2.2.2 _ zw_55) (fun _ h9 => h9) rfl (by decide +kernel) rfl rfl (Nat.le_of_ble_eq_true rfl) d_Row_add_39 (fun H locs hP hD hS => ?_)
    have hP : va_P E.1 zcl [(h, .inr (1, [.int (iI most), .ref q36, .int (iI ((b.length : Nat) : Int))])), (q, .inl (E.2.1 0, cap, .inl f)), (q36, .inl (E.2.1 0, 4 * cap, .inl (va_cpy f (fun _ => 0) 0 0 cap)))] H := hP
    have hD : va_D A [(h, .inr (1, [.int (iI most), .ref q36, .int (iI ((b.length : Nat) : Int))])), (q, .inl (E.2.1 0, cap, .inl f)), (q36, .inl (E.2.1 0, 4 * cap, .inl (va_cpy f (fun _ => 0) 0 0 cap)))] := hD
    have hE := hE0.at hS hA0
    refine lv_aload_n hx hb d_Row_add_42 rfl (lv_at hl 0 rfl) ?_
    refine zgf S hE (ci := 1) rfl i_Row (hP 0 _ rfl) 1 (by decide) zw_55 rfl d_Row_add_43 ?_
    refine lv_aload_n hx hb d_Row_add_46 rfl (lv_at hl 0 rfl) ?_
    refine zgf S hE (ci := 1) rfl i_Row (hP 0 _ rfl) 2 (by decide) zw_56 rfl d_Row_add_47 ?_
    refine lv_iload_n hx hb d_Row_add_50 rfl (lv_at hl 1 rfl) ?_
    refine lv_i2b hx hb d_Row_add_51 rfl ?_
    refine zbast hx hb hE hP hD hS 2 rfl (by omega) (by omega) (by omega) d_Row_add_52 (fun H locs hP hD hS => ?_)
    have hP : va_P E.1 zcl [(h, .inr (1, [.int (iI most), .ref q36, .int (iI ((b.length : Nat) : Int))])), (q, .inl (E.2.1 0, cap, .inl f)), (q36, .inl (E.2.1 0, 4 * cap, .inl (upd (va_cpy f (fun _ => 0) 0 0 cap) (Int.toNat ((b.length : Nat) : Int)) (vp_nar .byte ((w).toInt8.toInt32)))))] H := hP
    have hD : va_D A [(h, .inr (1, [.int (iI most), .ref q36, .int (iI ((b.length : Nat) : Int))])), (q, .inl (E.2.1 0, cap, .inl f)), (q36, .inl (E.2.1 0, 4 * cap, .inl (upd (va_cpy f (fun _ => 0) 0 0 cap) (Int.toNat ((b.length : Nat) : Int)) (vp_nar .byte ((w).toInt8.toInt32)))))] := hD
    have hE := hE0.at hS hA0
    refine lv_aload_n hx hb d_Row_add_53 rfl (lv_at hl 0 rfl) ?_
    refine lv_dup hx hb d_Row_add_54 rfl ?_
    refine zgf S hE (ci := 1) rfl i_Row (hP 0 _ rfl) 2 (by decide) zw_56 rfl d_Row_add_55 ?_
    refine zi_iconst hx hb d_Row_add_58 ?_
    refine zi_iadd hx hb d_Row_add_59 ?_
    refine va_put (D := E.1) (ci := 1) (v := .int (iI (((b.length : Nat) : Int) + 1))) (ty := .int) (C := "ReplacementWriter$Row") (T := F_Row) (N := 3) hx hb S.2.2.2.2 i_Row t_Row t_Row_ok n_Row S.2.2.2.1 hE.1 hP hD hS 0 rfl rfl 2 (by decide) (S.2.2.2.2 _ zw_56) (fun _ h9 => h9) rfl (by decide +kernel) rfl rfl (Nat.le_of_ble_eq_true rfl) d_Row_add_60 (fun H locs hP hD hS => ?_)
    have hP : va_P E.1 zcl [(h, .inr (1, [.int (iI most), .ref q36, .int (iI (((b.length : Nat) : Int) + 1))])), (q, .inl (E.2.1 0, cap, .inl f)), (q36, .inl (E.2.1 0, 4 * cap, .inl (upd (va_cpy f (fun _ => 0) 0 0 cap) (Int.toNat ((b.length : Nat) : Int)) (vp_nar .byte ((w).toInt8.toInt32)))))] H := hP
    have hD : va_D A [(h, .inr (1, [.int (iI most), .ref q36, .int (iI (((b.length : Nat) : Int) + 1))])), (q, .inl (E.2.1 0, cap, .inl f)), (q36, .inl (E.2.1 0, 4 * cap, .inl (upd (va_cpy f (fun _ => 0) 0 0 cap) (Int.toNat ((b.length : Nat) : Int)) (vp_nar .byte ((w).toInt8.toInt32)))))] := hD
    have hE := hE0.at hS hA0
    rw [show ((b.length : Nat) : Int) + 1 = (((b ++ [n]).length : Nat) : Int) by simp] at hP hD
    exact zwv S hr hlk hS (⟨rfl, q36, _, hP.sub (ws' := [(h, .inr (1, [.int (iI most), .ref q36, .int (iI (((b ++ [n]).length : Nat) : Int))])), (q36, .inl (E.2.1 0, 4 * cap, .inl (upd (va_cpy f (fun _ => 0) 0 0 cap) (Int.toNat ((b.length : Nat) : Int)) (vp_nar .byte ((w).toInt8.toInt32)))))]) [0, 2] rfl, hD.sub (ws' := [(h, .inr (1, [.int (iI most), .ref q36, .int (iI (((b ++ [n]).length : Nat) : Int))])), (q36, .inl (E.2.1 0, 4 * cap, .inl (upd (va_cpy f (fun _ => 0) 0 0 cap) (Int.toNat ((b.length : Nat) : Int)) (vp_nar .byte ((w).toInt8.toInt32)))))]) [0, 2] (by decide) rfl, by rw [Int.toNat_natCast]; exact zbytes_push hB2 (by omega) hn (by rw [sb_nar, hw]), zfit_upd hF2 (by rw [sb_nar, hw]; exact sb_fitB n)⟩) (by (try dsimp only); omega) (by (try dsimp only); omega) d_Row_add_63
