set_option maxRecDepth 100000 in
set_option maxHeartbeats 4000000 in
theorem c_RW_end (l : Launch) (E : zP) (sz : Nat) (x en tx gr h w q cap : Nat) (lc lo : Int) (f : Nat → Int32) (b : List Nat) (n0 : Nat) (hB : zbytes b cap f) (hn : n0 ≤ b.length) : Met l y_RW_end (.code y_RW_end b_RW_end 2 ( some FieldType.int ) :: zw) { frames := 1, cells := (0), slots := (0), locals := 21 } (zPc E [.ref x, .int (iI ((n0 : Nat) : Int))] (fun H => H.size = sz ∧ va_P E.1 zcl [(x, .inr (0, [.ref en, .ref tx, .ref gr, .ref h, .ref w, .int (iI lc), .int (iI lo)])), (tx, .inr (1, [.int (iI 65536), .ref q, .int (iI ((b.length : Nat) : Int))])), (q, .inl (E.2.1 0, cap, .inl f))] H ∧ va_D (zOld E) [(x, .inr (0, [.ref en, .ref tx, .ref gr, .ref h, .ref w, .int (iI lc), .int (iI lo)])), (tx, .inr (1, [.int (iI 65536), .ref q, .int (iI ((b.length : Nat) : Int))])), (q, .inl (E.2.1 0, cap, .inl f))] ∧ (True))) (zW (fun v H => v = some (.int (iI ((n0 : Nat) : Int))) ∧ va_P E.1 zcl [(x, .inr (0, [.ref en, .ref tx, .ref gr, .ref h, .ref w, .int (iI lc), .int (iI lo)])), (tx, .inr (1, [.int (iI 65536), .ref q, .int (iI (((b.take n0).length : Nat) : Int))])), (q, .inl (E.2.1 0, cap, .inl f))] H ∧ va_D (va_A [(x, .inr (0, [.ref en, .ref tx, .ref gr, .ref h, .ref w, .int (iI lc), .int (iI lo)])), (tx, .inr (1, [.int (iI 65536), .ref q, .int (iI ((b.length : Nat) : Int))])), (q, .inl (E.2.1 0, cap, .inl f))] sz) [(x, .inr (0, [.ref en, .ref tx, .ref gr, .ref h, .ref w, .int (iI lc), .int (iI lo)])), (tx, .inr (1, [.int (iI 65536), .ref q, .int (iI (((b.take n0).length : Nat) : Int))])), (q, .inl (E.2.1 0, cap, .inl f))]) (va_A [(x, .inr (0, [.ref en, .ref tx, .ref gr, .ref h, .ref w, .int (iI lc), .int (iI lo)])), (tx, .inr (1, [.int (iI 65536), .ref q, .int (iI ((b.length : Nat) : Int))])), (q, .inl (E.2.1 0, cap, .inl f))] sz)) (0) (0) (va_A [(x, .inr (0, [.ref en, .ref tx, .ref gr, .ref h, .ref w, .int (iI lc), .int (iI lo)])), (tx, .inr (1, [.int (iI 65536), .ref q, .int (iI ((b.length : Nat) : Int))])), (q, .inl (E.2.1 0, cap, .inl f))] sz) := by
  refine zMet (by decide) (Nat.le_of_ble_eq_true rfl) ?_
  intro p e s m below meth c ls S hr hlk hnm hE ⟨hsz, hP, hDo, hX⟩ hl
  have hx := S.1
  have hb := S.2.1
  have hE0 := hE
  have hl : lv_has ls 2 [(0, .ref x), (1, .int (iI ((n0 : Nat) : Int)))] := hl
  subst hsz
  have hD := hDo.self (sz := s.heap.size)
  generalize hAe : va_A [(x, .inr (0, [.ref en, .ref tx, .ref gr, .ref h, .ref w, .int (iI lc), .int (iI lo)])), (tx, .inr (1, [.int (iI 65536), .ref q, .int (iI ((b.length : Nat) : Int))])), (q, .inl (E.2.1 0, cap, .inl f))] s.heap.size = A at hD ⊢
  have hA : ∀ q : Nat, s.heap.size ≤ q → A q := fun q h => by rw [← hAe]; exact Or.inr h
  have hA0 := zA0 hE hDo hAe
  have hS : va_S A s.heap s.heap [] := va_S.rf
  have hbl := hB.1
  have hbc := hB.2.1
  refine lv_iload_n hx hb d_RW_end_0 rfl (lv_at hl 1 rfl) ?_
  refine zi_if_lt hx hb d_RW_end_1 rfl (by omega) (fun h1 => absurd h1 (by omega)) (fun h1 => ?_)
  refine lv_iload_n hx hb d_RW_end_4 rfl (lv_at hl 1 rfl) ?_
  refine lv_aload_n hx hb d_RW_end_5 rfl (lv_at hl 0 rfl) ?_
  refine zgf S hE (ci := 0) rfl i_RW (hP 0 _ rfl) 1 (by decide) zw_230 rfl d_RW_end_6 ?_
  refine zcR (va_runV (As := []) (rest := [.int (iI ((n0 : Nat) : Int))]) S (c_Row_length l E tx b) ⟨zcwB (n := 0) S zw_258 zw_2 zw_255 (by decide +kernel) rfl rfl ⟨Nat.le_of_ble_eq_true rfl, Nat.le_of_ble_eq_true rfl⟩, S.2.2.2.2 _ zw_256, S.2.2.2.2 _ zw_257⟩ (zPreV hE (hP 1 _ rfl) rfl ⟨_, _, _, _, (hP 1 _ rfl), (hP 2 _ rfl), hB⟩) rfl rfl hl.1 rfl (lv_room (Nat.le_of_ble_eq_true rfl)) d_RW_end_9 ⟨by (try dsimp only); omega, by (try dsimp only); omega⟩) ?_
  refine zi_icmp_le hx hb d_RW_end_12 rfl (by omega) (by omega) (fun h12 => ?_) (fun h => absurd h (by omega))
  refine lv_aload_n hx hb d_RW_end_23 rfl (lv_at hl 0 rfl) ?_
  refine zgf S hE (ci := 0) rfl i_RW (hP 0 _ rfl) 1 (by decide) zw_230 rfl d_RW_end_24 ?_
  refine lv_iload_n hx hb d_RW_end_27 rfl (lv_at hl 1 rfl) ?_
  have hPc := hP.sub (ws' := [(tx, .inr (1, [.int (iI 65536), .ref q, .int (iI ((b.length : Nat) : Int))]))]) [1] rfl
  have hDc := hD.sub (ws' := [(tx, .inr (1, [.int (iI 65536), .ref q, .int (iI ((b.length : Nat) : Int))]))]) [1] (by decide) rfl
  have hFc := va_free (wc := [(tx, .inr (1, [.int (iI 65536), .ref q, .int (iI ((b.length : Nat) : Int))]))]) hD hS hA [1] rfl
  refine zcW (va_runV (As := [.int (iI ((n0 : Nat) : Int))]) (rest := []) S (c_Row_cutTo l E _ tx q b.length 65536 (((n0 : Nat) : Int) : Int) (by omega) (by omega)) ⟨zcwB (n := 1) S zw_396 zw_2 zw_393 (by decide +kernel) rfl rfl ⟨Nat.le_of_ble_eq_true rfl, Nat.le_of_ble_eq_true rfl⟩, S.2.2.2.2 _ zw_394, S.2.2.2.2 _ zw_395⟩ (zPreV hE (hP 1 _ rfl) rfl ⟨rfl, hPc, hDc.weaken (fun _ _ _ h => hA0 _ h), trivial⟩) rfl rfl hl.1 rfl (lv_room (Nat.le_of_ble_eq_true rfl)) d_RW_end_28 ⟨by (try dsimp only); omega, by (try dsimp only); omega⟩) hS (fun q _ h => hFc q h) hFc (fun v H locs hq hz1 hk1 hS => ?_)
  obtain ⟨rfl, hP1, hD1⟩ := hq
  obtain ⟨hP, hD⟩ := va_join (wr := [(x, .inr (0, [.ref en, .ref tx, .ref gr, .ref h, .ref w, .int (iI lc), .int (iI lo)])), (q, .inl (E.2.1 0, cap, .inl f))]) (w1 := [(tx, .inr (1, [.int (iI 65536), .ref q, .int (iI (if 0 ≤ (((n0 : Nat) : Int) : Int) ∧ (((n0 : Nat) : Int) : Int) < ((b.length : Nat) : Int) then (((n0 : Nat) : Int) : Int) else ((b.length : Nat) : Int)))]))]) hP hD [1] [0, 2] rfl rfl (by decide) (by decide) hk1 hFc hP1 hD1
  have hP : va_P E.1 zcl [(x, .inr (0, [.ref en, .ref tx, .ref gr, .ref h, .ref w, .int (iI lc), .int (iI lo)])), (q, .inl (E.2.1 0, cap, .inl f)), (tx, .inr (1, [.int (iI 65536), .ref q, .int (iI (if 0 ≤ (((n0 : Nat) : Int) : Int) ∧ (((n0 : Nat) : Int) : Int) < ((b.length : Nat) : Int) then (((n0 : Nat) : Int) : Int) else ((b.length : Nat) : Int)))]))] H := hP
  have hD : va_D A [(x, .inr (0, [.ref en, .ref tx, .ref gr, .ref h, .ref w, .int (iI lc), .int (iI lo)])), (q, .inl (E.2.1 0, cap, .inl f)), (tx, .inr (1, [.int (iI 65536), .ref q, .int (iI (if 0 ≤ (((n0 : Nat) : Int) : Int) ∧ (((n0 : Nat) : Int) : Int) < ((b.length : Nat) : Int) then (((n0 : Nat) : Int) : Int) else ((b.length : Nat) : Int)))]))] := hD
  have hE := hE0.at hS hA0
  have hcut : (if 0 ≤ (((n0 : Nat) : Int) : Int) ∧ (((n0 : Nat) : Int) : Int) < ((b.length : Nat) : Int) then (((n0 : Nat) : Int) : Int) else ((b.length : Nat) : Int)) = (((b.take n0).length : Nat) : Int) := by rw [List.length_take]; split <;> omega
  rw [hcut] at hP hD
  refine lv_iload_n hx hb d_RW_end_31 rfl (lv_at hl 1 rfl) ?_
  exact zwi S hr hlk hS (⟨rfl, hP.sub (ws' := [(x, .inr (0, [.ref en, .ref tx, .ref gr, .ref h, .ref w, .int (iI lc), .int (iI lo)])), (tx, .inr (1, [.int (iI 65536), .ref q, .int (iI (((b.take n0).length : Nat) : Int))])), (q, .inl (E.2.1 0, cap, .inl f))]) [0, 2, 1] rfl, hD.sub (ws' := [(x, .inr (0, [.ref en, .ref tx, .ref gr, .ref h, .ref w, .int (iI lc), .int (iI lo)])), (tx, .inr (1, [.int (iI 65536), .ref q, .int (iI (((b.take n0).length : Nat) : Int))])), (q, .inl (E.2.1 0, cap, .inl f))]) [0, 2, 1] (by decide) rfl⟩) (by (try dsimp only); omega) (by (try dsimp only); omega) d_RW_end_32

set_option maxRecDepth 100000 in
set_option maxHeartbeats 4000000 in
theorem cx_RW_end (l : Launch) (htl : ∀ e : Env, l.admits e → e.platform.stackTraces = false) (E : zP) (sz : Nat) (x en tx gr h w q cap : Nat) (lc lo : Int) (f : Nat → Int32) (b : List Nat) (k0 : Int) (hk0 : r32 k0) (hB : zbytes b cap f) (hn : k0 < 0 ∨ ((b.length : Nat) : Int) < k0) : MetX l y_RW_end (.code y_RW_end b_RW_end 2 ( some FieldType.int ) :: zw) { frames := 7, cells := 1, slots := 6, locals := 81 } (zPc E [.ref x, .int (iI k0)] (fun H => H.size = sz ∧ va_P E.1 zcl [(x, .inr (0, [.ref en, .ref tx, .ref gr, .ref h, .ref w, .int (iI lc), .int (iI lo)])), (tx, .inr (1, [.int (iI 65536), .ref q, .int (iI ((b.length : Nat) : Int))])), (q, .inl (E.2.1 0, cap, .inl f))] H ∧ va_D (zOld E) [(x, .inr (0, [.ref en, .ref tx, .ref gr, .ref h, .ref w, .int (iI lc), .int (iI lo)])), (tx, .inr (1, [.int (iI 65536), .ref q, .int (iI ((b.length : Nat) : Int))])), (q, .inl (E.2.1 0, cap, .inl f))] ∧ (True))) (zX "java/lang/IllegalArgumentException" (fun H => va_P E.1 zcl [(x, .inr (0, [.ref en, .ref tx, .ref gr, .ref h, .ref w, .int (iI lc), .int (iI lo)])), (tx, .inr (1, [.int (iI 65536), .ref q, .int (iI ((b.length : Nat) : Int))])), (q, .inl (E.2.1 0, cap, .inl f))] H) (va_A [(x, .inr (0, [.ref en, .ref tx, .ref gr, .ref h, .ref w, .int (iI lc), .int (iI lo)])), (tx, .inr (1, [.int (iI 65536), .ref q, .int (iI ((b.length : Nat) : Int))])), (q, .inl (E.2.1 0, cap, .inl f))] sz)) (1) (6) (va_A [(x, .inr (0, [.ref en, .ref tx, .ref gr, .ref h, .ref w, .int (iI lc), .int (iI lo)])), (tx, .inr (1, [.int (iI 65536), .ref q, .int (iI ((b.length : Nat) : Int))])), (q, .inl (E.2.1 0, cap, .inl f))] sz) := by
  refine zMetX (by decide) (Nat.le_of_ble_eq_true rfl) ?_
  intro p e s m below meth c ls S hr hlk hnm hnh hadm hE ⟨hsz, hP, hDo, hX⟩ hl
  have hx := S.1
  have hb := S.2.1
  have hE0 := hE
  have hl : lv_has ls 2 [(0, .ref x), (1, .int (iI k0))] := hl
  subst hsz
  have hD := hDo.self (sz := s.heap.size)
  generalize hAe : va_A [(x, .inr (0, [.ref en, .ref tx, .ref gr, .ref h, .ref w, .int (iI lc), .int (iI lo)])), (tx, .inr (1, [.int (iI 65536), .ref q, .int (iI ((b.length : Nat) : Int))])), (q, .inl (E.2.1 0, cap, .inl f))] s.heap.size = A at hD ⊢
  have hA : ∀ q : Nat, s.heap.size ≤ q → A q := fun q h => by rw [← hAe]; exact Or.inr h
  have hA0 := zA0 hE hDo hAe
  have hS : va_S A s.heap s.heap [] := va_S.rf
  have hbl := hB.1
  have hbc := hB.2.1
  obtain ⟨hka, hkb⟩ := hk0
  refine lv_iload_n hx hb d_RW_end_0 rfl (lv_at hl 1 rfl) ?_
  refine zi_if_lt hx hb d_RW_end_1 rfl (by omega) (fun h1 => ?_) (fun h1 => ?_)
  · skip
    exact zthrow (names := zexn) S hlk hnh (htl e hadm) (by decide) (by decide) (zown_IllegalArgumentException (args := _) hE) zw_378 zw_379 zw_25 hl.1 d_RW_end_15 d_RW_end_18 d_RW_end_19 d_RW_end_22 (Nat.le_of_ble_eq_true rfl) (Nat.le_of_ble_eq_true rfl) (by (try dsimp only); omega) (by (try dsimp only); omega) (by (try dsimp only); omega) (by (try dsimp only); omega) hS (fun H1 hz1 hk1 => hP.kept (fun k9 x9 h9 => hk1 x9.1 (hP k9 x9 h9).lt))
  · skip
    refine lv_iload_n hx hb d_RW_end_4 rfl (lv_at hl 1 rfl) ?_
    refine lv_aload_n hx hb d_RW_end_5 rfl (lv_at hl 0 rfl) ?_
    refine zgf S hE (ci := 0) rfl i_RW (hP 0 _ rfl) 1 (by decide) zw_230 rfl d_RW_end_6 ?_
    refine zcR (va_runV (As := []) (rest := [.int (iI k0)]) S (c_Row_length l E tx b) ⟨zcwB (n := 0) S zw_258 zw_2 zw_255 (by decide +kernel) rfl rfl ⟨Nat.le_of_ble_eq_true rfl, Nat.le_of_ble_eq_true rfl⟩, S.2.2.2.2 _ zw_256, S.2.2.2.2 _ zw_257⟩ (zPreV hE (hP 1 _ rfl) rfl ⟨_, _, _, _, (hP 1 _ rfl), (hP 2 _ rfl), hB⟩) rfl rfl hl.1 rfl (lv_room (Nat.le_of_ble_eq_true rfl)) d_RW_end_9 ⟨by (try dsimp only); omega, by (try dsimp only); omega⟩) ?_
    refine zi_icmp_le hx hb d_RW_end_12 rfl (by omega) (by omega) (fun h => absurd h (by omega)) (fun h12 => ?_)
    exact zthrow (names := zexn) S hlk hnh (htl e hadm) (by decide) (by decide) (zown_IllegalArgumentException (args := _) hE) zw_378 zw_379 zw_25 hl.1 d_RW_end_15 d_RW_end_18 d_RW_end_19 d_RW_end_22 (Nat.le_of_ble_eq_true rfl) (Nat.le_of_ble_eq_true rfl) (by (try dsimp only); omega) (by (try dsimp only); omega) (by (try dsimp only); omega) (by (try dsimp only); omega) hS (fun H1 hz1 hk1 => hP.kept (fun k9 x9 h9 => hk1 x9.1 (hP k9 x9 h9).lt))

set_option maxRecDepth 100000 in
set_option maxHeartbeats 4000000 in
theorem c_RW_takeText (l : Launch) (E : zP) (sz : Nat) (x en tx gr h w q cap : Nat) (lc lo : Int) (f : Nat → Int32) (b : List Nat) (utf : Bool) (hB : zbytes b cap f) : Met l y_RW_takeText (.code y_RW_takeText b_RW_takeText 2 ( some FieldType.int ) :: zw) { frames := 2, cells := (0), slots := (0), locals := 44 } (zPc E [.ref x] (fun H => H.size = sz ∧ va_P E.1 zcl [(x, .inr (0, [.ref en, .ref tx, .ref gr, .ref h, .ref w, .int (iI lc), .int (iI lo)])), (en, .inr (2, [.int (iI (bN utf))])), (tx, .inr (1, [.int (iI 65536), .ref q, .int (iI ((b.length : Nat) : Int))])), (q, .inl (E.2.1 0, cap, .inl f))] H ∧ va_D (zOld E) [(x, .inr (0, [.ref en, .ref tx, .ref gr, .ref h, .ref w, .int (iI lc), .int (iI lo)])), (en, .inr (2, [.int (iI (bN utf))])), (tx, .inr (1, [.int (iI 65536), .ref q, .int (iI ((b.length : Nat) : Int))])), (q, .inl (E.2.1 0, cap, .inl f))] ∧ (True))) (zW (fun v H => v = some (.int (iI ((sp_cnt utf b : Nat) : Int))) ∧ va_P E.1 zcl [(x, .inr (0, [.ref en, .ref tx, .ref gr, .ref h, .ref w, .int (iI lc), .int (iI lo)])), (en, .inr (2, [.int (iI (bN utf))])), (tx, .inr (1, [.int (iI 65536), .ref q, .int (iI ((([] : List Nat).length : Nat) : Int))])), (q, .inl (E.2.1 0, cap, .inl f))] H ∧ va_D (va_A [(x, .inr (0, [.ref en, .ref tx, .ref gr, .ref h, .ref w, .int (iI lc), .int (iI lo)])), (en, .inr (2, [.int (iI (bN utf))])), (tx, .inr (1, [.int (iI 65536), .ref q, .int (iI ((b.length : Nat) : Int))])), (q, .inl (E.2.1 0, cap, .inl f))] sz) [(x, .inr (0, [.ref en, .ref tx, .ref gr, .ref h, .ref w, .int (iI lc), .int (iI lo)])), (en, .inr (2, [.int (iI (bN utf))])), (tx, .inr (1, [.int (iI 65536), .ref q, .int (iI ((([] : List Nat).length : Nat) : Int))])), (q, .inl (E.2.1 0, cap, .inl f))]) (va_A [(x, .inr (0, [.ref en, .ref tx, .ref gr, .ref h, .ref w, .int (iI lc), .int (iI lo)])), (en, .inr (2, [.int (iI (bN utf))])), (tx, .inr (1, [.int (iI 65536), .ref q, .int (iI ((b.length : Nat) : Int))])), (q, .inl (E.2.1 0, cap, .inl f))] sz)) (0) (0) (va_A [(x, .inr (0, [.ref en, .ref tx, .ref gr, .ref h, .ref w, .int (iI lc), .int (iI lo)])), (en, .inr (2, [.int (iI (bN utf))])), (tx, .inr (1, [.int (iI 65536), .ref q, .int (iI ((b.length : Nat) : Int))])), (q, .inl (E.2.1 0, cap, .inl f))] sz) := by
  refine zMet (by decide) (Nat.le_of_ble_eq_true rfl) ?_
  intro p e s m below meth c ls S hr hlk hnm hE ⟨hsz, hP, hDo, hX⟩ hl
  have hx := S.1
  have hb := S.2.1
  have hE0 := hE
  have hl : lv_has ls 2 [(0, .ref x)] := hl
  subst hsz
  have hD := hDo.self (sz := s.heap.size)
  generalize hAe : va_A [(x, .inr (0, [.ref en, .ref tx, .ref gr, .ref h, .ref w, .int (iI lc), .int (iI lo)])), (en, .inr (2, [.int (iI (bN utf))])), (tx, .inr (1, [.int (iI 65536), .ref q, .int (iI ((b.length : Nat) : Int))])), (q, .inl (E.2.1 0, cap, .inl f))] s.heap.size = A at hD ⊢
  have hA : ∀ q : Nat, s.heap.size ≤ q → A q := fun q h => by rw [← hAe]; exact Or.inr h
  have hA0 := zA0 hE hDo hAe
  have hS : va_S A s.heap s.heap [] := va_S.rf
  have hbl := hB.1
  have hbc := hB.2.1
  refine lv_aload_n hx hb d_RW_takeText_0 rfl (lv_at hl 0 rfl) ?_
  refine zgf S hE (ci := 0) rfl i_RW (hP 0 _ rfl) 0 (by decide) zw_229 rfl d_RW_takeText_1 ?_
  refine lv_aload_n hx hb d_RW_takeText_4 rfl (lv_at hl 0 rfl) ?_
  refine zgf S hE (ci := 0) rfl i_RW (hP 0 _ rfl) 1 (by decide) zw_230 rfl d_RW_takeText_5 ?_
  refine zcR (va_runV (As := [.ref tx]) (rest := []) S (c_Encoding_charactersIn l E en tx utf b) ⟨zcwB (n := 1) S zw_493 zw_7 zw_490 (by decide +kernel) rfl rfl ⟨Nat.le_of_ble_eq_true rfl, Nat.le_of_ble_eq_true rfl⟩, S.2.2.2.2 _ zw_491, S.2.2.2.2 _ zw_492⟩ (zPreV hE (hP 1 _ rfl) rfl ⟨(hP 1 _ rfl), ⟨_, _, _, _, (hP 2 _ rfl), (hP 3 _ rfl), hB⟩⟩) rfl rfl hl.1 rfl (lv_room (Nat.le_of_ble_eq_true rfl)) d_RW_takeText_8 ⟨by (try dsimp only); omega, by (try dsimp only); omega⟩) ?_
  refine lv_istore_n (lv' := [(1, .int (iI ((sp_cnt utf b : Nat) : Int))), (0, .ref x)]) hx hb d_RW_takeText_11 rfl hl (by decide) rfl (fun ls hl => ?_)
  refine lv_aload_n hx hb d_RW_takeText_12 rfl (lv_at hl 1 rfl) ?_
  refine zgf S hE (ci := 0) rfl i_RW (hP 0 _ rfl) 1 (by decide) zw_230 rfl d_RW_takeText_13 ?_
  refine zi_iconst hx hb d_RW_takeText_16 ?_
  have hPc := hP.sub (ws' := [(tx, .inr (1, [.int (iI 65536), .ref q, .int (iI ((b.length : Nat) : Int))]))]) [2] rfl
  have hDc := hD.sub (ws' := [(tx, .inr (1, [.int (iI 65536), .ref q, .int (iI ((b.length : Nat) : Int))]))]) [2] (by decide) rfl
  have hFc := va_free (wc := [(tx, .inr (1, [.int (iI 65536), .ref q, .int (iI ((b.length : Nat) : Int))]))]) hD hS hA [2] rfl
  refine zcW (va_runV (As := [.int (iI 0)]) (rest := []) S (c_Row_cutTo l E _ tx q b.length 65536 (0 : Int) (by omega) (by omega)) ⟨zcwB (n := 1) S zw_396 zw_2 zw_393 (by decide +kernel) rfl rfl ⟨Nat.le_of_ble_eq_true rfl, Nat.le_of_ble_eq_true rfl⟩, S.2.2.2.2 _ zw_394, S.2.2.2.2 _ zw_395⟩ (zPreV hE (hP 2 _ rfl) rfl ⟨rfl, hPc, hDc.weaken (fun _ _ _ h => hA0 _ h), trivial⟩) rfl rfl hl.1 rfl (lv_room (Nat.le_of_ble_eq_true rfl)) d_RW_takeText_17 ⟨by (try dsimp only); omega, by (try dsimp only); omega⟩) hS (fun q _ h => hFc q h) hFc (fun v H locs hq hz1 hk1 hS => ?_)
  obtain ⟨rfl, hP1, hD1⟩ := hq
  obtain ⟨hP, hD⟩ := va_join (wr := [(x, .inr (0, [.ref en, .ref tx, .ref gr, .ref h, .ref w, .int (iI lc), .int (iI lo)])), (en, .inr (2, [.int (iI (bN utf))])), (q, .inl (E.2.1 0, cap, .inl f))]) (w1 := [(tx, .inr (1, [.int (iI 65536), .ref q, .int (iI (if 0 ≤ (0 : Int) ∧ (0 : Int) < ((b.length : Nat) : Int) then (0 : Int) else ((b.length : Nat) : Int)))]))]) hP hD [2] [0, 1, 3] rfl rfl (by decide) (by decide) hk1 hFc hP1 hD1
  have hP : va_P E.1 zcl [(x, .inr (0, [.ref en, .ref tx, .ref gr, .ref h, .ref w, .int (iI lc), .int (iI lo)])), (en, .inr (2, [.int (iI (bN utf))])), (q, .inl (E.2.1 0, cap, .inl f)), (tx, .inr (1, [.int (iI 65536), .ref q, .int (iI (if 0 ≤ (0 : Int) ∧ (0 : Int) < ((b.length : Nat) : Int) then (0 : Int) else ((b.length : Nat) : Int)))]))] H := hP
  have hD : va_D A [(x, .inr (0, [.ref en, .ref tx, .ref gr, .ref h, .ref w, .int (iI lc), .int (iI lo)])), (en, .inr (2, [.int (iI (bN utf))])), (q, .inl (E.2.1 0, cap, .inl f)), (tx, .inr (1, [.int (iI 65536), .ref q, .int (iI (if 0 ≤ (0 : Int) ∧ (0 : Int) < ((b.length : Nat) : Int) then (0 : Int) else ((b.length : Nat) : Int)))]))] := hD
  have hE := hE0.at hS hA0
  have hcut : (if 0 ≤ (0 : Int) ∧ (0 : Int) < ((b.length : Nat) : Int) then (0 : Int) else ((b.length : Nat) : Int)) = ((([] : List Nat).length : Nat) : Int) := by show _ = (0 : Int); split <;> omega
  rw [hcut] at hP hD
  refine lv_iload_n hx hb d_RW_takeText_20 rfl (lv_at hl 0 rfl) ?_
  exact zwi S hr hlk hS (⟨rfl, hP.sub (ws' := [(x, .inr (0, [.ref en, .ref tx, .ref gr, .ref h, .ref w, .int (iI lc), .int (iI lo)])), (en, .inr (2, [.int (iI (bN utf))])), (tx, .inr (1, [.int (iI 65536), .ref q, .int (iI ((([] : List Nat).length : Nat) : Int))])), (q, .inl (E.2.1 0, cap, .inl f))]) [0, 1, 3, 2] rfl, hD.sub (ws' := [(x, .inr (0, [.ref en, .ref tx, .ref gr, .ref h, .ref w, .int (iI lc), .int (iI lo)])), (en, .inr (2, [.int (iI (bN utf))])), (tx, .inr (1, [.int (iI 65536), .ref q, .int (iI ((([] : List Nat).length : Nat) : Int))])), (q, .inl (E.2.1 0, cap, .inl f))]) [0, 1, 3, 2] (by decide) rfl⟩) (by (try dsimp only); omega) (by (try dsimp only); omega) d_RW_takeText_21
