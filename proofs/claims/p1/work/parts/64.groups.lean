set_option maxRecDepth 100000 in
set_option maxHeartbeats 4000000 in
theorem c_RW_groups0 (l : Launch) (E : zP) (sz : Nat) (x en tx gr h w : Nat) (lc lo : Int) (ta sa al mk : Nat) (gt ng : Int) (fs : Nat → Int32) (ea q : Nat) (md : Int) (b : List Nat) (hbl : b.length < 2147483648) (n0 : Nat) (hn0 : n0 ≤ 99) : Met l y_RW_groups (.code y_RW_groups b_RW_groups 2 ( Option.none : Option FieldType ) :: zw) { frames := 2, cells := (0), slots := (0), locals := 45 } (zPc E [.ref x, .int (iI ((n0 : Nat) : Int))] (fun H => H.size = sz ∧ va_P E.1 zcl [(x, .inr (0, [.ref en, .ref tx, .ref gr, .ref h, .ref w, .int (iI lc), .int (iI lo)])), (gr, .inr (5, [.ref ta, .ref sa, .ref al, .ref mk, .int (iI gt), .int (iI ng)])), (sa, .inl (E.2.1 1, 100, .inl fs)), (al, .inr (9, [.ref ea, .int (iI 0), .int (iI md)])), (mk, .inr (1, [.int (iI 65536), .ref q, .int (iI ((b.length : Nat) : Int))]))] H ∧ va_D (zOld E) [(x, .inr (0, [.ref en, .ref tx, .ref gr, .ref h, .ref w, .int (iI lc), .int (iI lo)])), (gr, .inr (5, [.ref ta, .ref sa, .ref al, .ref mk, .int (iI gt), .int (iI ng)])), (sa, .inl (E.2.1 1, 100, .inl fs)), (al, .inr (9, [.ref ea, .int (iI 0), .int (iI md)])), (mk, .inr (1, [.int (iI 65536), .ref q, .int (iI ((b.length : Nat) : Int))]))] ∧ (True))) (zW (fun v H => v = none ∧ va_P E.1 zcl [(x, .inr (0, [.ref en, .ref tx, .ref gr, .ref h, .ref w, .int (iI lc), .int (iI lo)])), (gr, .inr (5, [.ref ta, .ref sa, .ref al, .ref mk, .int (iI ((n0 : Nat) : Int)), .int (iI ((0 : Nat) : Int))])), (sa, .inl (E.2.1 1, 100, .inl (fun _ => iI (bN false)))), (al, .inr (9, [.ref ea, .int (iI 0), .int (iI (md + 1))])), (mk, .inr (1, [.int (iI 65536), .ref q, .int (iI ((([] : List Nat).length : Nat) : Int))]))] H ∧ va_D (va_A [(x, .inr (0, [.ref en, .ref tx, .ref gr, .ref h, .ref w, .int (iI lc), .int (iI lo)])), (gr, .inr (5, [.ref ta, .ref sa, .ref al, .ref mk, .int (iI gt), .int (iI ng)])), (sa, .inl (E.2.1 1, 100, .inl fs)), (al, .inr (9, [.ref ea, .int (iI 0), .int (iI md)])), (mk, .inr (1, [.int (iI 65536), .ref q, .int (iI ((b.length : Nat) : Int))]))] sz) [(x, .inr (0, [.ref en, .ref tx, .ref gr, .ref h, .ref w, .int (iI lc), .int (iI lo)])), (gr, .inr (5, [.ref ta, .ref sa, .ref al, .ref mk, .int (iI ((n0 : Nat) : Int)), .int (iI ((0 : Nat) : Int))])), (sa, .inl (E.2.1 1, 100, .inl (fun _ => iI (bN false)))), (al, .inr (9, [.ref ea, .int (iI 0), .int (iI (md + 1))])), (mk, .inr (1, [.int (iI 65536), .ref q, .int (iI ((([] : List Nat).length : Nat) : Int))]))]) (va_A [(x, .inr (0, [.ref en, .ref tx, .ref gr, .ref h, .ref w, .int (iI lc), .int (iI lo)])), (gr, .inr (5, [.ref ta, .ref sa, .ref al, .ref mk, .int (iI gt), .int (iI ng)])), (sa, .inl (E.2.1 1, 100, .inl fs)), (al, .inr (9, [.ref ea, .int (iI 0), .int (iI md)])), (mk, .inr (1, [.int (iI 65536), .ref q, .int (iI ((b.length : Nat) : Int))]))] sz)) (0) (0) (va_A [(x, .inr (0, [.ref en, .ref tx, .ref gr, .ref h, .ref w, .int (iI lc), .int (iI lo)])), (gr, .inr (5, [.ref ta, .ref sa, .ref al, .ref mk, .int (iI gt), .int (iI ng)])), (sa, .inl (E.2.1 1, 100, .inl fs)), (al, .inr (9, [.ref ea, .int (iI 0), .int (iI md)])), (mk, .inr (1, [.int (iI 65536), .ref q, .int (iI ((b.length : Nat) : Int))]))] sz) := by
  refine zMet (by decide) (Nat.le_of_ble_eq_true rfl) ?_
  intro p e s m below meth c ls S hr hlk hnm hE ⟨hsz, hP, hDo, hX⟩ hl
  have hx := S.1
  have hb := S.2.1
  have hE0 := hE
  have hl : lv_has ls 2 [(0, .ref x), (1, .int (iI ((n0 : Nat) : Int)))] := hl
  subst hsz
  have hD := hDo.self (sz := s.heap.size)
  generalize hAe : va_A [(x, .inr (0, [.ref en, .ref tx, .ref gr, .ref h, .ref w, .int (iI lc), .int (iI lo)])), (gr, .inr (5, [.ref ta, .ref sa, .ref al, .ref mk, .int (iI gt), .int (iI ng)])), (sa, .inl (E.2.1 1, 100, .inl fs)), (al, .inr (9, [.ref ea, .int (iI 0), .int (iI md)])), (mk, .inr (1, [.int (iI 65536), .ref q, .int (iI ((b.length : Nat) : Int))]))] s.heap.size = A at hD ⊢
  have hA : ∀ q : Nat, s.heap.size ≤ q → A q := fun q h => by rw [← hAe]; exact Or.inr h
  have hA0 := zA0 hE hDo hAe
  have hS : va_S A s.heap s.heap [] := va_S.rf
  refine lv_iload_n hx hb d_RW_groups_0 rfl (lv_at hl 1 rfl) ?_
  refine zi_if_lt hx hb d_RW_groups_1 rfl (by omega) (fun h1 => absurd h1 (by omega)) (fun h1 => ?_)
  refine lv_iload_n hx hb d_RW_groups_4 rfl (lv_at hl 1 rfl) ?_
  refine zi_bipush hx hb d_RW_groups_5 (by decide) ?_
  refine zi_icmp_le hx hb d_RW_groups_7 rfl (by omega) (by omega) (fun h7 => ?_) (fun h => absurd h (by omega))
  refine lv_aload_n hx hb d_RW_groups_18 rfl (lv_at hl 0 rfl) ?_
  refine zgf S hE (ci := 0) rfl i_RW (hP 0 _ rfl) 2 (by decide) zw_231 rfl d_RW_groups_19 ?_
  refine lv_iload_n hx hb d_RW_groups_22 rfl (lv_at hl 1 rfl) ?_
  have hPc := hP.sub (ws' := [(gr, .inr (5, [.ref ta, .ref sa, .ref al, .ref mk, .int (iI gt), .int (iI ng)])), (sa, .inl (E.2.1 1, 100, .inl fs)), (al, .inr (9, [.ref ea, .int (iI 0), .int (iI md)])), (mk, .inr (1, [.int (iI 65536), .ref q, .int (iI ((b.length : Nat) : Int))]))]) [1, 2, 3, 4] rfl
  have hDc := hD.sub (ws' := [(gr, .inr (5, [.ref ta, .ref sa, .ref al, .ref mk, .int (iI gt), .int (iI ng)])), (sa, .inl (E.2.1 1, 100, .inl fs)), (al, .inr (9, [.ref ea, .int (iI 0), .int (iI md)])), (mk, .inr (1, [.int (iI 65536), .ref q, .int (iI ((b.length : Nat) : Int))]))]) [1, 2, 3, 4] (by decide) rfl
  have hFc := va_free (wc := [(gr, .inr (5, [.ref ta, .ref sa, .ref al, .ref mk, .int (iI gt), .int (iI ng)])), (sa, .inl (E.2.1 1, 100, .inl fs)), (al, .inr (9, [.ref ea, .int (iI 0), .int (iI md)])), (mk, .inr (1, [.int (iI 65536), .ref q, .int (iI ((b.length : Nat) : Int))]))]) hD hS hA [1, 2, 3, 4] rfl
  refine zcW (va_runV (As := [.int (iI ((n0 : Nat) : Int))]) (rest := []) S (c_Groups_startAnew0 l E _ gr ta sa al mk gt ng fs ea q md b hbl n0 hn0) ⟨zcwB (n := 1) S zw_407 zw_3 zw_404 (by decide +kernel) rfl rfl ⟨Nat.le_of_ble_eq_true rfl, Nat.le_of_ble_eq_true rfl⟩, S.2.2.2.2 _ zw_405, S.2.2.2.2 _ zw_406⟩ (zPreV hE (hP 1 _ rfl) rfl ⟨rfl, hPc, hDc.weaken (fun _ _ _ h => hA0 _ h), trivial⟩) rfl rfl hl.1 rfl (lv_room (Nat.le_of_ble_eq_true rfl)) d_RW_groups_23 ⟨by (try dsimp only); omega, by (try dsimp only); omega⟩) hS (fun q _ h => hFc q h) hFc (fun v H locs hq hz1 hk1 hS => ?_)
  obtain ⟨rfl, hP1, hD1⟩ := hq
  obtain ⟨hP, hD⟩ := va_join (wr := [(x, .inr (0, [.ref en, .ref tx, .ref gr, .ref h, .ref w, .int (iI lc), .int (iI lo)]))]) (w1 := [(gr, .inr (5, [.ref ta, .ref sa, .ref al, .ref mk, .int (iI ((n0 : Nat) : Int)), .int (iI ((0 : Nat) : Int))])), (sa, .inl (E.2.1 1, 100, .inl (fun _ => iI (bN false)))), (al, .inr (9, [.ref ea, .int (iI 0), .int (iI (md + 1))])), (mk, .inr (1, [.int (iI 65536), .ref q, .int (iI ((([] : List Nat).length : Nat) : Int))]))]) hP hD [1, 2, 3, 4] [0] rfl rfl (by decide) (by decide) hk1 hFc hP1 hD1
  have hP : va_P E.1 zcl [(x, .inr (0, [.ref en, .ref tx, .ref gr, .ref h, .ref w, .int (iI lc), .int (iI lo)])), (gr, .inr (5, [.ref ta, .ref sa, .ref al, .ref mk, .int (iI ((n0 : Nat) : Int)), .int (iI ((0 : Nat) : Int))])), (sa, .inl (E.2.1 1, 100, .inl (fun _ => iI (bN false)))), (al, .inr (9, [.ref ea, .int (iI 0), .int (iI (md + 1))])), (mk, .inr (1, [.int (iI 65536), .ref q, .int (iI ((([] : List Nat).length : Nat) : Int))]))] H := hP
  have hD : va_D A [(x, .inr (0, [.ref en, .ref tx, .ref gr, .ref h, .ref w, .int (iI lc), .int (iI lo)])), (gr, .inr (5, [.ref ta, .ref sa, .ref al, .ref mk, .int (iI ((n0 : Nat) : Int)), .int (iI ((0 : Nat) : Int))])), (sa, .inl (E.2.1 1, 100, .inl (fun _ => iI (bN false)))), (al, .inr (9, [.ref ea, .int (iI 0), .int (iI (md + 1))])), (mk, .inr (1, [.int (iI 65536), .ref q, .int (iI ((([] : List Nat).length : Nat) : Int))]))] := hD
  have hE := hE0.at hS hA0
  exact zwv S hr hlk hS (⟨rfl, hP.sub (ws' := [(x, .inr (0, [.ref en, .ref tx, .ref gr, .ref h, .ref w, .int (iI lc), .int (iI lo)])), (gr, .inr (5, [.ref ta, .ref sa, .ref al, .ref mk, .int (iI ((n0 : Nat) : Int)), .int (iI ((0 : Nat) : Int))])), (sa, .inl (E.2.1 1, 100, .inl (fun _ => iI (bN false)))), (al, .inr (9, [.ref ea, .int (iI 0), .int (iI (md + 1))])), (mk, .inr (1, [.int (iI 65536), .ref q, .int (iI ((([] : List Nat).length : Nat) : Int))]))]) [0, 1, 2, 3, 4] rfl, hD.sub (ws' := [(x, .inr (0, [.ref en, .ref tx, .ref gr, .ref h, .ref w, .int (iI lc), .int (iI lo)])), (gr, .inr (5, [.ref ta, .ref sa, .ref al, .ref mk, .int (iI ((n0 : Nat) : Int)), .int (iI ((0 : Nat) : Int))])), (sa, .inl (E.2.1 1, 100, .inl (fun _ => iI (bN false)))), (al, .inr (9, [.ref ea, .int (iI 0), .int (iI (md + 1))])), (mk, .inr (1, [.int (iI 65536), .ref q, .int (iI ((([] : List Nat).length : Nat) : Int))]))]) [0, 1, 2, 3, 4] (by decide) rfl⟩) (by (try dsimp only); omega) (by (try dsimp only); omega) d_RW_groups_26

set_option maxRecDepth 100000 in
set_option maxHeartbeats 4000000 in
theorem c_RW_groups1 (l : Launch) (E : zP) (sz : Nat) (x en tx gr h w : Nat) (lc lo : Int) (ta sa al mk : Nat) (gt ng : Int) (fs : Nat → Int32) (ea q : Nat) (md : Int) (b : List Nat) (hbl : b.length < 2147483648) (n0 : Nat) (hn0 : n0 ≤ 99) (n cap : Nat) (f : Nat → Option Nat) (hn : n ≤ cap) (hcap : cap < 2147483648) : Met l y_RW_groups (.code y_RW_groups b_RW_groups 2 ( Option.none : Option FieldType ) :: zw) { frames := 2, cells := (0), slots := (0), locals := 45 } (zPc E [.ref x, .int (iI ((n0 : Nat) : Int))] (fun H => H.size = sz ∧ va_P E.1 zcl [(x, .inr (0, [.ref en, .ref tx, .ref gr, .ref h, .ref w, .int (iI lc), .int (iI lo)])), (gr, .inr (5, [.ref ta, .ref sa, .ref al, .ref mk, .int (iI gt), .int (iI ng)])), (sa, .inl (E.2.1 1, 100, .inl fs)), (al, .inr (9, [.ref ea, .int (iI ((n : Nat) : Int)), .int (iI md)])), (mk, .inr (1, [.int (iI 65536), .ref q, .int (iI ((b.length : Nat) : Int))])), (ea, .inl (E.2.1 5, cap, .inr (.inr (.inr (.inr f)))))] H ∧ va_D (zOld E) [(x, .inr (0, [.ref en, .ref tx, .ref gr, .ref h, .ref w, .int (iI lc), .int (iI lo)])), (gr, .inr (5, [.ref ta, .ref sa, .ref al, .ref mk, .int (iI gt), .int (iI ng)])), (sa, .inl (E.2.1 1, 100, .inl fs)), (al, .inr (9, [.ref ea, .int (iI ((n : Nat) : Int)), .int (iI md)])), (mk, .inr (1, [.int (iI 65536), .ref q, .int (iI ((b.length : Nat) : Int))])), (ea, .inl (E.2.1 5, cap, .inr (.inr (.inr (.inr f)))))] ∧ (True))) (zW (fun v H => v = none ∧ ∃ f2 : Nat → Option Nat, va_P E.1 zcl [(x, .inr (0, [.ref en, .ref tx, .ref gr, .ref h, .ref w, .int (iI lc), .int (iI lo)])), (gr, .inr (5, [.ref ta, .ref sa, .ref al, .ref mk, .int (iI ((n0 : Nat) : Int)), .int (iI ((0 : Nat) : Int))])), (sa, .inl (E.2.1 1, 100, .inl (fun _ => iI (bN false)))), (al, .inr (9, [.ref ea, .int (iI 0), .int (iI (md + 1))])), (mk, .inr (1, [.int (iI 65536), .ref q, .int (iI ((([] : List Nat).length : Nat) : Int))])), (ea, .inl (E.2.1 5, cap, .inr (.inr (.inr (.inr f2)))))] H ∧ va_D (va_A [(x, .inr (0, [.ref en, .ref tx, .ref gr, .ref h, .ref w, .int (iI lc), .int (iI lo)])), (gr, .inr (5, [.ref ta, .ref sa, .ref al, .ref mk, .int (iI gt), .int (iI ng)])), (sa, .inl (E.2.1 1, 100, .inl fs)), (al, .inr (9, [.ref ea, .int (iI ((n : Nat) : Int)), .int (iI md)])), (mk, .inr (1, [.int (iI 65536), .ref q, .int (iI ((b.length : Nat) : Int))])), (ea, .inl (E.2.1 5, cap, .inr (.inr (.inr (.inr f)))))] sz) [(x, .inr (0, [.ref en, .ref tx, .ref gr, .ref h, .ref w, .int (iI lc), .int (iI lo)])), (gr, .inr (5, [.ref ta, .ref sa, .ref al, .ref mk, .int (iI ((n0 : Nat) : Int)), .int (iI ((0 : Nat) : Int))])), (sa, .inl (E.2.1 1, 100, .inl (fun _ => iI (bN false)))), (al, .inr (9, [.ref ea, .int (iI 0), .int (iI (md + 1))])), (mk, .inr (1, [.int (iI 65536), .ref q, .int (iI ((([] : List Nat).length : Nat) : Int))])), (ea, .inl (E.2.1 5, cap, .inr (.inr (.inr (.inr f2)))))]) (va_A [(x, .inr (0, [.ref en, .ref tx, .ref gr, .ref h, .ref w, .int (iI lc), .int (iI lo)])), (gr, .inr (5, [.ref ta, .ref sa, .ref al, .ref mk, .int (iI gt), .int (iI ng)])), (sa, .inl (E.2.1 1, 100, .inl fs)), (al, .inr (9, [.ref ea, .int (iI ((n : Nat) : Int)), .int (iI md)])), (mk, .inr (1, [.int (iI 65536), .ref q, .int (iI ((b.length : Nat) : Int))])), (ea, .inl (E.2.1 5, cap, .inr (.inr (.inr (.inr f)))))] sz)) (0) (0) (va_A [(x, .inr (0, [.ref en, .ref tx, .ref gr, .ref h, .ref w, .int (iI lc), .int (iI lo)])), (gr, .inr (5, [.ref ta, .ref sa, .ref al, .ref mk, .int (iI gt), .int (iI ng)])), (sa, .inl (E.2.1 1, 100, .inl fs)), (al, .inr (9, [.ref ea, .int (iI ((n : Nat) : Int)), .int (iI md)])), (mk, .inr (1, [.int (iI 65536), .ref q, .int (iI ((b.length : Nat) : Int))])), (ea, .inl (E.2.1 5, cap, .inr (.inr (.inr (.inr f)))))] sz) := by
  refine zMet (by decide) (Nat.le_of_ble_eq_true rfl) ?_
  intro p e s m below meth c ls S hr hlk hnm hE ⟨hsz, hP, hDo, hX⟩ hl
  have hx := S.1
  have hb := S.2.1
  have hE0 := hE
  have hl : lv_has ls 2 [(0, .ref x), (1, .int (iI ((n0 : Nat) : Int)))] := hl
  subst hsz
  have hD := hDo.self (sz := s.heap.size)
  generalize hAe : va_A [(x, .inr (0, [.ref en, .ref tx, .ref gr, .ref h, .ref w, .int (iI lc), .int (iI lo)])), (gr, .inr (5, [.ref ta, .ref sa, .ref al, .ref mk, .int (iI gt), .int (iI ng)])), (sa, .inl (E.2.1 1, 100, .inl fs)), (al, .inr (9, [.ref ea, .int (iI ((n : Nat) : Int)), .int (iI md)])), (mk, .inr (1, [.int (iI 65536), .ref q, .int (iI ((b.length : Nat) : Int))])), (ea, .inl (E.2.1 5, cap, .inr (.inr (.inr (.inr f)))))] s.heap.size = A at hD ⊢
  have hA : ∀ q : Nat, s.heap.size ≤ q → A q := fun q h => by rw [← hAe]; exact Or.inr h
  have hA0 := zA0 hE hDo hAe
  have hS : va_S A s.heap s.heap [] := va_S.rf
  refine lv_iload_n hx hb d_RW_groups_0 rfl (lv_at hl 1 rfl) ?_
  refine zi_if_lt hx hb d_RW_groups_1 rfl (by omega) (fun h1 => absurd h1 (by omega)) (fun h1 => ?_)
  refine lv_iload_n hx hb d_RW_groups_4 rfl (lv_at hl 1 rfl) ?_
  refine zi_bipush hx hb d_RW_groups_5 (by decide) ?_
  refine zi_icmp_le hx hb d_RW_groups_7 rfl (by omega) (by omega) (fun h7 => ?_) (fun h => absurd h (by omega))
  refine lv_aload_n hx hb d_RW_groups_18 rfl (lv_at hl 0 rfl) ?_
  refine zgf S hE (ci := 0) rfl i_RW (hP 0 _ rfl) 2 (by decide) zw_231 rfl d_RW_groups_19 ?_
  refine lv_iload_n hx hb d_RW_groups_22 rfl (lv_at hl 1 rfl) ?_
  have hPc := hP.sub (ws' := [(gr, .inr (5, [.ref ta, .ref sa, .ref al, .ref mk, .int (iI gt), .int (iI ng)])), (sa, .inl (E.2.1 1, 100, .inl fs)), (al, .inr (9, [.ref ea, .int (iI ((n : Nat) : Int)), .int (iI md)])), (mk, .inr (1, [.int (iI 65536), .ref q, .int (iI ((b.length : Nat) : Int))])), (ea, .inl (E.2.1 5, cap, .inr (.inr (.inr (.inr f)))))]) [1, 2, 3, 4, 5] rfl
  have hDc := hD.sub (ws' := [(gr, .inr (5, [.ref ta, .ref sa, .ref al, .ref mk, .int (iI gt), .int (iI ng)])), (sa, .inl (E.2.1 1, 100, .inl fs)), (al, .inr (9, [.ref ea, .int (iI ((n : Nat) : Int)), .int (iI md)])), (mk, .inr (1, [.int (iI 65536), .ref q, .int (iI ((b.length : Nat) : Int))])), (ea, .inl (E.2.1 5, cap, .inr (.inr (.inr (.inr f)))))]) [1, 2, 3, 4, 5] (by decide) rfl
  have hFc := va_free (wc := [(gr, .inr (5, [.ref ta, .ref sa, .ref al, .ref mk, .int (iI gt), .int (iI ng)])), (sa, .inl (E.2.1 1, 100, .inl fs)), (al, .inr (9, [.ref ea, .int (iI ((n : Nat) : Int)), .int (iI md)])), (mk, .inr (1, [.int (iI 65536), .ref q, .int (iI ((b.length : Nat) : Int))])), (ea, .inl (E.2.1 5, cap, .inr (.inr (.inr (.inr f)))))]) hD hS hA [1, 2, 3, 4, 5] rfl
  refine zcW (va_runV (As := [.int (iI ((n0 : Nat) : Int))]) (rest := []) S (c_Groups_startAnew1 l E _ gr ta sa al mk gt ng fs ea q md b hbl n0 hn0 n cap f hn hcap) ⟨zcwB (n := 1) S zw_407 zw_3 zw_404 (by decide +kernel) rfl rfl ⟨Nat.le_of_ble_eq_true rfl, Nat.le_of_ble_eq_true rfl⟩, S.2.2.2.2 _ zw_405, S.2.2.2.2 _ zw_406⟩ (zPreV hE (hP 1 _ rfl) rfl ⟨rfl, hPc, hDc.weaken (fun _ _ _ h => hA0 _ h), trivial⟩) rfl rfl hl.1 rfl (lv_room (Nat.le_of_ble_eq_true rfl)) d_RW_groups_23 ⟨by (try dsimp only); omega, by (try dsimp only); omega⟩) hS (fun q _ h => hFc q h) hFc (fun v H locs hq hz1 hk1 hS => ?_)
  obtain ⟨rfl, f2, hP1, hD1⟩ := hq
  obtain ⟨hP, hD⟩ := va_join (wr := [(x, .inr (0, [.ref en, .ref tx, .ref gr, .ref h, .ref w, .int (iI lc), .int (iI lo)]))]) (w1 := [(gr, .inr (5, [.ref ta, .ref sa, .ref al, .ref mk, .int (iI ((n0 : Nat) : Int)), .int (iI ((0 : Nat) : Int))])), (sa, .inl (E.2.1 1, 100, .inl (fun _ => iI (bN false)))), (al, .inr (9, [.ref ea, .int (iI 0), .int (iI (md + 1))])), (mk, .inr (1, [.int (iI 65536), .ref q, .int (iI ((([] : List Nat).length : Nat) : Int))])), (ea, .inl (E.2.1 5, cap, .inr (.inr (.inr (.inr f2)))))]) hP hD [1, 2, 3, 4, 5] [0] rfl rfl (by decide) (by decide) hk1 hFc hP1 hD1
  have hP : va_P E.1 zcl [(x, .inr (0, [.ref en, .ref tx, .ref gr, .ref h, .ref w, .int (iI lc), .int (iI lo)])), (gr, .inr (5, [.ref ta, .ref sa, .ref al, .ref mk, .int (iI ((n0 : Nat) : Int)), .int (iI ((0 : Nat) : Int))])), (sa, .inl (E.2.1 1, 100, .inl (fun _ => iI (bN false)))), (al, .inr (9, [.ref ea, .int (iI 0), .int (iI (md + 1))])), (mk, .inr (1, [.int (iI 65536), .ref q, .int (iI ((([] : List Nat).length : Nat) : Int))])), (ea, .inl (E.2.1 5, cap, .inr (.inr (.inr (.inr f2)))))] H := hP
  have hD : va_D A [(x, .inr (0, [.ref en, .ref tx, .ref gr, .ref h, .ref w, .int (iI lc), .int (iI lo)])), (gr, .inr (5, [.ref ta, .ref sa, .ref al, .ref mk, .int (iI ((n0 : Nat) : Int)), .int (iI ((0 : Nat) : Int))])), (sa, .inl (E.2.1 1, 100, .inl (fun _ => iI (bN false)))), (al, .inr (9, [.ref ea, .int (iI 0), .int (iI (md + 1))])), (mk, .inr (1, [.int (iI 65536), .ref q, .int (iI ((([] : List Nat).length : Nat) : Int))])), (ea, .inl (E.2.1 5, cap, .inr (.inr (.inr (.inr f2)))))] := hD
  have hE := hE0.at hS hA0
  exact zwv S hr hlk hS (⟨rfl, f2, hP.sub (ws' := [(x, .inr (0, [.ref en, .ref tx, .ref gr, .ref h, .ref w, .int (iI lc), .int (iI lo)])), (gr, .inr (5, [.ref ta, .ref sa, .ref al, .ref mk, .int (iI ((n0 : Nat) : Int)), .int (iI ((0 : Nat) : Int))])), (sa, .inl (E.2.1 1, 100, .inl (fun _ => iI (bN false)))), (al, .inr (9, [.ref ea, .int (iI 0), .int (iI (md + 1))])), (mk, .inr (1, [.int (iI 65536), .ref q, .int (iI ((([] : List Nat).length : Nat) : Int))])), (ea, .inl (E.2.1 5, cap, .inr (.inr (.inr (.inr f2)))))]) [0, 1, 2, 3, 4, 5] rfl, hD.sub (ws' := [(x, .inr (0, [.ref en, .ref tx, .ref gr, .ref h, .ref w, .int (iI lc), .int (iI lo)])), (gr, .inr (5, [.ref ta, .ref sa, .ref al, .ref mk, .int (iI ((n0 : Nat) : Int)), .int (iI ((0 : Nat) : Int))])), (sa, .inl (E.2.1 1, 100, .inl (fun _ => iI (bN false)))), (al, .inr (9, [.ref ea, .int (iI 0), .int (iI (md + 1))])), (mk, .inr (1, [.int (iI 65536), .ref q, .int (iI ((([] : List Nat).length : Nat) : Int))])), (ea, .inl (E.2.1 5, cap, .inr (.inr (.inr (.inr f2)))))]) [0, 1, 2, 3, 4, 5] (by decide) rfl⟩) (by (try dsimp only); omega) (by (try dsimp only); omega) d_RW_groups_26

set_option maxRecDepth 100000 in
set_option maxHeartbeats 4000000 in
theorem c2_RW_groups (l : Launch) (E : zP) (own : Bool) (nn : Nat) (ad : Nat → Nat) (en : Nat → va_E) (S : zSp) (C : zCp) (sz : Nat) (n0 : Nat) (hn0 : n0 ≤ 99) : Met l y_RW_groups (.code y_RW_groups b_RW_groups 2 ( Option.none : Option FieldType ) :: zw) { frames := 2, cells := 0, slots := 0, locals := 45 } (zPc E [.ref (ad 0), .int (iI ((n0 : Nat) : Int))] (fun H => H.size = sz ∧ zSt E own nn ad en S C H)) (zW (fun v H => ∃ (ad' : Nat → Nat) (en' : Nat → va_E), ad' 0 = ad 0 ∧ zFr (zRo own nn) ad sz (zRo own 0) ad' ∧ v = none ∧ zSt E own 0 ad' en' (S.1, S.2.1, ((n0, fun _ => none, [], []), 0), S.2.2.2) C H) (zAo (zRo own nn) ad sz)) (0) (0) (zAo (zRo own nn) ad sz) := by
  refine zMet_use (fun U hE hp => ?_)
  obtain ⟨hsz, hst⟩ := hp
  subst hsz
  have hst0 := hst
  obtain ⟨hL, hso, s0, s1, s7, ⟨⟨f, t1, t2, hB, hF⟩, hc, hl⟩, so, s5, s6, g4, g11, g12, grow, ⟨fm, m1, m2, hBm, hFm⟩, gmo, g99, glist⟩ := hst
  have hgr := zgrp_of (Z := fun _ => True) hL hst0.2.2.2.2.2.2.2.2.2 (fun _ _ _ => trivial) (fun ho => ⟨trivial, (hso ho).2⟩)
  obtain ⟨md, lcap, lf, g13, g14, g14n⟩ := glist.1
  by_cases h0 : nn = 0
  · rw [h0] at g13
    have hw : ([0, 4, 12, 13, 15] : List Nat).map (fun i => (ad i, en i)) = [(ad 0, en 0), (ad 4, en 4), (ad 12, en 12), (ad 13, en 13), (ad 15, en 15)] := rfl
    have hR : ∀ i ∈ ([0, 4, 12, 13, 15] : List Nat), zRo own nn i := (zRo.of4 (fun i hi => by simp only [List.mem_cons, List.not_mem_nil, or_false] at hi; omega))
    obtain ⟨p1, p2⟩ := hL.pre [0, 4, 12, 13, 15] hw hR (by decide)
    have hA := zAo_of (R := zRo own nn) (sz := U.heap.size) [0, 4, 12, 13, 15] hw hR
    have hw2 := hw
    rw [s0, g4, g12, g13, m1] at p1 p2 hA hw2
    refine ⟨_, _, _, c_RW_groups0 l E U.heap.size (ad 0) (ad 1) (ad 2) (ad 4) (ad 5) (ad 6) S.2.2.2.2.1 S.2.2.2.2.2 (ad 11) (ad 12) (ad 13) (ad 15) ((S.2.2.1.1.1 : Nat) : Int) ((S.2.2.1.2 : Nat) : Int) _ _ (ad 16) md (sp_encs S.1.1 S.2.2.1.1.2.2.2) (by have := hBm.1; have := hBm.2.1; omega) n0 hn0, ⟨rfl, p1, p2, trivial⟩, hA, ?_⟩
    rintro v H1 ⟨hv, hP1, hD1⟩ hz hk
    have hk' : ∀ q : Nat, q < U.heap.size → ¬ va_A (([0, 4, 12, 13, 15] : List Nat).map (fun i => (ad i, en i))) U.heap.size q → H1[q]? = U.heap[q]? := by
      rw [hw2]
      exact hk
    rw [← s0] at hP1
    refine ⟨ad, _, rfl, fun i hi => Or.inl ⟨i, hi.elim (fun z => Or.inl z) (fun z => absurd z (by omega)), rfl⟩, hv, zSt.groups hst0 hE.2.1 hn0 (ext := []) (md := md + 1) (e14 := en 14) (Or.inl ⟨rfl, rfl⟩) rfl rfl rfl rfl hk' hP1 ?_⟩
    show va_D (va_A (([0, 4, 12, 13, 15] : List Nat).map (fun i => (ad i, en i))) U.heap.size) _
    rw [hw2, s0]
    exact hD1
  · have ho : own = true := by
      cases own
      · exact absurd (g14n rfl) h0
      · rfl
    subst ho
    obtain ⟨e14, c1, c2, c3⟩ := g14 rfl
    have hw : ([0, 4, 12, 13, 15, 14] : List Nat).map (fun i => (ad i, en i)) = [(ad 0, en 0), (ad 4, en 4), (ad 12, en 12), (ad 13, en 13), (ad 15, en 15), (ad 14, en 14)] := rfl
    have hR : ∀ i ∈ ([0, 4, 12, 13, 15, 14] : List Nat), zRo true nn i := fun i hi => Or.inl ⟨by simp only [List.mem_cons, List.not_mem_nil, or_false] at hi; omega, fun _ => rfl⟩
    obtain ⟨p1, p2⟩ := hL.pre [0, 4, 12, 13, 15, 14] hw hR (by decide)
    have hA := zAo_of (R := zRo true nn) (sz := U.heap.size) [0, 4, 12, 13, 15, 14] hw hR
    have hw2 := hw
    rw [s0, g4, g12, g13, m1, e14] at p1 p2 hA hw2
    refine ⟨_, _, _, c_RW_groups1 l E U.heap.size (ad 0) (ad 1) (ad 2) (ad 4) (ad 5) (ad 6) S.2.2.2.2.1 S.2.2.2.2.2 (ad 11) (ad 12) (ad 13) (ad 15) ((S.2.2.1.1.1 : Nat) : Int) ((S.2.2.1.2 : Nat) : Int) _ (ad 14) (ad 16) md (sp_encs S.1.1 S.2.2.1.1.2.2.2) (by have := hBm.1; have := hBm.2.1; omega) n0 hn0 nn lcap lf c1 c2, ⟨rfl, p1, p2, trivial⟩, hA, ?_⟩
    rintro v H1 ⟨hv, f2, hP1, hD1⟩ hz hk
    have hk' : ∀ q : Nat, q < U.heap.size → ¬ va_A (([0, 4, 12, 13, 15, 14] : List Nat).map (fun i => (ad i, en i))) U.heap.size q → H1[q]? = U.heap[q]? := by
      rw [hw2]
      exact hk
    rw [← s0] at hP1
    refine ⟨ad, _, rfl, fun i hi => Or.inl ⟨i, hi.elim (fun z => Or.inl z) (fun z => absurd z (by omega)), rfl⟩, hv, zSt.groups hst0 hE.2.1 hn0 (ext := [14]) (md := md + 1) (Or.inr ⟨rfl, rfl, lcap, f2, rfl, c2⟩) rfl rfl rfl rfl hk' hP1 ?_⟩
    show va_D (va_A (([0, 4, 12, 13, 15, 14] : List Nat).map (fun i => (ad i, en i))) U.heap.size) _
    rw [hw2, s0]
    exact hD1
