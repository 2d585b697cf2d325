/-! One cell of a world said otherwise. -/
theorem zP_set {D : va_G} {cl : List vw_C} {ws : va_W} {H : Heap} (hP : va_P D cl ws H) (i : Nat) {x : Nat × va_E} (hx : va_at D cl x H) : va_P D cl (ws.set i x) H := by
  intro k q hk
  rw [List.getElem?_set] at hk
  split at hk
  · split at hk
    · cases hk
      exact hx
    · cases hk
  · exact hP k q hk
theorem zD_set {A : Nat → Prop} {ws : va_W} (hD : va_D A ws) (i : Nat) {a : Nat} {e e' : va_E} (h : ws[i]? = some (a, e)) : va_D A (ws.set i (a, e')) := by
  have key : ∀ (k : Nat) (q : Nat × va_E), (ws.set i (a, e'))[k]? = some q → ∃ q', ws[k]? = some q' ∧ q'.1 = q.1 := by
    intro k q hk
    rw [List.getElem?_set] at hk
    split at hk
    · rename_i e1
      subst e1
      split at hk
      · cases hk
        exact ⟨_, h, rfl⟩
      · cases hk
    · exact ⟨q, hk, rfl⟩
  refine ⟨fun j k p q hj hk e1 => ?_, fun k q hk => ?_⟩
  · obtain ⟨p', h1, h2⟩ := key j p hj
    obtain ⟨q', h3, h4⟩ := key k q hk
    exact hD.1 j k p' q' h1 h3 (by rw [h2, h4, e1])
  · obtain ⟨q', h1, h2⟩ := key k q hk
    rw [← h2]
    exact hD.2 k q' h1

set_option maxRecDepth 100000 in
set_option maxHeartbeats 4000000 in
theorem c_ArrayList_clear0 (l : Launch) (E : zP) (sz : Nat) (al ea : Nat) (md : Int) : Met l y_ArrayList_clear (.code y_ArrayList_clear b_ArrayList_clear 4 ( Option.none : Option FieldType ) :: zw) { frames := 0, cells := (0), slots := (0), locals := 0 } (zPc E [.ref al] (fun H => H.size = sz ∧ va_P E.1 zcl [(al, .inr (9, [.ref ea, .int (iI 0), .int (iI md)]))] H ∧ va_D (zOld E) [(al, .inr (9, [.ref ea, .int (iI 0), .int (iI md)]))] ∧ (True))) (zW (fun v H => v = none ∧ va_P E.1 zcl [(al, .inr (9, [.ref ea, .int (iI 0), .int (iI (md + 1))]))] H ∧ va_D (va_A [(al, .inr (9, [.ref ea, .int (iI 0), .int (iI md)]))] sz) [(al, .inr (9, [.ref ea, .int (iI 0), .int (iI (md + 1))]))]) (va_A [(al, .inr (9, [.ref ea, .int (iI 0), .int (iI md)]))] sz)) (0) (0) (va_A [(al, .inr (9, [.ref ea, .int (iI 0), .int (iI md)]))] sz) := by
  refine zMetF (by decide +kernel) (Nat.le_of_ble_eq_true rfl) ?_
  intro p e s m below meth c ls S hr hlk hnm hE ⟨hsz, hP, hDo, hX⟩ hl
  have hx := S.1
  have hb := S.2.1
  have hE0 := hE
  have hl : lv_has ls 4 [(0, .ref al)] := hl
  subst hsz
  have hD := hDo.self (sz := s.heap.size)
  generalize hAe : va_A [(al, .inr (9, [.ref ea, .int (iI 0), .int (iI md)]))] s.heap.size = A at hD ⊢
  have hA : ∀ q : Nat, s.heap.size ≤ q → A q := fun q h => by rw [← hAe]; exact Or.inr h
  have hA0 := zA0 hE hDo hAe
  have hS : va_S A s.heap s.heap [] := va_S.rf
  refine lv_aload_n hx hb d_ArrayList_clear_0 rfl (lv_at hl 0 rfl) ?_
  refine lv_dup hx hb d_ArrayList_clear_1 rfl ?_
  refine va_get hx hb S.2.2.2.2 i_ArrayList S.2.2.2.1 hE.1 hP 0 rfl rfl 2 (by decide) (S.2.2.2.2 _ zw_90) (u_same (S.2.2.2.2 _ zw_91)) rfl d_ArrayList_clear_2 ?_
  refine zi_iconst hx hb d_ArrayList_clear_5 ?_
  refine zi_iadd hx hb d_ArrayList_clear_6 ?_
  refine va_put (D := E.1) (ci := 9) (v := .int (iI (md + 1))) (ty := .int) (C := "java/util/ArrayList") (T := F_ArrayList) (N := 3) hx hb S.2.2.2.2 i_ArrayList t_ArrayList t_ArrayList_ok n_ArrayList S.2.2.2.1 hE.1 hP hD hS 0 rfl rfl 2 (by decide) (S.2.2.2.2 _ zw_90) (u_same (S.2.2.2.2 _ zw_91)) rfl (by decide +kernel) rfl rfl (Nat.le_of_ble_eq_true rfl) d_ArrayList_clear_7 (fun H locs hP hD hS => ?_)
  have hP : va_P E.1 zcl [(al, .inr (9, [.ref ea, .int (iI 0), .int (iI (md + 1))]))] H := hP
  have hD : va_D A [(al, .inr (9, [.ref ea, .int (iI 0), .int (iI (md + 1))]))] := hD
  have hE := hE0.at hS hA0
  refine lv_aload_n hx hb d_ArrayList_clear_10 rfl (lv_at hl 0 rfl) ?_
  refine zgf S hE (ci := 9) rfl i_ArrayList (hP 0 _ rfl) 0 (by decide) zw_87 rfl d_ArrayList_clear_11 ?_
  refine lv_astore_n (lv' := [(1, .ref ea), (0, .ref al)]) hx hb d_ArrayList_clear_14 rfl hl (by decide) rfl (fun ls hl => ?_)
  refine lv_aload_n hx hb d_ArrayList_clear_15 rfl (lv_at hl 1 rfl) ?_
  refine zgf S hE (ci := 9) rfl i_ArrayList (hP 0 _ rfl) 1 (by decide) zw_88 rfl d_ArrayList_clear_16 ?_
  refine lv_istore_n (lv' := [(2, .int (iI 0)), (1, .ref ea), (0, .ref al)]) hx hb d_ArrayList_clear_19 rfl hl (by decide) rfl (fun ls hl => ?_)
  refine lv_aload_n hx hb d_ArrayList_clear_20 rfl (lv_at hl 2 rfl) ?_
  refine zi_iconst hx hb d_ArrayList_clear_21 ?_
  refine lv_dup_x1 hx hb d_ArrayList_clear_22 rfl rfl ?_
  refine va_put (D := E.1) (ci := 9) (v := .int (iI 0)) (ty := .int) (C := "java/util/ArrayList") (T := F_ArrayList) (N := 3) hx hb S.2.2.2.2 i_ArrayList t_ArrayList t_ArrayList_ok n_ArrayList S.2.2.2.1 hE.1 hP hD hS 0 rfl rfl 1 (by decide) (S.2.2.2.2 _ zw_88) (fun _ h9 => h9) rfl (by decide +kernel) rfl rfl (Nat.le_of_ble_eq_true rfl) d_ArrayList_clear_23 (fun H locs hP hD hS => ?_)
  have hP : va_P E.1 zcl [(al, .inr (9, [.ref ea, .int (iI 0), .int (iI (md + 1))]))] H := hP
  have hD : va_D A [(al, .inr (9, [.ref ea, .int (iI 0), .int (iI (md + 1))]))] := hD
  have hE := hE0.at hS hA0
  refine lv_istore_n (lv' := [(3, .int (iI 0)), (2, .int (iI 0)), (1, .ref ea), (0, .ref al)]) hx hb d_ArrayList_clear_26 rfl hl (by decide) rfl (fun ls hl => ?_)
  refine lv_iload_n hx hb d_ArrayList_clear_27 rfl (lv_at hl 0 rfl) ?_
  refine lv_iload_n hx hb d_ArrayList_clear_28 rfl (lv_at hl 1 rfl) ?_
  refine zi_icmp_ge hx hb d_ArrayList_clear_29 rfl (by omega) (by omega) (fun h29 => ?_) (fun h => absurd h (by omega))
  exact zwv S hr hlk hS (⟨rfl, hP, hD⟩) (by (try dsimp only); omega) (by (try dsimp only); omega) d_ArrayList_clear_42

set_option maxRecDepth 100000 in
set_option maxHeartbeats 4000000 in
theorem c_ArrayList_clear (l : Launch) (E : zP) (sz : Nat) (al ea n cap : Nat) (md : Int) (f : Nat → Option Nat) (hn : n ≤ cap) (hcap : cap < 2147483648) : Met l y_ArrayList_clear (.code y_ArrayList_clear b_ArrayList_clear 4 ( Option.none : Option FieldType ) :: zw) { frames := 0, cells := (0), slots := (0), locals := 0 } (zPc E [.ref al] (fun H => H.size = sz ∧ va_P E.1 zcl [(al, .inr (9, [.ref ea, .int (iI ((n : Nat) : Int)), .int (iI md)])), (ea, .inl (E.2.1 5, cap, .inr (.inr (.inr (.inr f)))))] H ∧ va_D (zOld E) [(al, .inr (9, [.ref ea, .int (iI ((n : Nat) : Int)), .int (iI md)])), (ea, .inl (E.2.1 5, cap, .inr (.inr (.inr (.inr f)))))] ∧ (True))) (zW (fun v H => v = none ∧ ∃ f2 : Nat → Option Nat, va_P E.1 zcl [(al, .inr (9, [.ref ea, .int (iI 0), .int (iI (md + 1))])), (ea, .inl (E.2.1 5, cap, .inr (.inr (.inr (.inr f2)))))] H ∧ va_D (va_A [(al, .inr (9, [.ref ea, .int (iI ((n : Nat) : Int)), .int (iI md)])), (ea, .inl (E.2.1 5, cap, .inr (.inr (.inr (.inr f)))))] sz) [(al, .inr (9, [.ref ea, .int (iI 0), .int (iI (md + 1))])), (ea, .inl (E.2.1 5, cap, .inr (.inr (.inr (.inr f2)))))]) (va_A [(al, .inr (9, [.ref ea, .int (iI ((n : Nat) : Int)), .int (iI md)])), (ea, .inl (E.2.1 5, cap, .inr (.inr (.inr (.inr f)))))] sz)) (0) (0) (va_A [(al, .inr (9, [.ref ea, .int (iI ((n : Nat) : Int)), .int (iI md)])), (ea, .inl (E.2.1 5, cap, .inr (.inr (.inr (.inr f)))))] sz) := by
  refine zMetF (by decide +kernel) (Nat.le_of_ble_eq_true rfl) ?_
  intro p e s m below meth c ls S hr hlk hnm hE ⟨hsz, hP, hDo, hX⟩ hl
  have hx := S.1
  have hb := S.2.1
  have hE0 := hE
  have hl : lv_has ls 4 [(0, .ref al)] := hl
  subst hsz
  have hD := hDo.self (sz := s.heap.size)
  generalize hAe : va_A [(al, .inr (9, [.ref ea, .int (iI ((n : Nat) : Int)), .int (iI md)])), (ea, .inl (E.2.1 5, cap, .inr (.inr (.inr (.inr f)))))] s.heap.size = A at hD ⊢
  have hA : ∀ q : Nat, s.heap.size ≤ q → A q := fun q h => by rw [← hAe]; exact Or.inr h
  have hA0 := zA0 hE hDo hAe
  have hS : va_S A s.heap s.heap [] := va_S.rf
  refine lv_aload_n hx hb d_ArrayList_clear_0 rfl (lv_at hl 0 rfl) ?_
  refine lv_dup hx hb d_ArrayList_clear_1 rfl ?_
  refine va_get hx hb S.2.2.2.2 i_ArrayList S.2.2.2.1 hE.1 hP 0 rfl rfl 2 (by decide) (S.2.2.2.2 _ zw_90) (u_same (S.2.2.2.2 _ zw_91)) rfl d_ArrayList_clear_2 ?_
  refine zi_iconst hx hb d_ArrayList_clear_5 ?_
  refine zi_iadd hx hb d_ArrayList_clear_6 ?_
  refine va_put (D := E.1) (ci := 9) (v := .int (iI (md + 1))) (ty := .int) (C := "java/util/ArrayList") (T := F_ArrayList) (N := 3) hx hb S.2.2.2.2 i_ArrayList t_ArrayList t_ArrayList_ok n_ArrayList S.2.2.2.1 hE.1 hP hD hS 0 rfl rfl 2 (by decide) (S.2.2.2.2 _ zw_90) (u_same (S.2.2.2.2 _ zw_91)) rfl (by decide +kernel) rfl rfl (Nat.le_of_ble_eq_true rfl) d_ArrayList_clear_7 (fun H locs hP hD hS => ?_)
  have hP : va_P E.1 zcl [(al, .inr (9, [.ref ea, .int (iI ((n : Nat) : Int)), .int (iI (md + 1))])), (ea, .inl (E.2.1 5, cap, .inr (.inr (.inr (.inr f)))))] H := hP
  have hD : va_D A [(al, .inr (9, [.ref ea, .int (iI ((n : Nat) : Int)), .int (iI (md + 1))])), (ea, .inl (E.2.1 5, cap, .inr (.inr (.inr (.inr f)))))] := hD
  have hE := hE0.at hS hA0
  refine lv_aload_n hx hb d_ArrayList_clear_10 rfl (lv_at hl 0 rfl) ?_
  refine zgf S hE (ci := 9) rfl i_ArrayList (hP 0 _ rfl) 0 (by decide) zw_87 rfl d_ArrayList_clear_11 ?_
  refine lv_astore_n (lv' := [(1, .ref ea), (0, .ref al)]) hx hb d_ArrayList_clear_14 rfl hl (by decide) rfl (fun ls hl => ?_)
  refine lv_aload_n hx hb d_ArrayList_clear_15 rfl (lv_at hl 1 rfl) ?_
  refine zgf S hE (ci := 9) rfl i_ArrayList (hP 0 _ rfl) 1 (by decide) zw_88 rfl d_ArrayList_clear_16 ?_
  refine lv_istore_n (lv' := [(2, .int (iI ((n : Nat) : Int))), (1, .ref ea), (0, .ref al)]) hx hb d_ArrayList_clear_19 rfl hl (by decide) rfl (fun ls hl => ?_)
  refine lv_aload_n hx hb d_ArrayList_clear_20 rfl (lv_at hl 2 rfl) ?_
  refine zi_iconst hx hb d_ArrayList_clear_21 ?_
  refine lv_dup_x1 hx hb d_ArrayList_clear_22 rfl rfl ?_
  refine va_put (D := E.1) (ci := 9) (v := .int (iI 0)) (ty := .int) (C := "java/util/ArrayList") (T := F_ArrayList) (N := 3) hx hb S.2.2.2.2 i_ArrayList t_ArrayList t_ArrayList_ok n_ArrayList S.2.2.2.1 hE.1 hP hD hS 0 rfl rfl 1 (by decide) (S.2.2.2.2 _ zw_88) (fun _ h9 => h9) rfl (by decide +kernel) rfl rfl (Nat.le_of_ble_eq_true rfl) d_ArrayList_clear_23 (fun H locs hP hD hS => ?_)
  have hP : va_P E.1 zcl [(al, .inr (9, [.ref ea, .int (iI 0), .int (iI (md + 1))])), (ea, .inl (E.2.1 5, cap, .inr (.inr (.inr (.inr f)))))] H := hP
  have hD : va_D A [(al, .inr (9, [.ref ea, .int (iI 0), .int (iI (md + 1))])), (ea, .inl (E.2.1 5, cap, .inr (.inr (.inr (.inr f)))))] := hD
  have hE := hE0.at hS hA0
  refine lv_istore_n (lv' := [(3, .int (iI 0)), (2, .int (iI ((n : Nat) : Int))), (1, .ref ea), (0, .ref al)]) hx hb d_ArrayList_clear_26 rfl hl (by decide) rfl (fun ls hl => ?_)
  have hP := hP.sub (ws' := [(al, .inr (9, [.ref ea, .int (iI 0), .int (iI (md + 1))])), (ea, .inl (E.2.1 5, cap, .inr (.inr (.inr (.inr f)))))]) [0, 1] rfl
  have hD := hD.sub (ws' := [(al, .inr (9, [.ref ea, .int (iI 0), .int (iI (md + 1))])), (ea, .inl (E.2.1 5, cap, .inr (.inr (.inr (.inr f)))))]) [0, 1] (by decide) rfl
  refine zloop (fun (x : Nat × (Nat → Option Nat)) H locs ls cells slots => match x with | (k, fk) => cells = 0 ∧ slots = 0 ∧ lv_has ls 4 [(3, .int (iI ((k : Nat) : Int))), (2, .int (iI ((n : Nat) : Int))), (1, .ref ea), (0, .ref al)] ∧ va_P E.1 zcl [(al, .inr (9, [.ref ea, .int (iI 0), .int (iI (md + 1))])), (ea, .inl (E.2.1 5, cap, .inr (.inr (.inr (.inr fk)))))] H ∧ va_D A [(al, .inr (9, [.ref ea, .int (iI 0), .int (iI (md + 1))])), (ea, .inl (E.2.1 5, cap, .inr (.inr (.inr (.inr fk)))))] ∧ va_S A s.heap H locs ∧ (k ≤ n)) (fun x => match x with | (k, fk) => n - k) ?_ (0, f) ⟨by simp, by simp, hl, hP, hD, hS, Nat.zero_le _⟩
  clear hl hP hD hS
  rintro ⟨k, fk⟩ H locs ls cells slots ⟨rfl, rfl, hl, hP, hD, hS, h1⟩ ih
  have hE := hE0.at hS hA0
  refine lv_iload_n hx hb d_ArrayList_clear_27 rfl (lv_at hl 0 rfl) ?_
  refine lv_iload_n hx hb d_ArrayList_clear_28 rfl (lv_at hl 1 rfl) ?_
  refine zi_icmp_ge hx hb d_ArrayList_clear_29 rfl (by omega) (by omega) (fun h29 => ?_) (fun h29 => ?_)
  · exact zwv S hr hlk hS (⟨rfl, _, hP, hD⟩) (by (try dsimp only); omega) (by (try dsimp only); omega) d_ArrayList_clear_42
  · refine lv_aload_n hx hb d_ArrayList_clear_32 rfl (lv_at hl 2 rfl) ?_
    refine lv_iload_n hx hb d_ArrayList_clear_33 rfl (lv_at hl 0 rfl) ?_
    refine lv_null hx hb d_ArrayList_clear_34 ?_
    refine zastqN (C := "java/lang/Object") hx hb hE hP hD hS 1 5 rfl rfl (by omega) (by omega) (by omega) d_ArrayList_clear_35 (fun H locs hP hD hS => ?_)
    have hP : va_P E.1 zcl [(al, .inr (9, [.ref ea, .int (iI 0), .int (iI (md + 1))])), (ea, .inl (E.2.1 5, cap, .inr (.inr (.inr (.inr (va_up fk (Int.toNat ((k : Nat) : Int)) none))))))] H := hP
    have hD : va_D A [(al, .inr (9, [.ref ea, .int (iI 0), .int (iI (md + 1))])), (ea, .inl (E.2.1 5, cap, .inr (.inr (.inr (.inr (va_up fk (Int.toNat ((k : Nat) : Int)) none))))))] := hD
    have hE := hE0.at hS hA0
    refine lv_iinc (k := 0) (v := (iI (((k : Nat) : Int) + 1))) (lv' := [(3, .int (iI (((k : Nat) : Int) + 1))), (2, .int (iI ((n : Nat) : Int))), (1, .ref ea), (0, .ref al)]) hx hb d_ArrayList_clear_36 hl rfl (iI_add _ _) (by decide) rfl (fun ls hl => ?_)
    refine lv_goto hx hb d_ArrayList_clear_39 rfl ?_
    refine W.widen (k := 0) (n := 0) (by (try dsimp only); omega) (by (try dsimp only); omega) ?_
    exact ih (k + 1, va_up fk (Int.toNat ((k : Nat) : Int)) none) H locs ls _ _ (show n - (k + 1) < n - k from by omega) ⟨rfl, rfl, lv_sub hl [0, 1, 2, 3] rfl, hP.sub (ws' := [(al, .inr (9, [.ref ea, .int (iI 0), .int (iI (md + 1))])), (ea, .inl (E.2.1 5, cap, .inr (.inr (.inr (.inr (va_up fk (Int.toNat ((k : Nat) : Int)) none))))))]) [0, 1] rfl, hD.sub (ws' := [(al, .inr (9, [.ref ea, .int (iI 0), .int (iI (md + 1))])), (ea, .inl (E.2.1 5, cap, .inr (.inr (.inr (.inr (va_up fk (Int.toNat ((k : Nat) : Int)) none))))))]) [0, 1] (by decide) rfl, hS, by omega⟩

set_option maxRecDepth 100000 in
set_option maxHeartbeats 4000000 in
theorem c_Groups_startAnew0 (l : Launch) (E : zP) (sz : Nat) (gr ta sa al mk : Nat) (gt ng : Int) (fs : Nat → Int32) (ea q : Nat) (md : Int) (b : List Nat) (hbl : b.length < 2147483648) (n0 : Nat) (hn0 : n0 ≤ 99) : Met l y_Groups_startAnew (.code y_Groups_startAnew b_Groups_startAnew 3 ( Option.none : Option FieldType ) :: zw) { frames := 1, cells := (0), slots := (0), locals := 23 } (zPc E [.ref gr, .int (iI ((n0 : Nat) : Int))] (fun H => H.size = sz ∧ va_P E.1 zcl [(gr, .inr (5, [.ref ta, .ref sa, .ref al, .ref mk, .int (iI gt), .int (iI ng)])), (sa, .inl (E.2.1 1, 100, .inl fs)), (al, .inr (9, [.ref ea, .int (iI 0), .int (iI md)])), (mk, .inr (1, [.int (iI 65536), .ref q, .int (iI ((b.length : Nat) : Int))]))] H ∧ va_D (zOld E) [(gr, .inr (5, [.ref ta, .ref sa, .ref al, .ref mk, .int (iI gt), .int (iI ng)])), (sa, .inl (E.2.1 1, 100, .inl fs)), (al, .inr (9, [.ref ea, .int (iI 0), .int (iI md)])), (mk, .inr (1, [.int (iI 65536), .ref q, .int (iI ((b.length : Nat) : Int))]))] ∧ (True))) (zW (fun v H => v = none ∧ va_P E.1 zcl [(gr, .inr (5, [.ref ta, .ref sa, .ref al, .ref mk, .int (iI ((n0 : Nat) : Int)), .int (iI ((0 : Nat) : Int))])), (sa, .inl (E.2.1 1, 100, .inl (fun _ => iI (bN false)))), (al, .inr (9, [.ref ea, .int (iI 0), .int (iI (md + 1))])), (mk, .inr (1, [.int (iI 65536), .ref q, .int (iI ((([] : List Nat).length : Nat) : Int))]))] H ∧ va_D (va_A [(gr, .inr (5, [.ref ta, .ref sa, .ref al, .ref mk, .int (iI gt), .int (iI ng)])), (sa, .inl (E.2.1 1, 100, .inl fs)), (al, .inr (9, [.ref ea, .int (iI 0), .int (iI md)])), (mk, .inr (1, [.int (iI 65536), .ref q, .int (iI ((b.length : Nat) : Int))]))] sz) [(gr, .inr (5, [.ref ta, .ref sa, .ref al, .ref mk, .int (iI ((n0 : Nat) : Int)), .int (iI ((0 : Nat) : Int))])), (sa, .inl (E.2.1 1, 100, .inl (fun _ => iI (bN false)))), (al, .inr (9, [.ref ea, .int (iI 0), .int (iI (md + 1))])), (mk, .inr (1, [.int (iI 65536), .ref q, .int (iI ((([] : List Nat).length : Nat) : Int))]))]) (va_A [(gr, .inr (5, [.ref ta, .ref sa, .ref al, .ref mk, .int (iI gt), .int (iI ng)])), (sa, .inl (E.2.1 1, 100, .inl fs)), (al, .inr (9, [.ref ea, .int (iI 0), .int (iI md)])), (mk, .inr (1, [.int (iI 65536), .ref q, .int (iI ((b.length : Nat) : Int))]))] sz)) (0) (0) (va_A [(gr, .inr (5, [.ref ta, .ref sa, .ref al, .ref mk, .int (iI gt), .int (iI ng)])), (sa, .inl (E.2.1 1, 100, .inl fs)), (al, .inr (9, [.ref ea, .int (iI 0), .int (iI md)])), (mk, .inr (1, [.int (iI 65536), .ref q, .int (iI ((b.length : Nat) : Int))]))] sz) := by
  refine zMet (by decide) (Nat.le_of_ble_eq_true rfl) ?_
  intro p e s m below meth c ls S hr hlk hnm hE ⟨hsz, hP, hDo, hX⟩ hl
  have hx := S.1
  have hb := S.2.1
  have hE0 := hE
  have hl : lv_has ls 3 [(0, .ref gr), (1, .int (iI ((n0 : Nat) : Int)))] := hl
  subst hsz
  have hD := hDo.self (sz := s.heap.size)
  generalize hAe : va_A [(gr, .inr (5, [.ref ta, .ref sa, .ref al, .ref mk, .int (iI gt), .int (iI ng)])), (sa, .inl (E.2.1 1, 100, .inl fs)), (al, .inr (9, [.ref ea, .int (iI 0), .int (iI md)])), (mk, .inr (1, [.int (iI 65536), .ref q, .int (iI ((b.length : Nat) : Int))]))] s.heap.size = A at hD ⊢
  have hA : ∀ q : Nat, s.heap.size ≤ q → A q := fun q h => by rw [← hAe]; exact Or.inr h
  have hA0 := zA0 hE hDo hAe
  have hS : va_S A s.heap s.heap [] := va_S.rf
  refine lv_aload_n hx hb d_Groups_startAnew_0 rfl (lv_at hl 0 rfl) ?_
  refine lv_iload_n hx hb d_Groups_startAnew_1 rfl (lv_at hl 1 rfl) ?_
  refine va_put (D := E.1) (ci := 5) (v := .int (iI ((n0 : Nat) : Int))) (ty := .int) (C := "ReplacementWriter$Groups") (T := F_Groups) (N := 6) hx hb S.2.2.2.2 i_Groups t_Groups t_Groups_ok n_Groups S.2.2.2.1 hE.1 hP hD hS 0 rfl rfl 4 (by decide) (S.2.2.2.2 _ zw_106) (fun _ h9 => h9) rfl (by decide +kernel) rfl rfl (Nat.le_of_ble_eq_true rfl) d_Groups_startAnew_2 (fun H locs hP hD hS => ?_)
  have hP : va_P E.1 zcl [(gr, .inr (5, [.ref ta, .ref sa, .ref al, .ref mk, .int (iI ((n0 : Nat) : Int)), .int (iI ng)])), (sa, .inl (E.2.1 1, 100, .inl fs)), (al, .inr (9, [.ref ea, .int (iI 0), .int (iI md)])), (mk, .inr (1, [.int (iI 65536), .ref q, .int (iI ((b.length : Nat) : Int))]))] H := hP
  have hD : va_D A [(gr, .inr (5, [.ref ta, .ref sa, .ref al, .ref mk, .int (iI ((n0 : Nat) : Int)), .int (iI ng)])), (sa, .inl (E.2.1 1, 100, .inl fs)), (al, .inr (9, [.ref ea, .int (iI 0), .int (iI md)])), (mk, .inr (1, [.int (iI 65536), .ref q, .int (iI ((b.length : Nat) : Int))]))] := hD
  have hE := hE0.at hS hA0
  refine zi_iconst hx hb d_Groups_startAnew_5 ?_
  refine lv_istore_n (lv' := [(2, .int (iI 0)), (0, .ref gr), (1, .int (iI ((n0 : Nat) : Int)))]) hx hb d_Groups_startAnew_6 rfl hl (by decide) rfl (fun ls hl => ?_)
  have hP := hP.sub (ws' := [(gr, .inr (5, [.ref ta, .ref sa, .ref al, .ref mk, .int (iI ((n0 : Nat) : Int)), .int (iI ng)])), (sa, .inl (E.2.1 1, 100, .inl fs)), (al, .inr (9, [.ref ea, .int (iI 0), .int (iI md)])), (mk, .inr (1, [.int (iI 65536), .ref q, .int (iI ((b.length : Nat) : Int))]))]) [0, 1, 2, 3] rfl
  have hD := hD.sub (ws' := [(gr, .inr (5, [.ref ta, .ref sa, .ref al, .ref mk, .int (iI ((n0 : Nat) : Int)), .int (iI ng)])), (sa, .inl (E.2.1 1, 100, .inl fs)), (al, .inr (9, [.ref ea, .int (iI 0), .int (iI md)])), (mk, .inr (1, [.int (iI 65536), .ref q, .int (iI ((b.length : Nat) : Int))]))]) [0, 1, 2, 3] (by decide) rfl
  refine zloop (fun (x : Nat × (Nat → Int32)) H locs ls cells slots => match x with | (k, fk) => cells = 0 ∧ slots = 0 ∧ lv_has ls 3 [(2, .int (iI ((k : Nat) : Int))), (0, .ref gr), (1, .int (iI ((n0 : Nat) : Int)))] ∧ va_P E.1 zcl [(gr, .inr (5, [.ref ta, .ref sa, .ref al, .ref mk, .int (iI ((n0 : Nat) : Int)), .int (iI ng)])), (sa, .inl (E.2.1 1, 100, .inl fk)), (al, .inr (9, [.ref ea, .int (iI 0), .int (iI md)])), (mk, .inr (1, [.int (iI 65536), .ref q, .int (iI ((b.length : Nat) : Int))]))] H ∧ va_D A [(gr, .inr (5, [.ref ta, .ref sa, .ref al, .ref mk, .int (iI ((n0 : Nat) : Int)), .int (iI ng)])), (sa, .inl (E.2.1 1, 100, .inl fk)), (al, .inr (9, [.ref ea, .int (iI 0), .int (iI md)])), (mk, .inr (1, [.int (iI 65536), .ref q, .int (iI ((b.length : Nat) : Int))]))] ∧ va_S A s.heap H locs ∧ (k ≤ 100 ∧ ∀ j, j < k → fk j = iI (bN false))) (fun x => match x with | (k, fk) => 100 - k) ?_ (0, fs) ⟨by simp, by simp, hl, hP, hD, hS, ⟨by omega, fun j hj => absurd hj (Nat.not_lt_zero _)⟩⟩
  clear hl hP hD hS
  rintro ⟨k, fk⟩ H locs ls cells slots ⟨rfl, rfl, hl, hP, hD, hS, ⟨h1, h2⟩⟩ ih
  have hE := hE0.at hS hA0
  refine lv_iload_n hx hb d_Groups_startAnew_7 rfl (lv_at hl 0 rfl) ?_
  refine lv_aload_n hx hb d_Groups_startAnew_8 rfl (lv_at hl 1 rfl) ?_
  refine zgf S hE (ci := 5) rfl i_Groups (hP 0 _ rfl) 1 (by decide) zw_103 rfl d_Groups_startAnew_9 ?_
  refine zalen hx hb hE 1 (by decide) (hP 1 _ rfl) rfl d_Groups_startAnew_12 ?_
  refine zi_icmp_ge hx hb d_Groups_startAnew_13 rfl (by omega) (by omega) (fun h13 => ?_) (fun h13 => ?_)
  · refine lv_aload_n hx hb d_Groups_startAnew_29 rfl (lv_at hl 1 rfl) ?_
    refine zgf S hE (ci := 5) rfl i_Groups (hP 0 _ rfl) 2 (by decide) zw_104 rfl d_Groups_startAnew_30 ?_
    have hPc := hP.sub (ws' := [(al, .inr (9, [.ref ea, .int (iI 0), .int (iI md)]))]) [2] rfl
    have hDc := hD.sub (ws' := [(al, .inr (9, [.ref ea, .int (iI 0), .int (iI md)]))]) [2] (by decide) rfl
    have hFc := va_free (wc := [(al, .inr (9, [.ref ea, .int (iI 0), .int (iI md)]))]) hD hS hA [2] rfl
    refine zcW (va_runV (As := []) (rest := []) S (c_ArrayList_clear0 l E _ al ea md) ⟨zcwB (n := 0) S zw_411 zw_6 zw_408 (by decide +kernel) rfl rfl ⟨Nat.le_of_ble_eq_true rfl, Nat.le_of_ble_eq_true rfl⟩, S.2.2.2.2 _ zw_409, S.2.2.2.2 _ zw_410⟩ (zPreV hE (hP 2 _ rfl) rfl ⟨rfl, hPc, hDc.weaken (fun _ _ _ h => hA0 _ h), trivial⟩) rfl rfl hl.1 rfl (lv_room (Nat.le_of_ble_eq_true rfl)) d_Groups_startAnew_33 ⟨by (try dsimp only); omega, by (try dsimp only); omega⟩) hS (fun q _ h => hFc q h) hFc (fun v H locs hq hz1 hk1 hS => ?_)
    obtain ⟨rfl, hP1, hD1⟩ := hq
    obtain ⟨hP, hD⟩ := va_join (wr := [(gr, .inr (5, [.ref ta, .ref sa, .ref al, .ref mk, .int (iI ((n0 : Nat) : Int)), .int (iI ng)])), (sa, .inl (E.2.1 1, 100, .inl fk)), (mk, .inr (1, [.int (iI 65536), .ref q, .int (iI ((b.length : Nat) : Int))]))]) (w1 := [(al, .inr (9, [.ref ea, .int (iI 0), .int (iI (md + 1))]))]) hP hD [2] [0, 1, 3] rfl rfl (by decide) (by decide) hk1 hFc hP1 hD1
    have hP : va_P E.1 zcl [(gr, .inr (5, [.ref ta, .ref sa, .ref al, .ref mk, .int (iI ((n0 : Nat) : Int)), .int (iI ng)])), (sa, .inl (E.2.1 1, 100, .inl fk)), (mk, .inr (1, [.int (iI 65536), .ref q, .int (iI ((b.length : Nat) : Int))])), (al, .inr (9, [.ref ea, .int (iI 0), .int (iI (md + 1))]))] H := hP
    have hD : va_D A [(gr, .inr (5, [.ref ta, .ref sa, .ref al, .ref mk, .int (iI ((n0 : Nat) : Int)), .int (iI ng)])), (sa, .inl (E.2.1 1, 100, .inl fk)), (mk, .inr (1, [.int (iI 65536), .ref q, .int (iI ((b.length : Nat) : Int))])), (al, .inr (9, [.ref ea, .int (iI 0), .int (iI (md + 1))]))] := hD
    have hE := hE0.at hS hA0
    refine lv_aload_n hx hb d_Groups_startAnew_36 rfl (lv_at hl 1 rfl) ?_
    refine zi_iconst hx hb d_Groups_startAnew_37 ?_
    refine va_put (D := E.1) (ci := 5) (v := .int (iI 0)) (ty := .int) (C := "ReplacementWriter$Groups") (T := F_Groups) (N := 6) hx hb S.2.2.2.2 i_Groups t_Groups t_Groups_ok n_Groups S.2.2.2.1 hE.1 hP hD hS 0 rfl rfl 5 (by decide) (S.2.2.2.2 _ zw_107) (fun _ h9 => h9) rfl (by decide +kernel) rfl rfl (Nat.le_of_ble_eq_true rfl) d_Groups_startAnew_38 (fun H locs hP hD hS => ?_)
    have hP : va_P E.1 zcl [(gr, .inr (5, [.ref ta, .ref sa, .ref al, .ref mk, .int (iI ((n0 : Nat) : Int)), .int (iI 0)])), (sa, .inl (E.2.1 1, 100, .inl fk)), (mk, .inr (1, [.int (iI 65536), .ref q, .int (iI ((b.length : Nat) : Int))])), (al, .inr (9, [.ref ea, .int (iI 0), .int (iI (md + 1))]))] H := hP
    have hD : va_D A [(gr, .inr (5, [.ref ta, .ref sa, .ref al, .ref mk, .int (iI ((n0 : Nat) : Int)), .int (iI 0)])), (sa, .inl (E.2.1 1, 100, .inl fk)), (mk, .inr (1, [.int (iI 65536), .ref q, .int (iI ((b.length : Nat) : Int))])), (al, .inr (9, [.ref ea, .int (iI 0), .int (iI (md + 1))]))] := hD
    have hE := hE0.at hS hA0
    refine lv_aload_n hx hb d_Groups_startAnew_41 rfl (lv_at hl 1 rfl) ?_
    refine zgf S hE (ci := 5) rfl i_Groups (hP 0 _ rfl) 3 (by decide) zw_105 rfl d_Groups_startAnew_42 ?_
    refine zi_iconst hx hb d_Groups_startAnew_45 ?_
    have hPc := hP.sub (ws' := [(mk, .inr (1, [.int (iI 65536), .ref q, .int (iI ((b.length : Nat) : Int))]))]) [2] rfl
    have hDc := hD.sub (ws' := [(mk, .inr (1, [.int (iI 65536), .ref q, .int (iI ((b.length : Nat) : Int))]))]) [2] (by decide) rfl
    have hFc := va_free (wc := [(mk, .inr (1, [.int (iI 65536), .ref q, .int (iI ((b.length : Nat) : Int))]))]) hD hS hA [2] rfl
    refine zcW (va_runV (As := [.int (iI 0)]) (rest := []) S (c_Row_cutTo l E _ mk q b.length 65536 (0 : Int) (by omega) (by omega)) ⟨zcwB (n := 1) S zw_396 zw_2 zw_412 (by decide +kernel) rfl rfl ⟨Nat.le_of_ble_eq_true rfl, Nat.le_of_ble_eq_true rfl⟩, S.2.2.2.2 _ zw_394, S.2.2.2.2 _ zw_395⟩ (zPreV hE (hP 2 _ rfl) rfl ⟨rfl, hPc, hDc.weaken (fun _ _ _ h => hA0 _ h), trivial⟩) rfl rfl hl.1 rfl (lv_room (Nat.le_of_ble_eq_true rfl)) d_Groups_startAnew_46 ⟨by (try dsimp only); omega, by (try dsimp only); omega⟩) hS (fun q _ h => hFc q h) hFc (fun v H locs hq hz1 hk1 hS => ?_)
    obtain ⟨rfl, hP1, hD1⟩ := hq
    obtain ⟨hP, hD⟩ := va_join (wr := [(gr, .inr (5, [.ref ta, .ref sa, .ref al, .ref mk, .int (iI ((n0 : Nat) : Int)), .int (iI 0)])), (sa, .inl (E.2.1 1, 100, .inl fk)), (al, .inr (9, [.ref ea, .int (iI 0), .int (iI (md + 1))]))]) (w1 := [(mk, .inr (1, [.int (iI 65536), .ref q, .int (iI (if 0 ≤ (0 : Int) ∧ (0 : Int) < ((b.length : Nat) : Int) then (0 : Int) else ((b.length : Nat) : Int)))]))]) hP hD [2] [0, 1, 3] rfl rfl (by decide) (by decide) hk1 hFc hP1 hD1
    have hP : va_P E.1 zcl [(gr, .inr (5, [.ref ta, .ref sa, .ref al, .ref mk, .int (iI ((n0 : Nat) : Int)), .int (iI 0)])), (sa, .inl (E.2.1 1, 100, .inl fk)), (al, .inr (9, [.ref ea, .int (iI 0), .int (iI (md + 1))])), (mk, .inr (1, [.int (iI 65536), .ref q, .int (iI (if 0 ≤ (0 : Int) ∧ (0 : Int) < ((b.length : Nat) : Int) then (0 : Int) else ((b.length : Nat) : Int)))]))] H := hP
    have hD : va_D A [(gr, .inr (5, [.ref ta, .ref sa, .ref al, .ref mk, .int (iI ((n0 : Nat) : Int)), .int (iI 0)])), (sa, .inl (E.2.1 1, 100, .inl fk)), (al, .inr (9, [.ref ea, .int (iI 0), .int (iI (md + 1))])), (mk, .inr (1, [.int (iI 65536), .ref q, .int (iI (if 0 ≤ (0 : Int) ∧ (0 : Int) < ((b.length : Nat) : Int) then (0 : Int) else ((b.length : Nat) : Int)))]))] := hD
    have hE := hE0.at hS hA0
    have hcut : (if 0 ≤ (0 : Int) ∧ (0 : Int) < ((b.length : Nat) : Int) then (0 : Int) else ((b.length : Nat) : Int)) = ((([] : List Nat).length : Nat) : Int) := by show _ = (0 : Int); split <;> omega
    rw [hcut] at hP hD
    have hP8 := hP.sub (ws' := [(gr, .inr (5, [.ref ta, .ref sa, .ref al, .ref mk, .int (iI ((n0 : Nat) : Int)), .int (iI ((0 : Nat) : Int))])), (sa, .inl (E.2.1 1, 100, .inl fk)), (al, .inr (9, [.ref ea, .int (iI 0), .int (iI (md + 1))])), (mk, .inr (1, [.int (iI 65536), .ref q, .int (iI ((([] : List Nat).length : Nat) : Int))]))]) [0, 1, 2, 3] rfl
    have hD8 := hD.sub (ws' := [(gr, .inr (5, [.ref ta, .ref sa, .ref al, .ref mk, .int (iI ((n0 : Nat) : Int)), .int (iI ((0 : Nat) : Int))])), (sa, .inl (E.2.1 1, 100, .inl fk)), (al, .inr (9, [.ref ea, .int (iI 0), .int (iI (md + 1))])), (mk, .inr (1, [.int (iI 65536), .ref q, .int (iI ((([] : List Nat).length : Nat) : Int))]))]) [0, 1, 2, 3] (by decide) rfl
    have hP9 : va_P E.1 zcl [(gr, .inr (5, [.ref ta, .ref sa, .ref al, .ref mk, .int (iI ((n0 : Nat) : Int)), .int (iI ((0 : Nat) : Int))])), (sa, .inl (E.2.1 1, 100, .inl (fun _ => iI (bN false)))), (al, .inr (9, [.ref ea, .int (iI 0), .int (iI (md + 1))])), (mk, .inr (1, [.int (iI 65536), .ref q, .int (iI ((([] : List Nat).length : Nat) : Int))]))] H := zP_set hP8 1 (zat_congr (hP8 1 _ rfl) (fun j hj => h2 j (by omega)))
    have hD9 : va_D A [(gr, .inr (5, [.ref ta, .ref sa, .ref al, .ref mk, .int (iI ((n0 : Nat) : Int)), .int (iI ((0 : Nat) : Int))])), (sa, .inl (E.2.1 1, 100, .inl (fun _ => iI (bN false)))), (al, .inr (9, [.ref ea, .int (iI 0), .int (iI (md + 1))])), (mk, .inr (1, [.int (iI 65536), .ref q, .int (iI ((([] : List Nat).length : Nat) : Int))]))] := zD_set hD8 1 rfl
    exact zwv S hr hlk hS (⟨rfl, hP9, hD9⟩) (by (try dsimp only); omega) (by (try dsimp only); omega) d_Groups_startAnew_49
  · refine lv_aload_n hx hb d_Groups_startAnew_16 rfl (lv_at hl 1 rfl) ?_
    refine zgf S hE (ci := 5) rfl i_Groups (hP 0 _ rfl) 1 (by decide) zw_103 rfl d_Groups_startAnew_17 ?_
    refine lv_iload_n hx hb d_Groups_startAnew_20 rfl (lv_at hl 0 rfl) ?_
    refine zi_iconst hx hb d_Groups_startAnew_21 ?_
    refine zzast hx hb hE hP hD hS 1 rfl (by omega) (by omega) (by omega) d_Groups_startAnew_22 (fun H locs hP hD hS => ?_)
    have hP : va_P E.1 zcl [(gr, .inr (5, [.ref ta, .ref sa, .ref al, .ref mk, .int (iI ((n0 : Nat) : Int)), .int (iI ng)])), (sa, .inl (E.2.1 1, 100, .inl (upd fk (Int.toNat ((k : Nat) : Int)) (vp_nar .boolean (iI 0))))), (al, .inr (9, [.ref ea, .int (iI 0), .int (iI md)])), (mk, .inr (1, [.int (iI 65536), .ref q, .int (iI ((b.length : Nat) : Int))]))] H := hP
    have hD : va_D A [(gr, .inr (5, [.ref ta, .ref sa, .ref al, .ref mk, .int (iI ((n0 : Nat) : Int)), .int (iI ng)])), (sa, .inl (E.2.1 1, 100, .inl (upd fk (Int.toNat ((k : Nat) : Int)) (vp_nar .boolean (iI 0))))), (al, .inr (9, [.ref ea, .int (iI 0), .int (iI md)])), (mk, .inr (1, [.int (iI 65536), .ref q, .int (iI ((b.length : Nat) : Int))]))] := hD
    have hE := hE0.at hS hA0
    refine lv_iinc (k := 0) (v := (iI (((k : Nat) : Int) + 1))) (lv' := [(2, .int (iI (((k : Nat) : Int) + 1))), (0, .ref gr), (1, .int (iI ((n0 : Nat) : Int)))]) hx hb d_Groups_startAnew_23 hl rfl (iI_add _ _) (by decide) rfl (fun ls hl => ?_)
    refine lv_goto hx hb d_Groups_startAnew_26 rfl ?_
    refine W.widen (k := 0) (n := 0) (by (try dsimp only); omega) (by (try dsimp only); omega) ?_
    exact ih (k + 1, upd fk (Int.toNat ((k : Nat) : Int)) (vp_nar .boolean (iI 0))) H locs ls _ _ (show 100 - (k + 1) < 100 - k from by omega) ⟨rfl, rfl, lv_sub hl [0, 1, 2] rfl, hP.sub (ws' := [(gr, .inr (5, [.ref ta, .ref sa, .ref al, .ref mk, .int (iI ((n0 : Nat) : Int)), .int (iI ng)])), (sa, .inl (E.2.1 1, 100, .inl (upd fk (Int.toNat ((k : Nat) : Int)) (vp_nar .boolean (iI 0))))), (al, .inr (9, [.ref ea, .int (iI 0), .int (iI md)])), (mk, .inr (1, [.int (iI 65536), .ref q, .int (iI ((b.length : Nat) : Int))]))]) [0, 1, 2, 3] rfl, hD.sub (ws' := [(gr, .inr (5, [.ref ta, .ref sa, .ref al, .ref mk, .int (iI ((n0 : Nat) : Int)), .int (iI ng)])), (sa, .inl (E.2.1 1, 100, .inl (upd fk (Int.toNat ((k : Nat) : Int)) (vp_nar .boolean (iI 0))))), (al, .inr (9, [.ref ea, .int (iI 0), .int (iI md)])), (mk, .inr (1, [.int (iI 65536), .ref q, .int (iI ((b.length : Nat) : Int))]))]) [0, 1, 2, 3] (by decide) rfl, hS, ⟨by omega, fun j hj => by rw [show iI 0 = iI (bN false) from rfl, zupd_b]; dsimp only; split; rfl; exact h2 j (by omega)⟩⟩

set_option maxRecDepth 100000 in
set_option maxHeartbeats 4000000 in
theorem c_Groups_startAnew1 (l : Launch) (E : zP) (sz : Nat) (gr ta sa al mk : Nat) (gt ng : Int) (fs : Nat → Int32) (ea q : Nat) (md : Int) (b : List Nat) (hbl : b.length < 2147483648) (n0 : Nat) (hn0 : n0 ≤ 99) (n cap : Nat) (f : Nat → Option Nat) (hn : n ≤ cap) (hcap : cap < 2147483648) : Met l y_Groups_startAnew (.code y_Groups_startAnew b_Groups_startAnew 3 ( Option.none : Option FieldType ) :: zw) { frames := 1, cells := (0), slots := (0), locals := 23 } (zPc E [.ref gr, .int (iI ((n0 : Nat) : Int))] (fun H => H.size = sz ∧ va_P E.1 zcl [(gr, .inr (5, [.ref ta, .ref sa, .ref al, .ref mk, .int (iI gt), .int (iI ng)])), (sa, .inl (E.2.1 1, 100, .inl fs)), (al, .inr (9, [.ref ea, .int (iI ((n : Nat) : Int)), .int (iI md)])), (mk, .inr (1, [.int (iI 65536), .ref q, .int (iI ((b.length : Nat) : Int))])), (ea, .inl (E.2.1 5, cap, .inr (.inr (.inr (.inr f)))))] H ∧ va_D (zOld E) [(gr, .inr (5, [.ref ta, .ref sa, .ref al, .ref mk, .int (iI gt), .int (iI ng)])), (sa, .inl (E.2.1 1, 100, .inl fs)), (al, .inr (9, [.ref ea, .int (iI ((n : Nat) : Int)), .int (iI md)])), (mk, .inr (1, [.int (iI 65536), .ref q, .int (iI ((b.length : Nat) : Int))])), (ea, .inl (E.2.1 5, cap, .inr (.inr (.inr (.inr f)))))] ∧ (True))) (zW (fun v H => v = none ∧ ∃ f2 : Nat → Option Nat, va_P E.1 zcl [(gr, .inr (5, [.ref ta, .ref sa, .ref al, .ref mk, .int (iI ((n0 : Nat) : Int)), .int (iI ((0 : Nat) : Int))])), (sa, .inl (E.2.1 1, 100, .inl (fun _ => iI (bN false)))), (al, .inr (9, [.ref ea, .int (iI 0), .int (iI (md + 1))])), (mk, .inr (1, [.int (iI 65536), .ref q, .int (iI ((([] : List Nat).length : Nat) : Int))])), (ea, .inl (E.2.1 5, cap, .inr (.inr (.inr (.inr f2)))))] H ∧ va_D (va_A [(gr, .inr (5, [.ref ta, .ref sa, .ref al, .ref mk, .int (iI gt), .int (iI ng)])), (sa, .inl (E.2.1 1, 100, .inl fs)), (al, .inr (9, [.ref ea, .int (iI ((n : Nat) : Int)), .int (iI md)])), (mk, .inr (1, [.int (iI 65536), .ref q, .int (iI ((b.length : Nat) : Int))])), (ea, .inl (E.2.1 5, cap, .inr (.inr (.inr (.inr f)))))] sz) [(gr, .inr (5, [.ref ta, .ref sa, .ref al, .ref mk, .int (iI ((n0 : Nat) : Int)), .int (iI ((0 : Nat) : Int))])), (sa, .inl (E.2.1 1, 100, .inl (fun _ => iI (bN false)))), (al, .inr (9, [.ref ea, .int (iI 0), .int (iI (md + 1))])), (mk, .inr (1, [.int (iI 65536), .ref q, .int (iI ((([] : List Nat).length : Nat) : Int))])), (ea, .inl (E.2.1 5, cap, .inr (.inr (.inr (.inr f2)))))]) (va_A [(gr, .inr (5, [.ref ta, .ref sa, .ref al, .ref mk, .int (iI gt), .int (iI ng)])), (sa, .inl (E.2.1 1, 100, .inl fs)), (al, .inr (9, [.ref ea, .int (iI ((n : Nat) : Int)), .int (iI md)])), (mk, .inr (1, [.int (iI 65536), .ref q, .int (iI ((b.length : Nat) : Int))])), (ea, .inl (E.2.1 5, cap, .inr (.inr (.inr (.inr f)))))] sz)) (0) (0) (va_A [(gr, .inr (5, [.ref ta, .ref sa, .ref al, .ref mk, .int (iI gt), .int (iI ng)])), (sa, .inl (E.2.1 1, 100, .inl fs)), (al, .inr (9, [.ref ea, .int (iI ((n : Nat) : Int)), .int (iI md)])), (mk, .inr (1, [.int (iI 65536), .ref q, .int (iI ((b.length : Nat) : Int))])), (ea, .inl (E.2.1 5, cap, .inr (.inr (.inr (.inr f)))))] sz) := by
  refine zMet (by decide) (Nat.le_of_ble_eq_true rfl) ?_
  intro p e s m below meth c ls S hr hlk hnm hE ⟨hsz, hP, hDo, hX⟩ hl
  have hx := S.1
  have hb := S.2.1
  have hE0 := hE
  have hl : lv_has ls 3 [(0, .ref gr), (1, .int (iI ((n0 : Nat) : Int)))] := hl
  subst hsz
  have hD := hDo.self (sz := s.heap.size)
  generalize hAe : va_A [(gr, .inr (5, [.ref ta, .ref sa, .ref al, .ref mk, .int (iI gt), .int (iI ng)])), (sa, .inl (E.2.1 1, 100, .inl fs)), (al, .inr (9, [.ref ea, .int (iI ((n : Nat) : Int)), .int (iI md)])), (mk, .inr (1, [.int (iI 65536), .ref q, .int (iI ((b.length : Nat) : Int))])), (ea, .inl (E.2.1 5, cap, .inr (.inr (.inr (.inr f)))))] s.heap.size = A at hD ⊢
  have hA : ∀ q : Nat, s.heap.size ≤ q → A q := fun q h => by rw [← hAe]; exact Or.inr h
  have hA0 := zA0 hE hDo hAe
  have hS : va_S A s.heap s.heap [] := va_S.rf
  refine lv_aload_n hx hb d_Groups_startAnew_0 rfl (lv_at hl 0 rfl) ?_
  refine lv_iload_n hx hb d_Groups_startAnew_1 rfl (lv_at hl 1 rfl) ?_
  refine va_put (D := E.1) (ci := 5) (v := .int (iI ((n0 : Nat) : Int))) (ty := .int) (C := "ReplacementWriter$Groups") (T := F_Groups) (N := 6) hx hb S.2.2.2.2 i_Groups t_Groups t_Groups_ok n_Groups S.2.2.2.1 hE.1 hP hD hS 0 rfl rfl 4 (by decide) (S.2.2.2.2 _ zw_106) (fun _ h9 => h9) rfl (by decide +kernel) rfl rfl (Nat.le_of_ble_eq_true rfl) d_Groups_startAnew_2 (fun H locs hP hD hS => ?_)
  have hP : va_P E.1 zcl [(gr, .inr (5, [.ref ta, .ref sa, .ref al, .ref mk, .int (iI ((n0 : Nat) : Int)), .int (iI ng)])), (sa, .inl (E.2.1 1, 100, .inl fs)), (al, .inr (9, [.ref ea, .int (iI ((n : Nat) : Int)), .int (iI md)])), (mk, .inr (1, [.int (iI 65536), .ref q, .int (iI ((b.length : Nat) : Int))])), (ea, .inl (E.2.1 5, cap, .inr (.inr (.inr (.inr f)))))] H := hP
  have hD : va_D A [(gr, .inr (5, [.ref ta, .ref sa, .ref al, .ref mk, .int (iI ((n0 : Nat) : Int)), .int (iI ng)])), (sa, .inl (E.2.1 1, 100, .inl fs)), (al, .inr (9, [.ref ea, .int (iI ((n : Nat) : Int)), .int (iI md)])), (mk, .inr (1, [.int (iI 65536), .ref q, .int (iI ((b.length : Nat) : Int))])), (ea, .inl (E.2.1 5, cap, .inr (.inr (.inr (.inr f)))))] := hD
  have hE := hE0.at hS hA0
  refine zi_iconst hx hb d_Groups_startAnew_5 ?_
  refine lv_istore_n (lv' := [(2, .int (iI 0)), (0, .ref gr), (1, .int (iI ((n0 : Nat) : Int)))]) hx hb d_Groups_startAnew_6 rfl hl (by decide) rfl (fun ls hl => ?_)
  have hP := hP.sub (ws' := [(gr, .inr (5, [.ref ta, .ref sa, .ref al, .ref mk, .int (iI ((n0 : Nat) : Int)), .int (iI ng)])), (sa, .inl (E.2.1 1, 100, .inl fs)), (al, .inr (9, [.ref ea, .int (iI ((n : Nat) : Int)), .int (iI md)])), (mk, .inr (1, [.int (iI 65536), .ref q, .int (iI ((b.length : Nat) : Int))])), (ea, .inl (E.2.1 5, cap, .inr (.inr (.inr (.inr f)))))]) [0, 1, 2, 3, 4] rfl
  have hD := hD.sub (ws' := [(gr, .inr (5, [.ref ta, .ref sa, .ref al, .ref mk, .int (iI ((n0 : Nat) : Int)), .int (iI ng)])), (sa, .inl (E.2.1 1, 100, .inl fs)), (al, .inr (9, [.ref ea, .int (iI ((n : Nat) : Int)), .int (iI md)])), (mk, .inr (1, [.int (iI 65536), .ref q, .int (iI ((b.length : Nat) : Int))])), (ea, .inl (E.2.1 5, cap, .inr (.inr (.inr (.inr f)))))]) [0, 1, 2, 3, 4] (by decide) rfl
  refine zloop (fun (x : Nat × (Nat → Int32)) H locs ls cells slots => match x with | (k, fk) => cells = 0 ∧ slots = 0 ∧ lv_has ls 3 [(2, .int (iI ((k : Nat) : Int))), (0, .ref gr), (1, .int (iI ((n0 : Nat) : Int)))] ∧ va_P E.1 zcl [(gr, .inr (5, [.ref ta, .ref sa, .ref al, .ref mk, .int (iI ((n0 : Nat) : Int)), .int (iI ng)])), (sa, .inl (E.2.1 1, 100, .inl fk)), (al, .inr (9, [.ref ea, .int (iI ((n : Nat) : Int)), .int (iI md)])), (mk, .inr (1, [.int (iI 65536), .ref q, .int (iI ((b.length : Nat) : Int))])), (ea, .inl (E.2.1 5, cap, .inr (.inr (.inr (.inr f)))))] H ∧ va_D A [(gr, .inr (5, [.ref ta, .ref sa, .ref al, .ref mk, .int (iI ((n0 : Nat) : Int)), .int (iI ng)])), (sa, .inl (E.2.1 1, 100, .inl fk)), (al, .inr (9, [.ref ea, .int (iI ((n : Nat) : Int)), .int (iI md)])), (mk, .inr (1, [.int (iI 65536), .ref q, .int (iI ((b.length : Nat) : Int))])), (ea, .inl (E.2.1 5, cap, .inr (.inr (.inr (.inr f)))))] ∧ va_S A s.heap H locs ∧ (k ≤ 100 ∧ ∀ j, j < k → fk j = iI (bN false))) (fun x => match x with | (k, fk) => 100 - k) ?_ (0, fs) ⟨by simp, by simp, hl, hP, hD, hS, ⟨by omega, fun j hj => absurd hj (Nat.not_lt_zero _)⟩⟩
  clear hl hP hD hS
  rintro ⟨k, fk⟩ H locs ls cells slots ⟨rfl, rfl, hl, hP, hD, hS, ⟨h1, h2⟩⟩ ih
  have hE := hE0.at hS hA0
  refine lv_iload_n hx hb d_Groups_startAnew_7 rfl (lv_at hl 0 rfl) ?_
  refine lv_aload_n hx hb d_Groups_startAnew_8 rfl (lv_at hl 1 rfl) ?_
  refine zgf S hE (ci := 5) rfl i_Groups (hP 0 _ rfl) 1 (by decide) zw_103 rfl d_Groups_startAnew_9 ?_
  refine zalen hx hb hE 1 (by decide) (hP 1 _ rfl) rfl d_Groups_startAnew_12 ?_
  refine zi_icmp_ge hx hb d_Groups_startAnew_13 rfl (by omega) (by omega) (fun h13 => ?_) (fun h13 => ?_)
  · refine lv_aload_n hx hb d_Groups_startAnew_29 rfl (lv_at hl 1 rfl) ?_
    refine zgf S hE (ci := 5) rfl i_Groups (hP 0 _ rfl) 2 (by decide) zw_104 rfl d_Groups_startAnew_30 ?_
    have hPc := hP.sub (ws' := [(al, .inr (9, [.ref ea, .int (iI ((n : Nat) : Int)), .int (iI md)])), (ea, .inl (E.2.1 5, cap, .inr (.inr (.inr (.inr f)))))]) [2, 4] rfl
    have hDc := hD.sub (ws' := [(al, .inr (9, [.ref ea, .int (iI ((n : Nat) : Int)), .int (iI md)])), (ea, .inl (E.2.1 5, cap, .inr (.inr (.inr (.inr f)))))]) [2, 4] (by decide) rfl
    have hFc := va_free (wc := [(al, .inr (9, [.ref ea, .int (iI ((n : Nat) : Int)), .int (iI md)])), (ea, .inl (E.2.1 5, cap, .inr (.inr (.inr (.inr f)))))]) hD hS hA [2, 4] rfl
    refine zcW (va_runV (As := []) (rest := []) S (c_ArrayList_clear l E _ al ea n cap md f hn hcap) ⟨zcwB (n := 0) S zw_411 zw_6 zw_408 (by decide +kernel) rfl rfl ⟨Nat.le_of_ble_eq_true rfl, Nat.le_of_ble_eq_true rfl⟩, S.2.2.2.2 _ zw_409, S.2.2.2.2 _ zw_410⟩ (zPreV hE (hP 2 _ rfl) rfl ⟨rfl, hPc, hDc.weaken (fun _ _ _ h => hA0 _ h), trivial⟩) rfl rfl hl.1 rfl (lv_room (Nat.le_of_ble_eq_true rfl)) d_Groups_startAnew_33 ⟨by (try dsimp only); omega, by (try dsimp only); omega⟩) hS (fun q _ h => hFc q h) hFc (fun v H locs hq hz1 hk1 hS => ?_)
    obtain ⟨rfl, f2, hP1, hD1⟩ := hq
    obtain ⟨hP, hD⟩ := va_join (wr := [(gr, .inr (5, [.ref ta, .ref sa, .ref al, .ref mk, .int (iI ((n0 : Nat) : Int)), .int (iI ng)])), (sa, .inl (E.2.1 1, 100, .inl fk)), (mk, .inr (1, [.int (iI 65536), .ref q, .int (iI ((b.length : Nat) : Int))]))]) (w1 := [(al, .inr (9, [.ref ea, .int (iI 0), .int (iI (md + 1))])), (ea, .inl (E.2.1 5, cap, .inr (.inr (.inr (.inr f2)))))]) hP hD [2, 4] [0, 1, 3] rfl rfl (by decide) (by decide) hk1 hFc hP1 hD1
    have hP : va_P E.1 zcl [(gr, .inr (5, [.ref ta, .ref sa, .ref al, .ref mk, .int (iI ((n0 : Nat) : Int)), .int (iI ng)])), (sa, .inl (E.2.1 1, 100, .inl fk)), (mk, .inr (1, [.int (iI 65536), .ref q, .int (iI ((b.length : Nat) : Int))])), (al, .inr (9, [.ref ea, .int (iI 0), .int (iI (md + 1))])), (ea, .inl (E.2.1 5, cap, .inr (.inr (.inr (.inr f2)))))] H := hP
    have hD : va_D A [(gr, .inr (5, [.ref ta, .ref sa, .ref al, .ref mk, .int (iI ((n0 : Nat) : Int)), .int (iI ng)])), (sa, .inl (E.2.1 1, 100, .inl fk)), (mk, .inr (1, [.int (iI 65536), .ref q, .int (iI ((b.length : Nat) : Int))])), (al, .inr (9, [.ref ea, .int (iI 0), .int (iI (md + 1))])), (ea, .inl (E.2.1 5, cap, .inr (.inr (.inr (.inr f2)))))] := hD
    have hE := hE0.at hS hA0
    refine lv_aload_n hx hb d_Groups_startAnew_36 rfl (lv_at hl 1 rfl) ?_
    refine zi_iconst hx hb d_Groups_startAnew_37 ?_
    refine va_put (D := E.1) (ci := 5) (v := .int (iI 0)) (ty := .int) (C := "ReplacementWriter$Groups") (T := F_Groups) (N := 6) hx hb S.2.2.2.2 i_Groups t_Groups t_Groups_ok n_Groups S.2.2.2.1 hE.1 hP hD hS 0 rfl rfl 5 (by decide) (S.2.2.2.2 _ zw_107) (fun _ h9 => h9) rfl (by decide +kernel) rfl rfl (Nat.le_of_ble_eq_true rfl) d_Groups_startAnew_38 (fun H locs hP hD hS => ?_)
    have hP : va_P E.1 zcl [(gr, .inr (5, [.ref ta, .ref sa, .ref al, .ref mk, .int (iI ((n0 : Nat) : Int)), .int (iI 0)])), (sa, .inl (E.2.1 1, 100, .inl fk)), (mk, .inr (1, [.int (iI 65536), .ref q, .int (iI ((b.length : Nat) : Int))])), (al, .inr (9, [.ref ea, .int (iI 0), .int (iI (md + 1))])), (ea, .inl (E.2.1 5, cap, .inr (.inr (.inr (.inr f2)))))] H := hP
    have hD : va_D A [(gr, .inr (5, [.ref ta, .ref sa, .ref al, .ref mk, .int (iI ((n0 : Nat) : Int)), .int (iI 0)])), (sa, .inl (E.2.1 1, 100, .inl fk)), (mk, .inr (1, [.int (iI 65536), .ref q, .int (iI ((b.length : Nat) : Int))])), (al, .inr (9, [.ref ea, .int (iI 0), .int (iI (md + 1))])), (ea, .inl (E.2.1 5, cap, .inr (.inr (.inr (.inr f2)))))] := hD
    have hE := hE0.at hS hA0
    refine lv_aload_n hx hb d_Groups_startAnew_41 rfl (lv_at hl 1 rfl) ?_
    refine zgf S hE (ci := 5) rfl i_Groups (hP 0 _ rfl) 3 (by decide) zw_105 rfl d_Groups_startAnew_42 ?_
    refine zi_iconst hx hb d_Groups_startAnew_45 ?_
    have hPc := hP.sub (ws' := [(mk, .inr (1, [.int (iI 65536), .ref q, .int (iI ((b.length : Nat) : Int))]))]) [2] rfl
    have hDc := hD.sub (ws' := [(mk, .inr (1, [.int (iI 65536), .ref q, .int (iI ((b.length : Nat) : Int))]))]) [2] (by decide) rfl
    have hFc := va_free (wc := [(mk, .inr (1, [.int (iI 65536), .ref q, .int (iI ((b.length : Nat) : Int))]))]) hD hS hA [2] rfl
    refine zcW (va_runV (As := [.int (iI 0)]) (rest := []) S (c_Row_cutTo l E _ mk q b.length 65536 (0 : Int) (by omega) (by omega)) ⟨zcwB (n := 1) S zw_396 zw_2 zw_412 (by decide +kernel) rfl rfl ⟨Nat.le_of_ble_eq_true rfl, Nat.le_of_ble_eq_true rfl⟩, S.2.2.2.2 _ zw_394, S.2.2.2.2 _ zw_395⟩ (zPreV hE (hP 2 _ rfl) rfl ⟨rfl, hPc, hDc.weaken (fun _ _ _ h => hA0 _ h), trivial⟩) rfl rfl hl.1 rfl (lv_room (Nat.le_of_ble_eq_true rfl)) d_Groups_startAnew_46 ⟨by (try dsimp only); omega, by (try dsimp only); omega⟩) hS (fun q _ h => hFc q h) hFc (fun v H locs hq hz1 hk1 hS => ?_)
    obtain ⟨rfl, hP1, hD1⟩ := hq
    obtain ⟨hP, hD⟩ := va_join (wr := [(gr, .inr (5, [.ref ta, .ref sa, .ref al, .ref mk, .int (iI ((n0 : Nat) : Int)), .int (iI 0)])), (sa, .inl (E.2.1 1, 100, .inl fk)), (al, .inr (9, [.ref ea, .int (iI 0), .int (iI (md + 1))])), (ea, .inl (E.2.1 5, cap, .inr (.inr (.inr (.inr f2)))))]) (w1 := [(mk, .inr (1, [.int (iI 65536), .ref q, .int (iI (if 0 ≤ (0 : Int) ∧ (0 : Int) < ((b.length : Nat) : Int) then (0 : Int) else ((b.length : Nat) : Int)))]))]) hP hD [2] [0, 1, 3, 4] rfl rfl (by decide) (by decide) hk1 hFc hP1 hD1
    have hP : va_P E.1 zcl [(gr, .inr (5, [.ref ta, .ref sa, .ref al, .ref mk, .int (iI ((n0 : Nat) : Int)), .int (iI 0)])), (sa, .inl (E.2.1 1, 100, .inl fk)), (al, .inr (9, [.ref ea, .int (iI 0), .int (iI (md + 1))])), (ea, .inl (E.2.1 5, cap, .inr (.inr (.inr (.inr f2))))), (mk, .inr (1, [.int (iI 65536), .ref q, .int (iI (if 0 ≤ (0 : Int) ∧ (0 : Int) < ((b.length : Nat) : Int) then (0 : Int) else ((b.length : Nat) : Int)))]))] H := hP
    have hD : va_D A [(gr, .inr (5, [.ref ta, .ref sa, .ref al, .ref mk, .int (iI ((n0 : Nat) : Int)), .int (iI 0)])), (sa, .inl (E.2.1 1, 100, .inl fk)), (al, .inr (9, [.ref ea, .int (iI 0), .int (iI (md + 1))])), (ea, .inl (E.2.1 5, cap, .inr (.inr (.inr (.inr f2))))), (mk, .inr (1, [.int (iI 65536), .ref q, .int (iI (if 0 ≤ (0 : Int) ∧ (0 : Int) < ((b.length : Nat) : Int) then (0 : Int) else ((b.length : Nat) : Int)))]))] := hD
    have hE := hE0.at hS hA0
    have hcut : (if 0 ≤ (0 : Int) ∧ (0 : Int) < ((b.length : Nat) : Int) then (0 : Int) else ((b.length : Nat) : Int)) = ((([] : List Nat).length : Nat) : Int) := by show _ = (0 : Int); split <;> omega
    rw [hcut] at hP hD
    have hP8 := hP.sub (ws' := [(gr, .inr (5, [.ref ta, .ref sa, .ref al, .ref mk, .int (iI ((n0 : Nat) : Int)), .int (iI ((0 : Nat) : Int))])), (sa, .inl (E.2.1 1, 100, .inl fk)), (al, .inr (9, [.ref ea, .int (iI 0), .int (iI (md + 1))])), (mk, .inr (1, [.int (iI 65536), .ref q, .int (iI ((([] : List Nat).length : Nat) : Int))])), (ea, .inl (E.2.1 5, cap, .inr (.inr (.inr (.inr f2)))))]) [0, 1, 2, 4, 3] rfl
    have hD8 := hD.sub (ws' := [(gr, .inr (5, [.ref ta, .ref sa, .ref al, .ref mk, .int (iI ((n0 : Nat) : Int)), .int (iI ((0 : Nat) : Int))])), (sa, .inl (E.2.1 1, 100, .inl fk)), (al, .inr (9, [.ref ea, .int (iI 0), .int (iI (md + 1))])), (mk, .inr (1, [.int (iI 65536), .ref q, .int (iI ((([] : List Nat).length : Nat) : Int))])), (ea, .inl (E.2.1 5, cap, .inr (.inr (.inr (.inr f2)))))]) [0, 1, 2, 4, 3] (by decide) rfl
    have hP9 : va_P E.1 zcl [(gr, .inr (5, [.ref ta, .ref sa, .ref al, .ref mk, .int (iI ((n0 : Nat) : Int)), .int (iI ((0 : Nat) : Int))])), (sa, .inl (E.2.1 1, 100, .inl (fun _ => iI (bN false)))), (al, .inr (9, [.ref ea, .int (iI 0), .int (iI (md + 1))])), (mk, .inr (1, [.int (iI 65536), .ref q, .int (iI ((([] : List Nat).length : Nat) : Int))])), (ea, .inl (E.2.1 5, cap, .inr (.inr (.inr (.inr f2)))))] H := zP_set hP8 1 (zat_congr (hP8 1 _ rfl) (fun j hj => h2 j (by omega)))
    have hD9 : va_D A [(gr, .inr (5, [.ref ta, .ref sa, .ref al, .ref mk, .int (iI ((n0 : Nat) : Int)), .int (iI ((0 : Nat) : Int))])), (sa, .inl (E.2.1 1, 100, .inl (fun _ => iI (bN false)))), (al, .inr (9, [.ref ea, .int (iI 0), .int (iI (md + 1))])), (mk, .inr (1, [.int (iI 65536), .ref q, .int (iI ((([] : List Nat).length : Nat) : Int))])), (ea, .inl (E.2.1 5, cap, .inr (.inr (.inr (.inr f2)))))] := zD_set hD8 1 rfl
    exact zwv S hr hlk hS (⟨rfl, f2, hP9, hD9⟩) (by (try dsimp only); omega) (by (try dsimp only); omega) d_Groups_startAnew_49
  · refine lv_aload_n hx hb d_Groups_startAnew_16 rfl (lv_at hl 1 rfl) ?_
    refine zgf S hE (ci := 5) rfl i_Groups (hP 0 _ rfl) 1 (by decide) zw_103 rfl d_Groups_startAnew_17 ?_
    refine lv_iload_n hx hb d_Groups_startAnew_20 rfl (lv_at hl 0 rfl) ?_
    refine zi_iconst hx hb d_Groups_startAnew_21 ?_
    refine zzast hx hb hE hP hD hS 1 rfl (by omega) (by omega) (by omega) d_Groups_startAnew_22 (fun H locs hP hD hS => ?_)
    have hP : va_P E.1 zcl [(gr, .inr (5, [.ref ta, .ref sa, .ref al, .ref mk, .int (iI ((n0 : Nat) : Int)), .int (iI ng)])), (sa, .inl (E.2.1 1, 100, .inl (upd fk (Int.toNat ((k : Nat) : Int)) (vp_nar .boolean (iI 0))))), (al, .inr (9, [.ref ea, .int (iI ((n : Nat) : Int)), .int (iI md)])), (mk, .inr (1, [.int (iI 65536), .ref q, .int (iI ((b.length : Nat) : Int))])), (ea, .inl (E.2.1 5, cap, .inr (.inr (.inr (.inr f)))))] H := hP
    have hD : va_D A [(gr, .inr (5, [.ref ta, .ref sa, .ref al, .ref mk, .int (iI ((n0 : Nat) : Int)), .int (iI ng)])), (sa, .inl (E.2.1 1, 100, .inl (upd fk (Int.toNat ((k : Nat) : Int)) (vp_nar .boolean (iI 0))))), (al, .inr (9, [.ref ea, .int (iI ((n : Nat) : Int)), .int (iI md)])), (mk, .inr (1, [.int (iI 65536), .ref q, .int (iI ((b.length : Nat) : Int))])), (ea, .inl (E.2.1 5, cap, .inr (.inr (.inr (.inr f)))))] := hD
    have hE := hE0.at hS hA0
    refine lv_iinc (k := 0) (v := (iI (((k : Nat) : Int) + 1))) (lv' := [(2, .int (iI (((k : Nat) : Int) + 1))), (0, .ref gr), (1, .int (iI ((n0 : Nat) : Int)))]) hx hb d_Groups_startAnew_23 hl rfl (iI_add _ _) (by decide) rfl (fun ls hl => ?_)
    refine lv_goto hx hb d_Groups_startAnew_26 rfl ?_
    refine W.widen (k := 0) (n := 0) (by (try dsimp only); omega) (by (try dsimp only); omega) ?_
    exact ih (k + 1, upd fk (Int.toNat ((k : Nat) : Int)) (vp_nar .boolean (iI 0))) H locs ls _ _ (show 100 - (k + 1) < 100 - k from by omega) ⟨rfl, rfl, lv_sub hl [0, 1, 2] rfl, hP.sub (ws' := [(gr, .inr (5, [.ref ta, .ref sa, .ref al, .ref mk, .int (iI ((n0 : Nat) : Int)), .int (iI ng)])), (sa, .inl (E.2.1 1, 100, .inl (upd fk (Int.toNat ((k : Nat) : Int)) (vp_nar .boolean (iI 0))))), (al, .inr (9, [.ref ea, .int (iI ((n : Nat) : Int)), .int (iI md)])), (mk, .inr (1, [.int (iI 65536), .ref q, .int (iI ((b.length : Nat) : Int))])), (ea, .inl (E.2.1 5, cap, .inr (.inr (.inr (.inr f)))))]) [0, 1, 2, 3, 4] rfl, hD.sub (ws' := [(gr, .inr (5, [.ref ta, .ref sa, .ref al, .ref mk, .int (iI ((n0 : Nat) : Int)), .int (iI ng)])), (sa, .inl (E.2.1 1, 100, .inl (upd fk (Int.toNat ((k : Nat) : Int)) (vp_nar .boolean (iI 0))))), (al, .inr (9, [.ref ea, .int (iI ((n : Nat) : Int)), .int (iI md)])), (mk, .inr (1, [.int (iI 65536), .ref q, .int (iI ((b.length : Nat) : Int))])), (ea, .inl (E.2.1 5, cap, .inr (.inr (.inr (.inr f)))))]) [0, 1, 2, 3, 4] (by decide) rfl, hS, ⟨by omega, fun j hj => by rw [show iI 0 = iI (bN false) from rfl, zupd_b]; dsimp only; split; rfl; exact h2 j (by omega)⟩⟩
