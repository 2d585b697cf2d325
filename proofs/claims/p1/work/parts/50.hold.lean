set_option maxRecDepth 100000 in
set_option maxHeartbeats 4000000 in
theorem c_Groups_greatest (l : Launch) (E : zP) (sz : Nat) (gr ta sa al mk : Nat) (gt ng : Int) : Met l y_Groups_greatest (.code y_Groups_greatest b_Groups_greatest 1 ( some FieldType.int ) :: zw) { frames := 0, cells := (0), slots := (0), locals := 0 } (zPc E [.ref gr] (fun H => H.size = sz ∧ va_P E.1 zcl [(gr, .inr (5, [.ref ta, .ref sa, .ref al, .ref mk, .int (iI gt), .int (iI ng)]))] H ∧ va_D (zOld E) [(gr, .inr (5, [.ref ta, .ref sa, .ref al, .ref mk, .int (iI gt), .int (iI ng)]))] ∧ (True))) (zW (fun v H => v = some (.int (iI gt)) ∧ va_P E.1 zcl [(gr, .inr (5, [.ref ta, .ref sa, .ref al, .ref mk, .int (iI gt), .int (iI ng)]))] H) (va_A [(gr, .inr (5, [.ref ta, .ref sa, .ref al, .ref mk, .int (iI gt), .int (iI ng)]))] sz)) (0) (0) (va_A [(gr, .inr (5, [.ref ta, .ref sa, .ref al, .ref mk, .int (iI gt), .int (iI ng)]))] sz) := by
  refine zMet (by decide) (Nat.le_of_ble_eq_true rfl) ?_
  intro p e s m below meth c ls S hr hlk hnm hE ⟨hsz, hP, hDo, hX⟩ hl
  have hx := S.1
  have hb := S.2.1
  have hE0 := hE
  have hl : lv_has ls 1 [(0, .ref gr)] := hl
  subst hsz
  have hD := hDo.self (sz := s.heap.size)
  generalize hAe : va_A [(gr, .inr (5, [.ref ta, .ref sa, .ref al, .ref mk, .int (iI gt), .int (iI ng)]))] s.heap.size = A at hD ⊢
  have hA : ∀ q : Nat, s.heap.size ≤ q → A q := fun q h => by rw [← hAe]; exact Or.inr h
  have hA0 := zA0 hE hDo hAe
  have hS : va_S A s.heap s.heap [] := va_S.rf
  refine lv_aload_n hx hb d_Groups_greatest_0 rfl (lv_at hl 0 rfl) ?_
  refine zgf S hE (ci := 5) rfl i_Groups (hP 0 _ rfl) 4 (by decide) zw_106 rfl d_Groups_greatest_1 ?_
  exact zwi S hr hlk hS (⟨rfl, hP⟩) (by (try dsimp only); omega) (by (try dsimp only); omega) d_Groups_greatest_4

set_option maxRecDepth 100000 in
set_option maxHeartbeats 4000000 in
theorem c_Groups_namesGiven (l : Launch) (E : zP) (sz : Nat) (gr ta sa al mk : Nat) (gt ng : Int) : Met l y_Groups_namesGiven (.code y_Groups_namesGiven b_Groups_namesGiven 1 ( some FieldType.int ) :: zw) { frames := 0, cells := (0), slots := (0), locals := 0 } (zPc E [.ref gr] (fun H => H.size = sz ∧ va_P E.1 zcl [(gr, .inr (5, [.ref ta, .ref sa, .ref al, .ref mk, .int (iI gt), .int (iI ng)]))] H ∧ va_D (zOld E) [(gr, .inr (5, [.ref ta, .ref sa, .ref al, .ref mk, .int (iI gt), .int (iI ng)]))] ∧ (True))) (zW (fun v H => v = some (.int (iI ng)) ∧ va_P E.1 zcl [(gr, .inr (5, [.ref ta, .ref sa, .ref al, .ref mk, .int (iI gt), .int (iI ng)]))] H) (va_A [(gr, .inr (5, [.ref ta, .ref sa, .ref al, .ref mk, .int (iI gt), .int (iI ng)]))] sz)) (0) (0) (va_A [(gr, .inr (5, [.ref ta, .ref sa, .ref al, .ref mk, .int (iI gt), .int (iI ng)]))] sz) := by
  refine zMet (by decide) (Nat.le_of_ble_eq_true rfl) ?_
  intro p e s m below meth c ls S hr hlk hnm hE ⟨hsz, hP, hDo, hX⟩ hl
  have hx := S.1
  have hb := S.2.1
  have hE0 := hE
  have hl : lv_has ls 1 [(0, .ref gr)] := hl
  subst hsz
  have hD := hDo.self (sz := s.heap.size)
  generalize hAe : va_A [(gr, .inr (5, [.ref ta, .ref sa, .ref al, .ref mk, .int (iI gt), .int (iI ng)]))] s.heap.size = A at hD ⊢
  have hA : ∀ q : Nat, s.heap.size ≤ q → A q := fun q h => by rw [← hAe]; exact Or.inr h
  have hA0 := zA0 hE hDo hAe
  have hS : va_S A s.heap s.heap [] := va_S.rf
  refine lv_aload_n hx hb d_Groups_namesGiven_0 rfl (lv_at hl 0 rfl) ?_
  refine zgf S hE (ci := 5) rfl i_Groups (hP 0 _ rfl) 5 (by decide) zw_107 rfl d_Groups_namesGiven_1 ?_
  exact zwi S hr hlk hS (⟨rfl, hP⟩) (by (try dsimp only); omega) (by (try dsimp only); omega) d_Groups_namesGiven_4

theorem zupd_b {f : Nat → Int32} {n0 : Nat} (b : Bool) : upd f (Int.toNat ((n0 : Nat) : Int)) (vp_nar .boolean (iI (bN b))) = fun j => if j = n0 then iI (bN b) else f j := by
  funext j
  unfold upd
  rw [Int.toNat_natCast, show vp_nar .boolean (iI (bN b)) = iI (bN b) by cases b <;> decide]
set_option maxRecDepth 100000 in
set_option maxHeartbeats 4000000 in
theorem c_Groups_letGo (l : Launch) (E : zP) (sz : Nat) (gr ta sa al mk : Nat) (gt ng : Int) (fs : Nat → Int32) (n0 : Nat) (hn : n0 < 100) : Met l y_Groups_letGo (.code y_Groups_letGo b_Groups_letGo 2 ( Option.none : Option FieldType ) :: zw) { frames := 0, cells := (0), slots := (0), locals := 0 } (zPc E [.ref gr, .int (iI ((n0 : Nat) : Int))] (fun H => H.size = sz ∧ va_P E.1 zcl [(gr, .inr (5, [.ref ta, .ref sa, .ref al, .ref mk, .int (iI gt), .int (iI ng)])), (sa, .inl (E.2.1 1, 100, .inl fs))] H ∧ va_D (zOld E) [(gr, .inr (5, [.ref ta, .ref sa, .ref al, .ref mk, .int (iI gt), .int (iI ng)])), (sa, .inl (E.2.1 1, 100, .inl fs))] ∧ (True))) (zW (fun v H => v = none ∧ va_P E.1 zcl [(gr, .inr (5, [.ref ta, .ref sa, .ref al, .ref mk, .int (iI gt), .int (iI ng)])), (sa, .inl (E.2.1 1, 100, .inl (fun j => if j = n0 then iI (bN false) else fs j)))] H ∧ va_D (va_A [(gr, .inr (5, [.ref ta, .ref sa, .ref al, .ref mk, .int (iI gt), .int (iI ng)])), (sa, .inl (E.2.1 1, 100, .inl fs))] sz) [(gr, .inr (5, [.ref ta, .ref sa, .ref al, .ref mk, .int (iI gt), .int (iI ng)])), (sa, .inl (E.2.1 1, 100, .inl (fun j => if j = n0 then iI (bN false) else fs j)))]) (va_A [(gr, .inr (5, [.ref ta, .ref sa, .ref al, .ref mk, .int (iI gt), .int (iI ng)])), (sa, .inl (E.2.1 1, 100, .inl fs))] sz)) (0) (0) (va_A [(gr, .inr (5, [.ref ta, .ref sa, .ref al, .ref mk, .int (iI gt), .int (iI ng)])), (sa, .inl (E.2.1 1, 100, .inl fs))] sz) := by
  refine zMet (by decide) (Nat.le_of_ble_eq_true rfl) ?_
  intro p e s m below meth c ls S hr hlk hnm hE ⟨hsz, hP, hDo, hX⟩ hl
  have hx := S.1
  have hb := S.2.1
  have hE0 := hE
  have hl : lv_has ls 2 [(0, .ref gr), (1, .int (iI ((n0 : Nat) : Int)))] := hl
  subst hsz
  have hD := hDo.self (sz := s.heap.size)
  generalize hAe : va_A [(gr, .inr (5, [.ref ta, .ref sa, .ref al, .ref mk, .int (iI gt), .int (iI ng)])), (sa, .inl (E.2.1 1, 100, .inl fs))] s.heap.size = A at hD ⊢
  have hA : ∀ q : Nat, s.heap.size ≤ q → A q := fun q h => by rw [← hAe]; exact Or.inr h
  have hA0 := zA0 hE hDo hAe
  have hS : va_S A s.heap s.heap [] := va_S.rf
  refine lv_aload_n hx hb d_Groups_letGo_0 rfl (lv_at hl 0 rfl) ?_
  refine zgf S hE (ci := 5) rfl i_Groups (hP 0 _ rfl) 1 (by decide) zw_103 rfl d_Groups_letGo_1 ?_
  refine lv_iload_n hx hb d_Groups_letGo_4 rfl (lv_at hl 1 rfl) ?_
  refine zi_iconst hx hb d_Groups_letGo_5 ?_
  refine zzast hx hb hE hP hD hS 1 rfl (by omega) (by omega) (by omega) d_Groups_letGo_6 (fun H locs hP hD hS => ?_)
  have hP : va_P E.1 zcl [(gr, .inr (5, [.ref ta, .ref sa, .ref al, .ref mk, .int (iI gt), .int (iI ng)])), (sa, .inl (E.2.1 1, 100, .inl (upd fs (Int.toNat ((n0 : Nat) : Int)) (vp_nar .boolean (iI 0)))))] H := hP
  have hD : va_D A [(gr, .inr (5, [.ref ta, .ref sa, .ref al, .ref mk, .int (iI gt), .int (iI ng)])), (sa, .inl (E.2.1 1, 100, .inl (upd fs (Int.toNat ((n0 : Nat) : Int)) (vp_nar .boolean (iI 0)))))] := hD
  have hE := hE0.at hS hA0
  have hP9 : va_P E.1 zcl [(gr, .inr (5, [.ref ta, .ref sa, .ref al, .ref mk, .int (iI gt), .int (iI ng)])), (sa, .inl (E.2.1 1, 100, .inl (upd fs (Int.toNat ((n0 : Nat) : Int)) (vp_nar .boolean (iI 0)))))] H := hP
  have hD9 : va_D A [(gr, .inr (5, [.ref ta, .ref sa, .ref al, .ref mk, .int (iI gt), .int (iI ng)])), (sa, .inl (E.2.1 1, 100, .inl (upd fs (Int.toNat ((n0 : Nat) : Int)) (vp_nar .boolean (iI 0)))))] := hD
  rw [show iI 0 = iI (bN false) from rfl, zupd_b] at hP9 hD9
  exact zwv S hr hlk hS (⟨rfl, hP9, hD9⟩) (by (try dsimp only); omega) (by (try dsimp only); omega) d_Groups_letGo_7

set_option maxRecDepth 100000 in
set_option maxHeartbeats 4000000 in
theorem c_Groups_hold (l : Launch) (E : zP) (sz : Nat) (gr ta sa al mk : Nat) (gt ng : Int) (fs : Nat → Int32) (n0 r1 tx : Nat) (ft : Nat → Option Nat) (q cap q2 cap2 : Nat) (f f2 : Nat → Int32) (b b2 : List Nat) (hn : n0 < 100) (hra : ft n0 = some r1) (hB : zbytes b cap f) (hF : zfit cap f) (hB2 : zbytes b2 cap2 f2) (hF2 : zfit cap2 f2) (hl2 : b2.length ≤ 65536) : Met l y_Groups_hold (.code y_Groups_hold b_Groups_hold 3 ( Option.none : Option FieldType ) :: zw) { frames := 2, cells := (1), slots := (b2.length), locals := 60 } (zPc E [.ref gr, .int (iI ((n0 : Nat) : Int)), .ref tx] (fun H => H.size = sz ∧ va_P E.1 zcl [(gr, .inr (5, [.ref ta, .ref sa, .ref al, .ref mk, .int (iI gt), .int (iI ng)])), (ta, .inl (E.2.1 4, 100, .inr (.inr (.inr (.inr ft))))), (sa, .inl (E.2.1 1, 100, .inl fs)), (r1, .inr (1, [.int (iI 65536), .ref q, .int (iI ((b.length : Nat) : Int))])), (q, .inl (E.2.1 0, cap, .inl f)), (tx, .inr (1, [.int (iI 65536), .ref q2, .int (iI ((b2.length : Nat) : Int))])), (q2, .inl (E.2.1 0, cap2, .inl f2))] H ∧ va_D (zOld E) [(gr, .inr (5, [.ref ta, .ref sa, .ref al, .ref mk, .int (iI gt), .int (iI ng)])), (ta, .inl (E.2.1 4, 100, .inr (.inr (.inr (.inr ft))))), (sa, .inl (E.2.1 1, 100, .inl fs)), (r1, .inr (1, [.int (iI 65536), .ref q, .int (iI ((b.length : Nat) : Int))])), (q, .inl (E.2.1 0, cap, .inl f)), (tx, .inr (1, [.int (iI 65536), .ref q2, .int (iI ((b2.length : Nat) : Int))])), (q2, .inl (E.2.1 0, cap2, .inl f2))] ∧ (True))) (zW (fun v H => v = none ∧ ∃ (q3 cap3 : Nat) (f3 : Nat → Int32), va_P E.1 zcl [(gr, .inr (5, [.ref ta, .ref sa, .ref al, .ref mk, .int (iI gt), .int (iI ng)])), (ta, .inl (E.2.1 4, 100, .inr (.inr (.inr (.inr ft))))), (sa, .inl (E.2.1 1, 100, .inl (fun j => if j = n0 then iI (bN true) else fs j))), (r1, .inr (1, [.int (iI 65536), .ref q3, .int (iI ((b2.length : Nat) : Int))])), (q3, .inl (E.2.1 0, cap3, .inl f3)), (tx, .inr (1, [.int (iI 65536), .ref q2, .int (iI ((b2.length : Nat) : Int))])), (q2, .inl (E.2.1 0, cap2, .inl f2))] H ∧ va_D (va_A [(gr, .inr (5, [.ref ta, .ref sa, .ref al, .ref mk, .int (iI gt), .int (iI ng)])), (ta, .inl (E.2.1 4, 100, .inr (.inr (.inr (.inr ft))))), (sa, .inl (E.2.1 1, 100, .inl fs)), (r1, .inr (1, [.int (iI 65536), .ref q, .int (iI ((b.length : Nat) : Int))])), (q, .inl (E.2.1 0, cap, .inl f)), (tx, .inr (1, [.int (iI 65536), .ref q2, .int (iI ((b2.length : Nat) : Int))])), (q2, .inl (E.2.1 0, cap2, .inl f2))] sz) [(gr, .inr (5, [.ref ta, .ref sa, .ref al, .ref mk, .int (iI gt), .int (iI ng)])), (ta, .inl (E.2.1 4, 100, .inr (.inr (.inr (.inr ft))))), (sa, .inl (E.2.1 1, 100, .inl (fun j => if j = n0 then iI (bN true) else fs j))), (r1, .inr (1, [.int (iI 65536), .ref q3, .int (iI ((b2.length : Nat) : Int))])), (q3, .inl (E.2.1 0, cap3, .inl f3)), (tx, .inr (1, [.int (iI 65536), .ref q2, .int (iI ((b2.length : Nat) : Int))])), (q2, .inl (E.2.1 0, cap2, .inl f2))] ∧ zbytes b2 cap3 f3 ∧ zfit cap3 f3 ∧ cap3 = max cap b2.length) (va_A [(gr, .inr (5, [.ref ta, .ref sa, .ref al, .ref mk, .int (iI gt), .int (iI ng)])), (ta, .inl (E.2.1 4, 100, .inr (.inr (.inr (.inr ft))))), (sa, .inl (E.2.1 1, 100, .inl fs)), (r1, .inr (1, [.int (iI 65536), .ref q, .int (iI ((b.length : Nat) : Int))])), (q, .inl (E.2.1 0, cap, .inl f)), (tx, .inr (1, [.int (iI 65536), .ref q2, .int (iI ((b2.length : Nat) : Int))])), (q2, .inl (E.2.1 0, cap2, .inl f2))] sz)) (1) (b2.length) (va_A [(gr, .inr (5, [.ref ta, .ref sa, .ref al, .ref mk, .int (iI gt), .int (iI ng)])), (ta, .inl (E.2.1 4, 100, .inr (.inr (.inr (.inr ft))))), (sa, .inl (E.2.1 1, 100, .inl fs)), (r1, .inr (1, [.int (iI 65536), .ref q, .int (iI ((b.length : Nat) : Int))])), (q, .inl (E.2.1 0, cap, .inl f)), (tx, .inr (1, [.int (iI 65536), .ref q2, .int (iI ((b2.length : Nat) : Int))])), (q2, .inl (E.2.1 0, cap2, .inl f2))] sz) := by
  refine zMet (by decide) (Nat.le_of_ble_eq_true rfl) ?_
  intro p e s m below meth c ls S hr hlk hnm hE ⟨hsz, hP, hDo, hX⟩ hl
  have hx := S.1
  have hb := S.2.1
  have hE0 := hE
  have hl : lv_has ls 3 [(0, .ref gr), (1, .int (iI ((n0 : Nat) : Int))), (2, .ref tx)] := hl
  subst hsz
  have hD := hDo.self (sz := s.heap.size)
  generalize hAe : va_A [(gr, .inr (5, [.ref ta, .ref sa, .ref al, .ref mk, .int (iI gt), .int (iI ng)])), (ta, .inl (E.2.1 4, 100, .inr (.inr (.inr (.inr ft))))), (sa, .inl (E.2.1 1, 100, .inl fs)), (r1, .inr (1, [.int (iI 65536), .ref q, .int (iI ((b.length : Nat) : Int))])), (q, .inl (E.2.1 0, cap, .inl f)), (tx, .inr (1, [.int (iI 65536), .ref q2, .int (iI ((b2.length : Nat) : Int))])), (q2, .inl (E.2.1 0, cap2, .inl f2))] s.heap.size = A at hD ⊢
  have hA : ∀ q : Nat, s.heap.size ≤ q → A q := fun q h => by rw [← hAe]; exact Or.inr h
  have hA0 := zA0 hE hDo hAe
  have hS : va_S A s.heap s.heap [] := va_S.rf
  refine lv_aload_n hx hb d_Groups_hold_0 rfl (lv_at hl 0 rfl) ?_
  refine zgf S hE (ci := 5) rfl i_Groups (hP 0 _ rfl) 0 (by decide) zw_102 rfl d_Groups_hold_1 ?_
  refine lv_iload_n hx hb d_Groups_hold_4 rfl (lv_at hl 1 rfl) ?_
  refine zaald (y := r1) hx hb hE 4 rfl (hP 1 _ rfl) (by omega) (by omega) (by omega) (by rw [Int.toNat_natCast]; exact hra) d_Groups_hold_5 ?_
  refine lv_aload_n hx hb d_Groups_hold_6 rfl (lv_at hl 2 rfl) ?_
  have hPc := hP.sub (ws' := [(r1, .inr (1, [.int (iI 65536), .ref q, .int (iI ((b.length : Nat) : Int))])), (q, .inl (E.2.1 0, cap, .inl f)), (tx, .inr (1, [.int (iI 65536), .ref q2, .int (iI ((b2.length : Nat) : Int))])), (q2, .inl (E.2.1 0, cap2, .inl f2))]) [3, 4, 5, 6] rfl
  have hDc := hD.sub (ws' := [(r1, .inr (1, [.int (iI 65536), .ref q, .int (iI ((b.length : Nat) : Int))])), (q, .inl (E.2.1 0, cap, .inl f)), (tx, .inr (1, [.int (iI 65536), .ref q2, .int (iI ((b2.length : Nat) : Int))])), (q2, .inl (E.2.1 0, cap2, .inl f2))]) [3, 4, 5, 6] (by decide) rfl
  have hFc := va_free (wc := [(r1, .inr (1, [.int (iI 65536), .ref q, .int (iI ((b.length : Nat) : Int))])), (q, .inl (E.2.1 0, cap, .inl f)), (tx, .inr (1, [.int (iI 65536), .ref q2, .int (iI ((b2.length : Nat) : Int))])), (q2, .inl (E.2.1 0, cap2, .inl f2))]) hD hS hA [3, 4, 5, 6] rfl
  refine zcW (va_runV (As := [.ref tx]) (rest := []) S (c_Row_become l E _ r1 q cap tx q2 cap2 65536 65536 f f2 b b2 hB hF hB2 hF2 hl2) ⟨zcwB (n := 1) S zw_484 zw_2 zw_481 (by decide +kernel) rfl rfl ⟨Nat.le_of_ble_eq_true rfl, Nat.le_of_ble_eq_true rfl⟩, S.2.2.2.2 _ zw_482, S.2.2.2.2 _ zw_483⟩ (zPreV hE (hP 3 _ rfl) rfl ⟨rfl, hPc, hDc.weaken (fun _ _ _ h => hA0 _ h), trivial⟩) rfl rfl hl.1 rfl (lv_room (Nat.le_of_ble_eq_true rfl)) d_Groups_hold_7 ⟨by (try dsimp only); omega, by (try dsimp only); omega⟩) hS (fun q _ h => hFc q h) hFc (fun v H locs hq hz1 hk1 hS => ?_)
  obtain ⟨rfl, q3, cap3, f3, hP1, hD1, hB3, hF3, hc3⟩ := hq
  obtain ⟨hP, hD⟩ := va_join (wr := [(gr, .inr (5, [.ref ta, .ref sa, .ref al, .ref mk, .int (iI gt), .int (iI ng)])), (ta, .inl (E.2.1 4, 100, .inr (.inr (.inr (.inr ft))))), (sa, .inl (E.2.1 1, 100, .inl fs))]) (w1 := [(r1, .inr (1, [.int (iI 65536), .ref q3, .int (iI ((b2.length : Nat) : Int))])), (q3, .inl (E.2.1 0, cap3, .inl f3)), (tx, .inr (1, [.int (iI 65536), .ref q2, .int (iI ((b2.length : Nat) : Int))])), (q2, .inl (E.2.1 0, cap2, .inl f2))]) hP hD [3, 4, 5, 6] [0, 1, 2] rfl rfl (by decide) (by decide) hk1 hFc hP1 hD1
  have hP : va_P E.1 zcl [(gr, .inr (5, [.ref ta, .ref sa, .ref al, .ref mk, .int (iI gt), .int (iI ng)])), (ta, .inl (E.2.1 4, 100, .inr (.inr (.inr (.inr ft))))), (sa, .inl (E.2.1 1, 100, .inl fs)), (r1, .inr (1, [.int (iI 65536), .ref q3, .int (iI ((b2.length : Nat) : Int))])), (q3, .inl (E.2.1 0, cap3, .inl f3)), (tx, .inr (1, [.int (iI 65536), .ref q2, .int (iI ((b2.length : Nat) : Int))])), (q2, .inl (E.2.1 0, cap2, .inl f2))] H := hP
  have hD : va_D A [(gr, .inr (5, [.ref ta, .ref sa, .ref al, .ref mk, .int (iI gt), .int (iI ng)])), (ta, .inl (E.2.1 4, 100, .inr (.inr (.inr (.inr ft))))), (sa, .inl (E.2.1 1, 100, .inl fs)), (r1, .inr (1, [.int (iI 65536), .ref q3, .int (iI ((b2.length : Nat) : Int))])), (q3, .inl (E.2.1 0, cap3, .inl f3)), (tx, .inr (1, [.int (iI 65536), .ref q2, .int (iI ((b2.length : Nat) : Int))])), (q2, .inl (E.2.1 0, cap2, .inl f2))] := hD
  have hE := hE0.at hS hA0
  refine lv_aload_n hx hb d_Groups_hold_10 rfl (lv_at hl 0 rfl) ?_
  refine zgf S hE (ci := 5) rfl i_Groups (hP 0 _ rfl) 1 (by decide) zw_103 rfl d_Groups_hold_11 ?_
  refine lv_iload_n hx hb d_Groups_hold_14 rfl (lv_at hl 1 rfl) ?_
  refine zi_iconst hx hb d_Groups_hold_15 ?_
  refine zzast hx hb hE hP hD hS 2 rfl (by omega) (by omega) (by omega) d_Groups_hold_16 (fun H locs hP hD hS => ?_)
  have hP : va_P E.1 zcl [(gr, .inr (5, [.ref ta, .ref sa, .ref al, .ref mk, .int (iI gt), .int (iI ng)])), (ta, .inl (E.2.1 4, 100, .inr (.inr (.inr (.inr ft))))), (sa, .inl (E.2.1 1, 100, .inl (upd fs (Int.toNat ((n0 : Nat) : Int)) (vp_nar .boolean (iI 1))))), (r1, .inr (1, [.int (iI 65536), .ref q3, .int (iI ((b2.length : Nat) : Int))])), (q3, .inl (E.2.1 0, cap3, .inl f3)), (tx, .inr (1, [.int (iI 65536), .ref q2, .int (iI ((b2.length : Nat) : Int))])), (q2, .inl (E.2.1 0, cap2, .inl f2))] H := hP
  have hD : va_D A [(gr, .inr (5, [.ref ta, .ref sa, .ref al, .ref mk, .int (iI gt), .int (iI ng)])), (ta, .inl (E.2.1 4, 100, .inr (.inr (.inr (.inr ft))))), (sa, .inl (E.2.1 1, 100, .inl (upd fs (Int.toNat ((n0 : Nat) : Int)) (vp_nar .boolean (iI 1))))), (r1, .inr (1, [.int (iI 65536), .ref q3, .int (iI ((b2.length : Nat) : Int))])), (q3, .inl (E.2.1 0, cap3, .inl f3)), (tx, .inr (1, [.int (iI 65536), .ref q2, .int (iI ((b2.length : Nat) : Int))])), (q2, .inl (E.2.1 0, cap2, .inl f2))] := hD
  have hE := hE0.at hS hA0
  have hP9 := hP.sub (ws' := [(gr, .inr (5, [.ref ta, .ref sa, .ref al, .ref mk, .int (iI gt), .int (iI ng)])), (ta, .inl (E.2.1 4, 100, .inr (.inr (.inr (.inr ft))))), (sa, .inl (E.2.1 1, 100, .inl (upd fs (Int.toNat ((n0 : Nat) : Int)) (vp_nar .boolean (iI 1))))), (r1, .inr (1, [.int (iI 65536), .ref q3, .int (iI ((b2.length : Nat) : Int))])), (q3, .inl (E.2.1 0, cap3, .inl f3)), (tx, .inr (1, [.int (iI 65536), .ref q2, .int (iI ((b2.length : Nat) : Int))])), (q2, .inl (E.2.1 0, cap2, .inl f2))]) [0, 1, 2, 3, 4, 5, 6] rfl
  have hD9 := hD.sub (ws' := [(gr, .inr (5, [.ref ta, .ref sa, .ref al, .ref mk, .int (iI gt), .int (iI ng)])), (ta, .inl (E.2.1 4, 100, .inr (.inr (.inr (.inr ft))))), (sa, .inl (E.2.1 1, 100, .inl (upd fs (Int.toNat ((n0 : Nat) : Int)) (vp_nar .boolean (iI 1))))), (r1, .inr (1, [.int (iI 65536), .ref q3, .int (iI ((b2.length : Nat) : Int))])), (q3, .inl (E.2.1 0, cap3, .inl f3)), (tx, .inr (1, [.int (iI 65536), .ref q2, .int (iI ((b2.length : Nat) : Int))])), (q2, .inl (E.2.1 0, cap2, .inl f2))]) [0, 1, 2, 3, 4, 5, 6] (by decide) rfl
  rw [show iI 1 = iI (bN true) from rfl, zupd_b] at hP9 hD9
  exact zwv S hr hlk hS (⟨rfl, q3, cap3, f3, hP9, hD9, hB3, hF3, hc3⟩) (by (try dsimp only); omega) (by (try dsimp only); omega) d_Groups_hold_17

set_option maxRecDepth 100000 in
set_option maxHeartbeats 4000000 in
theorem c_Groups_holdMark (l : Launch) (E : zP) (sz : Nat) (gr ta sa al mk : Nat) (gt ng : Int) (tx : Nat) (q cap q2 cap2 : Nat) (f f2 : Nat → Int32) (b b2 : List Nat) (hB : zbytes b cap f) (hF : zfit cap f) (hB2 : zbytes b2 cap2 f2) (hF2 : zfit cap2 f2) (hl2 : b2.length ≤ 65536) : Met l y_Groups_holdMark (.code y_Groups_holdMark b_Groups_holdMark 2 ( Option.none : Option FieldType ) :: zw) { frames := 2, cells := (1), slots := (b2.length), locals := 60 } (zPc E [.ref gr, .ref tx] (fun H => H.size = sz ∧ va_P E.1 zcl [(gr, .inr (5, [.ref ta, .ref sa, .ref al, .ref mk, .int (iI gt), .int (iI ng)])), (mk, .inr (1, [.int (iI 65536), .ref q, .int (iI ((b.length : Nat) : Int))])), (q, .inl (E.2.1 0, cap, .inl f)), (tx, .inr (1, [.int (iI 65536), .ref q2, .int (iI ((b2.length : Nat) : Int))])), (q2, .inl (E.2.1 0, cap2, .inl f2))] H ∧ va_D (zOld E) [(gr, .inr (5, [.ref ta, .ref sa, .ref al, .ref mk, .int (iI gt), .int (iI ng)])), (mk, .inr (1, [.int (iI 65536), .ref q, .int (iI ((b.length : Nat) : Int))])), (q, .inl (E.2.1 0, cap, .inl f)), (tx, .inr (1, [.int (iI 65536), .ref q2, .int (iI ((b2.length : Nat) : Int))])), (q2, .inl (E.2.1 0, cap2, .inl f2))] ∧ (True))) (zW (fun v H => v = none ∧ ∃ (q3 cap3 : Nat) (f3 : Nat → Int32), va_P E.1 zcl [(gr, .inr (5, [.ref ta, .ref sa, .ref al, .ref mk, .int (iI gt), .int (iI ng)])), (mk, .inr (1, [.int (iI 65536), .ref q3, .int (iI ((b2.length : Nat) : Int))])), (q3, .inl (E.2.1 0, cap3, .inl f3)), (tx, .inr (1, [.int (iI 65536), .ref q2, .int (iI ((b2.length : Nat) : Int))])), (q2, .inl (E.2.1 0, cap2, .inl f2))] H ∧ va_D (va_A [(gr, .inr (5, [.ref ta, .ref sa, .ref al, .ref mk, .int (iI gt), .int (iI ng)])), (mk, .inr (1, [.int (iI 65536), .ref q, .int (iI ((b.length : Nat) : Int))])), (q, .inl (E.2.1 0, cap, .inl f)), (tx, .inr (1, [.int (iI 65536), .ref q2, .int (iI ((b2.length : Nat) : Int))])), (q2, .inl (E.2.1 0, cap2, .inl f2))] sz) [(gr, .inr (5, [.ref ta, .ref sa, .ref al, .ref mk, .int (iI gt), .int (iI ng)])), (mk, .inr (1, [.int (iI 65536), .ref q3, .int (iI ((b2.length : Nat) : Int))])), (q3, .inl (E.2.1 0, cap3, .inl f3)), (tx, .inr (1, [.int (iI 65536), .ref q2, .int (iI ((b2.length : Nat) : Int))])), (q2, .inl (E.2.1 0, cap2, .inl f2))] ∧ zbytes b2 cap3 f3 ∧ zfit cap3 f3 ∧ cap3 = max cap b2.length) (va_A [(gr, .inr (5, [.ref ta, .ref sa, .ref al, .ref mk, .int (iI gt), .int (iI ng)])), (mk, .inr (1, [.int (iI 65536), .ref q, .int (iI ((b.length : Nat) : Int))])), (q, .inl (E.2.1 0, cap, .inl f)), (tx, .inr (1, [.int (iI 65536), .ref q2, .int (iI ((b2.length : Nat) : Int))])), (q2, .inl (E.2.1 0, cap2, .inl f2))] sz)) (1) (b2.length) (va_A [(gr, .inr (5, [.ref ta, .ref sa, .ref al, .ref mk, .int (iI gt), .int (iI ng)])), (mk, .inr (1, [.int (iI 65536), .ref q, .int (iI ((b.length : Nat) : Int))])), (q, .inl (E.2.1 0, cap, .inl f)), (tx, .inr (1, [.int (iI 65536), .ref q2, .int (iI ((b2.length : Nat) : Int))])), (q2, .inl (E.2.1 0, cap2, .inl f2))] sz) := by
  refine zMet (by decide) (Nat.le_of_ble_eq_true rfl) ?_
  intro p e s m below meth c ls S hr hlk hnm hE ⟨hsz, hP, hDo, hX⟩ hl
  have hx := S.1
  have hb := S.2.1
  have hE0 := hE
  have hl : lv_has ls 2 [(0, .ref gr), (1, .ref tx)] := hl
  subst hsz
  have hD := hDo.self (sz := s.heap.size)
  generalize hAe : va_A [(gr, .inr (5, [.ref ta, .ref sa, .ref al, .ref mk, .int (iI gt), .int (iI ng)])), (mk, .inr (1, [.int (iI 65536), .ref q, .int (iI ((b.length : Nat) : Int))])), (q, .inl (E.2.1 0, cap, .inl f)), (tx, .inr (1, [.int (iI 65536), .ref q2, .int (iI ((b2.length : Nat) : Int))])), (q2, .inl (E.2.1 0, cap2, .inl f2))] s.heap.size = A at hD ⊢
  have hA : ∀ q : Nat, s.heap.size ≤ q → A q := fun q h => by rw [← hAe]; exact Or.inr h
  have hA0 := zA0 hE hDo hAe
  have hS : va_S A s.heap s.heap [] := va_S.rf
  refine lv_aload_n hx hb d_Groups_holdMark_0 rfl (lv_at hl 0 rfl) ?_
  refine zgf S hE (ci := 5) rfl i_Groups (hP 0 _ rfl) 3 (by decide) zw_105 rfl d_Groups_holdMark_1 ?_
  refine lv_aload_n hx hb d_Groups_holdMark_4 rfl (lv_at hl 1 rfl) ?_
  have hPc := hP.sub (ws' := [(mk, .inr (1, [.int (iI 65536), .ref q, .int (iI ((b.length : Nat) : Int))])), (q, .inl (E.2.1 0, cap, .inl f)), (tx, .inr (1, [.int (iI 65536), .ref q2, .int (iI ((b2.length : Nat) : Int))])), (q2, .inl (E.2.1 0, cap2, .inl f2))]) [1, 2, 3, 4] rfl
  have hDc := hD.sub (ws' := [(mk, .inr (1, [.int (iI 65536), .ref q, .int (iI ((b.length : Nat) : Int))])), (q, .inl (E.2.1 0, cap, .inl f)), (tx, .inr (1, [.int (iI 65536), .ref q2, .int (iI ((b2.length : Nat) : Int))])), (q2, .inl (E.2.1 0, cap2, .inl f2))]) [1, 2, 3, 4] (by decide) rfl
  have hFc := va_free (wc := [(mk, .inr (1, [.int (iI 65536), .ref q, .int (iI ((b.length : Nat) : Int))])), (q, .inl (E.2.1 0, cap, .inl f)), (tx, .inr (1, [.int (iI 65536), .ref q2, .int (iI ((b2.length : Nat) : Int))])), (q2, .inl (E.2.1 0, cap2, .inl f2))]) hD hS hA [1, 2, 3, 4] rfl
  refine zcW (va_runV (As := [.ref tx]) (rest := []) S (c_Row_become l E _ mk q cap tx q2 cap2 65536 65536 f f2 b b2 hB hF hB2 hF2 hl2) ⟨zcwB (n := 1) S zw_484 zw_2 zw_481 (by decide +kernel) rfl rfl ⟨Nat.le_of_ble_eq_true rfl, Nat.le_of_ble_eq_true rfl⟩, S.2.2.2.2 _ zw_482, S.2.2.2.2 _ zw_483⟩ (zPreV hE (hP 1 _ rfl) rfl ⟨rfl, hPc, hDc.weaken (fun _ _ _ h => hA0 _ h), trivial⟩) rfl rfl hl.1 rfl (lv_room (Nat.le_of_ble_eq_true rfl)) d_Groups_holdMark_5 ⟨by (try dsimp only); omega, by (try dsimp only); omega⟩) hS (fun q _ h => hFc q h) hFc (fun v H locs hq hz1 hk1 hS => ?_)
  obtain ⟨rfl, q3, cap3, f3, hP1, hD1, hB3, hF3, hc3⟩ := hq
  obtain ⟨hP, hD⟩ := va_join (wr := [(gr, .inr (5, [.ref ta, .ref sa, .ref al, .ref mk, .int (iI gt), .int (iI ng)]))]) (w1 := [(mk, .inr (1, [.int (iI 65536), .ref q3, .int (iI ((b2.length : Nat) : Int))])), (q3, .inl (E.2.1 0, cap3, .inl f3)), (tx, .inr (1, [.int (iI 65536), .ref q2, .int (iI ((b2.length : Nat) : Int))])), (q2, .inl (E.2.1 0, cap2, .inl f2))]) hP hD [1, 2, 3, 4] [0] rfl rfl (by decide) (by decide) hk1 hFc hP1 hD1
  have hP : va_P E.1 zcl [(gr, .inr (5, [.ref ta, .ref sa, .ref al, .ref mk, .int (iI gt), .int (iI ng)])), (mk, .inr (1, [.int (iI 65536), .ref q3, .int (iI ((b2.length : Nat) : Int))])), (q3, .inl (E.2.1 0, cap3, .inl f3)), (tx, .inr (1, [.int (iI 65536), .ref q2, .int (iI ((b2.length : Nat) : Int))])), (q2, .inl (E.2.1 0, cap2, .inl f2))] H := hP
  have hD : va_D A [(gr, .inr (5, [.ref ta, .ref sa, .ref al, .ref mk, .int (iI gt), .int (iI ng)])), (mk, .inr (1, [.int (iI 65536), .ref q3, .int (iI ((b2.length : Nat) : Int))])), (q3, .inl (E.2.1 0, cap3, .inl f3)), (tx, .inr (1, [.int (iI 65536), .ref q2, .int (iI ((b2.length : Nat) : Int))])), (q2, .inl (E.2.1 0, cap2, .inl f2))] := hD
  have hE := hE0.at hS hA0
  exact zwv S hr hlk hS (⟨rfl, q3, cap3, f3, hP.sub (ws' := [(gr, .inr (5, [.ref ta, .ref sa, .ref al, .ref mk, .int (iI gt), .int (iI ng)])), (mk, .inr (1, [.int (iI 65536), .ref q3, .int (iI ((b2.length : Nat) : Int))])), (q3, .inl (E.2.1 0, cap3, .inl f3)), (tx, .inr (1, [.int (iI 65536), .ref q2, .int (iI ((b2.length : Nat) : Int))])), (q2, .inl (E.2.1 0, cap2, .inl f2))]) [0, 1, 2, 3, 4] rfl, hD.sub (ws' := [(gr, .inr (5, [.ref ta, .ref sa, .ref al, .ref mk, .int (iI gt), .int (iI ng)])), (mk, .inr (1, [.int (iI 65536), .ref q3, .int (iI ((b2.length : Nat) : Int))])), (q3, .inl (E.2.1 0, cap3, .inl f3)), (tx, .inr (1, [.int (iI 65536), .ref q2, .int (iI ((b2.length : Nat) : Int))])), (q2, .inl (E.2.1 0, cap2, .inl f2))]) [0, 1, 2, 3, 4] (by decide) rfl, hB3, hF3, hc3⟩) (by (try dsimp only); omega) (by (try dsimp only); omega) d_Groups_holdMark_8
