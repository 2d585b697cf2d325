/-! The reference's table of characters. -/
def rf_set (f : Nat → Int32) (r : Nat × Nat × Nat) : Nat → Int32 := fun j => if r.1 ≤ j ∧ j ≤ r.2.1 then iI ((r.2.2 : Nat) : Int) else f j
theorem rf_byte : ∀ w, w < 128 → vp_nar .byte ((iI ((w : Nat) : Int)).toInt8.toInt32) = iI ((w : Nat) : Int) := by decide +kernel
theorem rf_sets (f : Nat → Int32) : ∀ (l : List (Nat × Nat × Nat)) (j : Nat), (l.foldl rf_set f) j = match l.reverse.find? (fun r => decide (r.1 ≤ j ∧ j ≤ r.2.1)) with | some r => iI ((r.2.2 : Nat) : Int) | none => f j := by
  intro l
  induction l generalizing f with
  | nil => intro j; rfl
  | cons r l ih =>
    intro j
    rw [List.foldl_cons, ih, List.reverse_cons, List.find?_append]
    cases h : l.reverse.find? (fun r => decide (r.1 ≤ j ∧ j ≤ r.2.1)) with
    | some q => rfl
    | none =>
      by_cases c : r.1 ≤ j ∧ j ≤ r.2.1
      · simp [rf_set, c]
      · simp [rf_set, c]
set_option maxRecDepth 100000 in
set_option maxHeartbeats 4000000 in
theorem c_Table_kinds (l : Launch) (E : zP) (sz : Nat) (tb kq mq : Nat) (utf ucp : Bool) (la mz : Int) (f : Nat → Int32) (a b w : Nat) (hab : a ≤ b + 1) (hb : b < 12544) (hw : w < 128) : Met l y_Table_kinds (.code y_Table_kinds b_Table_kinds 5 ( Option.none : Option FieldType ) :: zw) { frames := 0, cells := (0), slots := (0), locals := 0 } (zPc E [.ref tb, .int (iI ((a : Nat) : Int)), .int (iI ((b : Nat) : Int)), .int (iI ((w : Nat) : Int))] (fun H => H.size = sz ∧ va_P E.1 zcl [(tb, .inr (11, [.ref kq, .int (iI (bN utf)), .int (iI (bN ucp)), .int (iI la), .ref mq, .int (iI mz)])), (kq, .inl (E.2.1 0, 12544, .inl f))] H ∧ va_D (zOld E) [(tb, .inr (11, [.ref kq, .int (iI (bN utf)), .int (iI (bN ucp)), .int (iI la), .ref mq, .int (iI mz)])), (kq, .inl (E.2.1 0, 12544, .inl f))] ∧ (True))) (zW (fun v H => v = none ∧ va_P E.1 zcl [(tb, .inr (11, [.ref kq, .int (iI (bN utf)), .int (iI (bN ucp)), .int (iI la), .ref mq, .int (iI mz)])), (kq, .inl (E.2.1 0, 12544, .inl (rf_set f (a, b, w))))] H ∧ va_D (va_A [(tb, .inr (11, [.ref kq, .int (iI (bN utf)), .int (iI (bN ucp)), .int (iI la), .ref mq, .int (iI mz)])), (kq, .inl (E.2.1 0, 12544, .inl f))] sz) [(tb, .inr (11, [.ref kq, .int (iI (bN utf)), .int (iI (bN ucp)), .int (iI la), .ref mq, .int (iI mz)])), (kq, .inl (E.2.1 0, 12544, .inl (rf_set f (a, b, w))))]) (va_A [(tb, .inr (11, [.ref kq, .int (iI (bN utf)), .int (iI (bN ucp)), .int (iI la), .ref mq, .int (iI mz)])), (kq, .inl (E.2.1 0, 12544, .inl f))] sz)) (0) (0) (va_A [(tb, .inr (11, [.ref kq, .int (iI (bN utf)), .int (iI (bN ucp)), .int (iI la), .ref mq, .int (iI mz)])), (kq, .inl (E.2.1 0, 12544, .inl f))] sz) := by
  refine zMet (by decide) (Nat.le_of_ble_eq_true rfl) ?_
  intro p e s m below meth c ls S hr hlk hnm hE ⟨hsz, hP, hDo, hX⟩ hl
  have hx := S.1
  have hb := S.2.1
  have hE0 := hE
  have hl : lv_has ls 5 [(0, .ref tb), (1, .int (iI ((a : Nat) : Int))), (2, .int (iI ((b : Nat) : Int))), (3, .int (iI ((w : Nat) : Int)))] := hl
  subst hsz
  have hD := hDo.self (sz := s.heap.size)
  generalize hAe : va_A [(tb, .inr (11, [.ref kq, .int (iI (bN utf)), .int (iI (bN ucp)), .int (iI la), .ref mq, .int (iI mz)])), (kq, .inl (E.2.1 0, 12544, .inl f))] s.heap.size = A at hD ⊢
  have hA : ∀ q : Nat, s.heap.size ≤ q → A q := fun q h => by rw [← hAe]; exact Or.inr h
  have hA0 := zA0 hE hDo hAe
  have hS : va_S A s.heap s.heap [] := va_S.rf
  refine lv_iload_n hx hb d_Table_kinds_0 rfl (lv_at hl 1 rfl) ?_
  refine lv_istore (lv' := [(4, .int (iI ((a : Nat) : Int))), (0, .ref tb), (1, .int (iI ((a : Nat) : Int))), (2, .int (iI ((b : Nat) : Int))), (3, .int (iI ((w : Nat) : Int)))]) hx hb d_Table_kinds_1 hl (by decide) rfl (fun ls hl => ?_)
  have hP := hP.sub (ws' := [(tb, .inr (11, [.ref kq, .int (iI (bN utf)), .int (iI (bN ucp)), .int (iI la), .ref mq, .int (iI mz)])), (kq, .inl (E.2.1 0, 12544, .inl f))]) [0, 1] rfl
  have hD := hD.sub (ws' := [(tb, .inr (11, [.ref kq, .int (iI (bN utf)), .int (iI (bN ucp)), .int (iI la), .ref mq, .int (iI mz)])), (kq, .inl (E.2.1 0, 12544, .inl f))]) [0, 1] (by decide) rfl
  refine zloop (fun (x : Nat × (Nat → Int32)) H locs ls cells slots => match x with | (k, fk) => cells = 0 ∧ slots = 0 ∧ lv_has ls 5 [(4, .int (iI ((k : Nat) : Int))), (0, .ref tb), (1, .int (iI ((a : Nat) : Int))), (2, .int (iI ((b : Nat) : Int))), (3, .int (iI ((w : Nat) : Int)))] ∧ va_P E.1 zcl [(tb, .inr (11, [.ref kq, .int (iI (bN utf)), .int (iI (bN ucp)), .int (iI la), .ref mq, .int (iI mz)])), (kq, .inl (E.2.1 0, 12544, .inl fk))] H ∧ va_D A [(tb, .inr (11, [.ref kq, .int (iI (bN utf)), .int (iI (bN ucp)), .int (iI la), .ref mq, .int (iI mz)])), (kq, .inl (E.2.1 0, 12544, .inl fk))] ∧ va_S A s.heap H locs ∧ (a ≤ k ∧ k ≤ b + 1 ∧ ∀ j, fk j = if a ≤ j ∧ j < k then iI ((w : Nat) : Int) else f j)) (fun x => match x with | (k, fk) => b + 1 - k) ?_ (a, f) ⟨by simp, by simp, hl, hP, hD, hS, ⟨Nat.le_refl _, by omega, fun j => by rw [if_neg (by omega)]⟩⟩
  clear hl hP hD hS
  rintro ⟨k, fk⟩ H locs ls cells slots ⟨rfl, rfl, hl, hP, hD, hS, ⟨h1, h2, h3⟩⟩ ih
  have hE := hE0.at hS hA0
  refine lv_iload hx hb d_Table_kinds_3 (lv_at hl 0 rfl) ?_
  refine lv_iload_n hx hb d_Table_kinds_5 rfl (lv_at hl 3 rfl) ?_
  refine zi_icmp_gt hx hb d_Table_kinds_6 rfl (by omega) (by omega) (fun h6 => ?_) (fun h6 => ?_)
  · have hf : fk = rf_set f (a, b, w) := by funext j; rw [h3 j]; unfold rf_set; have e9 : k = b + 1 := (by omega); subst e9; dsimp only; (split <;> split) <;> first | rfl | (exfalso; omega)
    subst hf
    exact zwv S hr hlk hS (⟨rfl, hP, hD⟩) (by (try dsimp only); omega) (by (try dsimp only); omega) d_Table_kinds_24
  · refine lv_aload_n hx hb d_Table_kinds_9 rfl (lv_at hl 1 rfl) ?_
    refine zgf S hE (ci := 11) rfl i_Table (hP 0 _ rfl) 0 (by decide) zw_896 rfl d_Table_kinds_10 ?_
    refine lv_iload hx hb d_Table_kinds_13 (lv_at hl 0 rfl) ?_
    refine lv_iload_n hx hb d_Table_kinds_15 rfl (lv_at hl 4 rfl) ?_
    refine lv_i2b hx hb d_Table_kinds_16 rfl ?_
    refine zbast hx hb hE hP hD hS 1 rfl (by omega) (by omega) (by omega) d_Table_kinds_17 (fun H locs hP hD hS => ?_)
    have hP : va_P E.1 zcl [(tb, .inr (11, [.ref kq, .int (iI (bN utf)), .int (iI (bN ucp)), .int (iI la), .ref mq, .int (iI mz)])), (kq, .inl (E.2.1 0, 12544, .inl (upd fk (Int.toNat ((k : Nat) : Int)) (vp_nar .byte (((iI ((w : Nat) : Int))).toInt8.toInt32)))))] H := hP
    have hD : va_D A [(tb, .inr (11, [.ref kq, .int (iI (bN utf)), .int (iI (bN ucp)), .int (iI la), .ref mq, .int (iI mz)])), (kq, .inl (E.2.1 0, 12544, .inl (upd fk (Int.toNat ((k : Nat) : Int)) (vp_nar .byte (((iI ((w : Nat) : Int))).toInt8.toInt32)))))] := hD
    have hE := hE0.at hS hA0
    refine lv_iinc (k := 0) (v := (iI (((k : Nat) : Int) + 1))) (lv' := [(4, .int (iI (((k : Nat) : Int) + 1))), (0, .ref tb), (1, .int (iI ((a : Nat) : Int))), (2, .int (iI ((b : Nat) : Int))), (3, .int (iI ((w : Nat) : Int)))]) hx hb d_Table_kinds_18 hl rfl (iI_add _ _) (by decide) rfl (fun ls hl => ?_)
    refine lv_goto hx hb d_Table_kinds_21 rfl ?_
    refine W.widen (k := 0) (n := 0) (by (try dsimp only); omega) (by (try dsimp only); omega) ?_
    exact ih (k + 1, upd fk (Int.toNat ((k : Nat) : Int)) (vp_nar .byte (((iI ((w : Nat) : Int))).toInt8.toInt32))) H locs ls _ _ (show b + 1 - (k + 1) < b + 1 - k from by omega) ⟨rfl, rfl, lv_sub hl [0, 1, 2, 3, 4] rfl, hP.sub (ws' := [(tb, .inr (11, [.ref kq, .int (iI (bN utf)), .int (iI (bN ucp)), .int (iI la), .ref mq, .int (iI mz)])), (kq, .inl (E.2.1 0, 12544, .inl (upd fk (Int.toNat ((k : Nat) : Int)) (vp_nar .byte (((iI ((w : Nat) : Int))).toInt8.toInt32)))))]) [0, 1] rfl, hD.sub (ws' := [(tb, .inr (11, [.ref kq, .int (iI (bN utf)), .int (iI (bN ucp)), .int (iI la), .ref mq, .int (iI mz)])), (kq, .inl (E.2.1 0, 12544, .inl (upd fk (Int.toNat ((k : Nat) : Int)) (vp_nar .byte (((iI ((w : Nat) : Int))).toInt8.toInt32)))))]) [0, 1] (by decide) rfl, hS, ⟨by omega, by omega, fun j => by unfold upd; rw [rf_byte w hw, Int.toNat_natCast, h3 j]; by_cases q : j = k <;> by_cases q2 : a ≤ j ∧ j < k <;> simp [q, q2] <;> omega⟩⟩

def rf_l0 : List (Nat × Nat × Nat) := [(0, 31, 1), (127, 159, 1), (32, 32, 24), (160, 160, 24), (8192, 8202, 24), (8239, 8239, 24), (8287, 8287, 24), (12288, 12288, 24), (8232, 8232, 22), (8233, 8233, 23), (33, 35, 16), (37, 39, 16), (42, 42, 16), (44, 44, 16), (46, 47, 16), (58, 59, 16), (63, 64, 16), (92, 92, 16), (161, 161, 16), (167, 167, 16), (182, 183, 16), (191, 191, 16), (8214, 8215, 16), (8224, 8231, 16), (36, 36, 18), (162, 165, 18), (8352, 8383, 18), (40, 40, 17), (91, 91, 17), (123, 123, 17)]
set_option maxRecDepth 100000 in
set_option maxHeartbeats 4000000 in
theorem c_Table_table0 (l : Launch) (E : zP) (sz : Nat) (tb kq mq : Nat) (utf ucp : Bool) (la mz : Int) (f : Nat → Int32) : Met l y_Table_table0 (.code y_Table_table0 b_Table_table0 1 ( Option.none : Option FieldType ) :: zw) { frames := 1, cells := (0), slots := (0), locals := 24 } (zPc E [.ref tb] (fun H => H.size = sz ∧ va_P E.1 zcl [(tb, .inr (11, [.ref kq, .int (iI (bN utf)), .int (iI (bN ucp)), .int (iI la), .ref mq, .int (iI mz)])), (kq, .inl (E.2.1 0, 12544, .inl f))] H ∧ va_D (zOld E) [(tb, .inr (11, [.ref kq, .int (iI (bN utf)), .int (iI (bN ucp)), .int (iI la), .ref mq, .int (iI mz)])), (kq, .inl (E.2.1 0, 12544, .inl f))] ∧ (True))) (zW (fun v H => v = none ∧ va_P E.1 zcl [(tb, .inr (11, [.ref kq, .int (iI (bN utf)), .int (iI (bN ucp)), .int (iI la), .ref mq, .int (iI mz)])), (kq, .inl (E.2.1 0, 12544, .inl (rf_l0.foldl rf_set f)))] H ∧ va_D (va_A [(tb, .inr (11, [.ref kq, .int (iI (bN utf)), .int (iI (bN ucp)), .int (iI la), .ref mq, .int (iI mz)])), (kq, .inl (E.2.1 0, 12544, .inl f))] sz) [(tb, .inr (11, [.ref kq, .int (iI (bN utf)), .int (iI (bN ucp)), .int (iI la), .ref mq, .int (iI mz)])), (kq, .inl (E.2.1 0, 12544, .inl (rf_l0.foldl rf_set f)))]) (va_A [(tb, .inr (11, [.ref kq, .int (iI (bN utf)), .int (iI (bN ucp)), .int (iI la), .ref mq, .int (iI mz)])), (kq, .inl (E.2.1 0, 12544, .inl f))] sz)) (0) (0) (va_A [(tb, .inr (11, [.ref kq, .int (iI (bN utf)), .int (iI (bN ucp)), .int (iI la), .ref mq, .int (iI mz)])), (kq, .inl (E.2.1 0, 12544, .inl f))] sz) := by
  refine zMet (by decide) (Nat.le_of_ble_eq_true rfl) ?_
  intro p e s m below meth c ls S hr hlk hnm hE ⟨hsz, hP, hDo, hX⟩ hl
  have hx := S.1
  have hb := S.2.1
  have hE0 := hE
  have hl : lv_has ls 1 [(0, .ref tb)] := hl
  subst hsz
  have hD := hDo.self (sz := s.heap.size)
  generalize hAe : va_A [(tb, .inr (11, [.ref kq, .int (iI (bN utf)), .int (iI (bN ucp)), .int (iI la), .ref mq, .int (iI mz)])), (kq, .inl (E.2.1 0, 12544, .inl f))] s.heap.size = A at hD ⊢
  have hA : ∀ q : Nat, s.heap.size ≤ q → A q := fun q h => by rw [← hAe]; exact Or.inr h
  have hA0 := zA0 hE hDo hAe
  have hS : va_S A s.heap s.heap [] := va_S.rf
  refine lv_aload_n hx hb d_Table_table0_0 rfl (lv_at hl 0 rfl) ?_
  refine zi_iconst hx hb d_Table_table0_1 ?_
  refine zi_bipush hx hb d_Table_table0_2 (by decide) ?_
  refine zi_iconst hx hb d_Table_table0_4 ?_
  have hPc := hP.sub (ws' := [(tb, .inr (11, [.ref kq, .int (iI (bN utf)), .int (iI (bN ucp)), .int (iI la), .ref mq, .int (iI mz)])), (kq, .inl (E.2.1 0, 12544, .inl f))]) [0, 1] rfl
  have hDc := hD.sub (ws' := [(tb, .inr (11, [.ref kq, .int (iI (bN utf)), .int (iI (bN ucp)), .int (iI la), .ref mq, .int (iI mz)])), (kq, .inl (E.2.1 0, 12544, .inl f))]) [0, 1] (by decide) rfl
  have hFc := va_free (wc := [(tb, .inr (11, [.ref kq, .int (iI (bN utf)), .int (iI (bN ucp)), .int (iI la), .ref mq, .int (iI mz)])), (kq, .inl (E.2.1 0, 12544, .inl f))]) hD hS hA [0, 1] rfl
  refine zcW (va_runV (As := [.int (iI 0), .int (iI 31), .int (iI 1)]) (rest := []) S (c_Table_kinds l E _ tb kq mq utf ucp la mz f 0 31 1 (by decide) (by decide) (by decide)) ⟨zcwB (n := 3) S zw_883 zw_15 zw_880 (by decide +kernel) rfl rfl ⟨Nat.le_of_ble_eq_true rfl, Nat.le_of_ble_eq_true rfl⟩, S.2.2.2.2 _ zw_882, S.2.2.2.2 _ zs_26⟩ (zPreV hE (hP 0 _ rfl) rfl ⟨rfl, hPc, hDc.weaken (fun _ _ _ h => hA0 _ h), trivial⟩) rfl rfl hl.1 rfl (lv_room (Nat.le_of_ble_eq_true rfl)) d_Table_table0_5 ⟨by (try dsimp only); omega, by (try dsimp only); omega⟩) hS (fun q _ h => hFc q h) hFc (fun v H locs hq hz1 hk1 hS => ?_)
  obtain ⟨rfl, hP1, hD1⟩ := hq
  obtain ⟨hP, hD⟩ := va_join (wr := []) (w1 := [(tb, .inr (11, [.ref kq, .int (iI (bN utf)), .int (iI (bN ucp)), .int (iI la), .ref mq, .int (iI mz)])), (kq, .inl (E.2.1 0, 12544, .inl (rf_set f (0, 31, 1))))]) hP hD [0, 1] [] rfl rfl (by decide) (by decide) hk1 hFc hP1 hD1
  have hP : va_P E.1 zcl [(tb, .inr (11, [.ref kq, .int (iI (bN utf)), .int (iI (bN ucp)), .int (iI la), .ref mq, .int (iI mz)])), (kq, .inl (E.2.1 0, 12544, .inl (rf_set f (0, 31, 1))))] H := hP
  have hD : va_D A [(tb, .inr (11, [.ref kq, .int (iI (bN utf)), .int (iI (bN ucp)), .int (iI la), .ref mq, .int (iI mz)])), (kq, .inl (E.2.1 0, 12544, .inl (rf_set f (0, 31, 1))))] := hD
  have hE := hE0.at hS hA0
  obtain ⟨f0, ef0⟩ : ∃ x, x = rf_set f (0, 31, 1) := ⟨_, rfl⟩
  rw [← ef0] at hP hD
  refine lv_aload_n hx hb d_Table_table0_8 rfl (lv_at hl 0 rfl) ?_
  refine zi_bipush hx hb d_Table_table0_9 (by decide) ?_
  refine zi_sipush hx hb d_Table_table0_11 (by decide) ?_
  refine zi_iconst hx hb d_Table_table0_14 ?_
  have hPc := hP.sub (ws' := [(tb, .inr (11, [.ref kq, .int (iI (bN utf)), .int (iI (bN ucp)), .int (iI la), .ref mq, .int (iI mz)])), (kq, .inl (E.2.1 0, 12544, .inl f0))]) [0, 1] rfl
  have hDc := hD.sub (ws' := [(tb, .inr (11, [.ref kq, .int (iI (bN utf)), .int (iI (bN ucp)), .int (iI la), .ref mq, .int (iI mz)])), (kq, .inl (E.2.1 0, 12544, .inl f0))]) [0, 1] (by decide) rfl
  have hFc := va_free (wc := [(tb, .inr (11, [.ref kq, .int (iI (bN utf)), .int (iI (bN ucp)), .int (iI la), .ref mq, .int (iI mz)])), (kq, .inl (E.2.1 0, 12544, .inl f0))]) hD hS hA [0, 1] rfl
  refine zcW (va_runV (As := [.int (iI 127), .int (iI 159), .int (iI 1)]) (rest := []) S (c_Table_kinds l E _ tb kq mq utf ucp la mz f0 127 159 1 (by decide) (by decide) (by decide)) ⟨zcwB (n := 3) S zw_883 zw_15 zw_880 (by decide +kernel) rfl rfl ⟨Nat.le_of_ble_eq_true rfl, Nat.le_of_ble_eq_true rfl⟩, S.2.2.2.2 _ zw_882, S.2.2.2.2 _ zs_26⟩ (zPreV hE (hP 0 _ rfl) rfl ⟨rfl, hPc, hDc.weaken (fun _ _ _ h => hA0 _ h), trivial⟩) rfl rfl hl.1 rfl (lv_room (Nat.le_of_ble_eq_true rfl)) d_Table_table0_15 ⟨by (try dsimp only); omega, by (try dsimp only); omega⟩) hS (fun q _ h => hFc q h) hFc (fun v H locs hq hz1 hk1 hS => ?_)
  obtain ⟨rfl, hP1, hD1⟩ := hq
  obtain ⟨hP, hD⟩ := va_join (wr := []) (w1 := [(tb, .inr (11, [.ref kq, .int (iI (bN utf)), .int (iI (bN ucp)), .int (iI la), .ref mq, .int (iI mz)])), (kq, .inl (E.2.1 0, 12544, .inl (rf_set f0 (127, 159, 1))))]) hP hD [0, 1] [] rfl rfl (by decide) (by decide) hk1 hFc hP1 hD1
  have hP : va_P E.1 zcl [(tb, .inr (11, [.ref kq, .int (iI (bN utf)), .int (iI (bN ucp)), .int (iI la), .ref mq, .int (iI mz)])), (kq, .inl (E.2.1 0, 12544, .inl (rf_set f0 (127, 159, 1))))] H := hP
  have hD : va_D A [(tb, .inr (11, [.ref kq, .int (iI (bN utf)), .int (iI (bN ucp)), .int (iI la), .ref mq, .int (iI mz)])), (kq, .inl (E.2.1 0, 12544, .inl (rf_set f0 (127, 159, 1))))] := hD
  have hE := hE0.at hS hA0
  obtain ⟨f1, ef1⟩ : ∃ x, x = rf_set f0 (127, 159, 1) := ⟨_, rfl⟩
  rw [← ef1] at hP hD
  refine lv_aload_n hx hb d_Table_table0_18 rfl (lv_at hl 0 rfl) ?_
  refine zi_bipush hx hb d_Table_table0_19 (by decide) ?_
  refine zi_bipush hx hb d_Table_table0_21 (by decide) ?_
  refine zi_bipush hx hb d_Table_table0_23 (by decide) ?_
  have hPc := hP.sub (ws' := [(tb, .inr (11, [.ref kq, .int (iI (bN utf)), .int (iI (bN ucp)), .int (iI la), .ref mq, .int (iI mz)])), (kq, .inl (E.2.1 0, 12544, .inl f1))]) [0, 1] rfl
  have hDc := hD.sub (ws' := [(tb, .inr (11, [.ref kq, .int (iI (bN utf)), .int (iI (bN ucp)), .int (iI la), .ref mq, .int (iI mz)])), (kq, .inl (E.2.1 0, 12544, .inl f1))]) [0, 1] (by decide) rfl
  have hFc := va_free (wc := [(tb, .inr (11, [.ref kq, .int (iI (bN utf)), .int (iI (bN ucp)), .int (iI la), .ref mq, .int (iI mz)])), (kq, .inl (E.2.1 0, 12544, .inl f1))]) hD hS hA [0, 1] rfl
  refine zcW (va_runV (As := [.int (iI 32), .int (iI 32), .int (iI 24)]) (rest := []) S (c_Table_kinds l E _ tb kq mq utf ucp la mz f1 32 32 24 (by decide) (by decide) (by decide)) ⟨zcwB (n := 3) S zw_883 zw_15 zw_880 (by decide +kernel) rfl rfl ⟨Nat.le_of_ble_eq_true rfl, Nat.le_of_ble_eq_true rfl⟩, S.2.2.2.2 _ zw_882, S.2.2.2.2 _ zs_26⟩ (zPreV hE (hP 0 _ rfl) rfl ⟨rfl, hPc, hDc.weaken (fun _ _ _ h => hA0 _ h), trivial⟩) rfl rfl hl.1 rfl (lv_room (Nat.le_of_ble_eq_true rfl)) d_Table_table0_25 ⟨by (try dsimp only); omega, by (try dsimp only); omega⟩) hS (fun q _ h => hFc q h) hFc (fun v H locs hq hz1 hk1 hS => ?_)
  obtain ⟨rfl, hP1, hD1⟩ := hq
  obtain ⟨hP, hD⟩ := va_join (wr := []) (w1 := [(tb, .inr (11, [.ref kq, .int (iI (bN utf)), .int (iI (bN ucp)), .int (iI la), .ref mq, .int (iI mz)])), (kq, .inl (E.2.1 0, 12544, .inl (rf_set f1 (32, 32, 24))))]) hP hD [0, 1] [] rfl rfl (by decide) (by decide) hk1 hFc hP1 hD1
  have hP : va_P E.1 zcl [(tb, .inr (11, [.ref kq, .int (iI (bN utf)), .int (iI (bN ucp)), .int (iI la), .ref mq, .int (iI mz)])), (kq, .inl (E.2.1 0, 12544, .inl (rf_set f1 (32, 32, 24))))] H := hP
  have hD : va_D A [(tb, .inr (11, [.ref kq, .int (iI (bN utf)), .int (iI (bN ucp)), .int (iI la), .ref mq, .int (iI mz)])), (kq, .inl (E.2.1 0, 12544, .inl (rf_set f1 (32, 32, 24))))] := hD
  have hE := hE0.at hS hA0
  obtain ⟨f2, ef2⟩ : ∃ x, x = rf_set f1 (32, 32, 24) := ⟨_, rfl⟩
  rw [← ef2] at hP hD
  refine lv_aload_n hx hb d_Table_table0_28 rfl (lv_at hl 0 rfl) ?_
  refine zi_sipush hx hb d_Table_table0_29 (by decide) ?_
  refine zi_sipush hx hb d_Table_table0_32 (by decide) ?_
  refine zi_bipush hx hb d_Table_table0_35 (by decide) ?_
  have hPc := hP.sub (ws' := [(tb, .inr (11, [.ref kq, .int (iI (bN utf)), .int (iI (bN ucp)), .int (iI la), .ref mq, .int (iI mz)])), (kq, .inl (E.2.1 0, 12544, .inl f2))]) [0, 1] rfl
  have hDc := hD.sub (ws' := [(tb, .inr (11, [.ref kq, .int (iI (bN utf)), .int (iI (bN ucp)), .int (iI la), .ref mq, .int (iI mz)])), (kq, .inl (E.2.1 0, 12544, .inl f2))]) [0, 1] (by decide) rfl
  have hFc := va_free (wc := [(tb, .inr (11, [.ref kq, .int (iI (bN utf)), .int (iI (bN ucp)), .int (iI la), .ref mq, .int (iI mz)])), (kq, .inl (E.2.1 0, 12544, .inl f2))]) hD hS hA [0, 1] rfl
  refine zcW (va_runV (As := [.int (iI 160), .int (iI 160), .int (iI 24)]) (rest := []) S (c_Table_kinds l E _ tb kq mq utf ucp la mz f2 160 160 24 (by decide) (by decide) (by decide)) ⟨zcwB (n := 3) S zw_883 zw_15 zw_880 (by decide +kernel) rfl rfl ⟨Nat.le_of_ble_eq_true rfl, Nat.le_of_ble_eq_true rfl⟩, S.2.2.2.2 _ zw_882, S.2.2.2.2 _ zs_26⟩ (zPreV hE (hP 0 _ rfl) rfl ⟨rfl, hPc, hDc.weaken (fun _ _ _ h => hA0 _ h), trivial⟩) rfl rfl hl.1 rfl (lv_room (Nat.le_of_ble_eq_true rfl)) d_Table_table0_37 ⟨by (try dsimp only); omega, by (try dsimp only); omega⟩) hS (fun q _ h => hFc q h) hFc (fun v H locs hq hz1 hk1 hS => ?_)
  obtain ⟨rfl, hP1, hD1⟩ := hq
  obtain ⟨hP, hD⟩ := va_join (wr := []) (w1 := [(tb, .inr (11, [.ref kq, .int (iI (bN utf)), .int (iI (bN ucp)), .int (iI la), .ref mq, .int (iI mz)])), (kq, .inl (E.2.1 0, 12544, .inl (rf_set f2 (160, 160, 24))))]) hP hD [0, 1] [] rfl rfl (by decide) (by decide) hk1 hFc hP1 hD1
  have hP : va_P E.1 zcl [(tb, .inr (11, [.ref kq, .int (iI (bN utf)), .int (iI (bN ucp)), .int (iI la), .ref mq, .int (iI mz)])), (kq, .inl (E.2.1 0, 12544, .inl (rf_set f2 (160, 160, 24))))] H := hP
  have hD : va_D A [(tb, .inr (11, [.ref kq, .int (iI (bN utf)), .int (iI (bN ucp)), .int (iI la), .ref mq, .int (iI mz)])), (kq, .inl (E.2.1 0, 12544, .inl (rf_set f2 (160, 160, 24))))] := hD
  have hE := hE0.at hS hA0
  obtain ⟨f3, ef3⟩ : ∃ x, x = rf_set f2 (160, 160, 24) := ⟨_, rfl⟩
  rw [← ef3] at hP hD
  refine lv_aload_n hx hb d_Table_table0_40 rfl (lv_at hl 0 rfl) ?_
  refine zi_sipush hx hb d_Table_table0_41 (by decide) ?_
  refine zi_sipush hx hb d_Table_table0_44 (by decide) ?_
  refine zi_bipush hx hb d_Table_table0_47 (by decide) ?_
  have hPc := hP.sub (ws' := [(tb, .inr (11, [.ref kq, .int (iI (bN utf)), .int (iI (bN ucp)), .int (iI la), .ref mq, .int (iI mz)])), (kq, .inl (E.2.1 0, 12544, .inl f3))]) [0, 1] rfl
  have hDc := hD.sub (ws' := [(tb, .inr (11, [.ref kq, .int (iI (bN utf)), .int (iI (bN ucp)), .int (iI la), .ref mq, .int (iI mz)])), (kq, .inl (E.2.1 0, 12544, .inl f3))]) [0, 1] (by decide) rfl
  have hFc := va_free (wc := [(tb, .inr (11, [.ref kq, .int (iI (bN utf)), .int (iI (bN ucp)), .int (iI la), .ref mq, .int (iI mz)])), (kq, .inl (E.2.1 0, 12544, .inl f3))]) hD hS hA [0, 1] rfl
  refine zcW (va_runV (As := [.int (iI 8192), .int (iI 8202), .int (iI 24)]) (rest := []) S (c_Table_kinds l E _ tb kq mq utf ucp la mz f3 8192 8202 24 (by decide) (by decide) (by decide)) ⟨zcwB (n := 3) S zw_883 zw_15 zw_880 (by decide +kernel) rfl rfl ⟨Nat.le_of_ble_eq_true rfl, Nat.le_of_ble_eq_true rfl⟩, S.2.2.2.2 _ zw_882, S.2.2.2.2 _ zs_26⟩ (zPreV hE (hP 0 _ rfl) rfl ⟨rfl, hPc, hDc.weaken (fun _ _ _ h => hA0 _ h), trivial⟩) rfl rfl hl.1 rfl (lv_room (Nat.le_of_ble_eq_true rfl)) d_Table_table0_49 ⟨by (try dsimp only); omega, by (try dsimp only); omega⟩) hS (fun q _ h => hFc q h) hFc (fun v H locs hq hz1 hk1 hS => ?_)
  obtain ⟨rfl, hP1, hD1⟩ := hq
  obtain ⟨hP, hD⟩ := va_join (wr := []) (w1 := [(tb, .inr (11, [.ref kq, .int (iI (bN utf)), .int (iI (bN ucp)), .int (iI la), .ref mq, .int (iI mz)])), (kq, .inl (E.2.1 0, 12544, .inl (rf_set f3 (8192, 8202, 24))))]) hP hD [0, 1] [] rfl rfl (by decide) (by decide) hk1 hFc hP1 hD1
  have hP : va_P E.1 zcl [(tb, .inr (11, [.ref kq, .int (iI (bN utf)), .int (iI (bN ucp)), .int (iI la), .ref mq, .int (iI mz)])), (kq, .inl (E.2.1 0, 12544, .inl (rf_set f3 (8192, 8202, 24))))] H := hP
  have hD : va_D A [(tb, .inr (11, [.ref kq, .int (iI (bN utf)), .int (iI (bN ucp)), .int (iI la), .ref mq, .int (iI mz)])), (kq, .inl (E.2.1 0, 12544, .inl (rf_set f3 (8192, 8202, 24))))] := hD
  have hE := hE0.at hS hA0
  obtain ⟨f4, ef4⟩ : ∃ x, x = rf_set f3 (8192, 8202, 24) := ⟨_, rfl⟩
  rw [← ef4] at hP hD
  refine lv_aload_n hx hb d_Table_table0_52 rfl (lv_at hl 0 rfl) ?_
  refine zi_sipush hx hb d_Table_table0_53 (by decide) ?_
  refine zi_sipush hx hb d_Table_table0_56 (by decide) ?_
  refine zi_bipush hx hb d_Table_table0_59 (by decide) ?_
  have hPc := hP.sub (ws' := [(tb, .inr (11, [.ref kq, .int (iI (bN utf)), .int (iI (bN ucp)), .int (iI la), .ref mq, .int (iI mz)])), (kq, .inl (E.2.1 0, 12544, .inl f4))]) [0, 1] rfl
  have hDc := hD.sub (ws' := [(tb, .inr (11, [.ref kq, .int (iI (bN utf)), .int (iI (bN ucp)), .int (iI la), .ref mq, .int (iI mz)])), (kq, .inl (E.2.1 0, 12544, .inl f4))]) [0, 1] (by decide) rfl
  have hFc := va_free (wc := [(tb, .inr (11, [.ref kq, .int (iI (bN utf)), .int (iI (bN ucp)), .int (iI la), .ref mq, .int (iI mz)])), (kq, .inl (E.2.1 0, 12544, .inl f4))]) hD hS hA [0, 1] rfl
  refine zcW (va_runV (As := [.int (iI 8239), .int (iI 8239), .int (iI 24)]) (rest := []) S (c_Table_kinds l E _ tb kq mq utf ucp la mz f4 8239 8239 24 (by decide) (by decide) (by decide)) ⟨zcwB (n := 3) S zw_883 zw_15 zw_880 (by decide +kernel) rfl rfl ⟨Nat.le_of_ble_eq_true rfl, Nat.le_of_ble_eq_true rfl⟩, S.2.2.2.2 _ zw_882, S.2.2.2.2 _ zs_26⟩ (zPreV hE (hP 0 _ rfl) rfl ⟨rfl, hPc, hDc.weaken (fun _ _ _ h => hA0 _ h), trivial⟩) rfl rfl hl.1 rfl (lv_room (Nat.le_of_ble_eq_true rfl)) d_Table_table0_61 ⟨by (try dsimp only); omega, by (try dsimp only); omega⟩) hS (fun q _ h => hFc q h) hFc (fun v H locs hq hz1 hk1 hS => ?_)
  obtain ⟨rfl, hP1, hD1⟩ := hq
  obtain ⟨hP, hD⟩ := va_join (wr := []) (w1 := [(tb, .inr (11, [.ref kq, .int (iI (bN utf)), .int (iI (bN ucp)), .int (iI la), .ref mq, .int (iI mz)])), (kq, .inl (E.2.1 0, 12544, .inl (rf_set f4 (8239, 8239, 24))))]) hP hD [0, 1] [] rfl rfl (by decide) (by decide) hk1 hFc hP1 hD1
  have hP : va_P E.1 zcl [(tb, .inr (11, [.ref kq, .int (iI (bN utf)), .int (iI (bN ucp)), .int (iI la), .ref mq, .int (iI mz)])), (kq, .inl (E.2.1 0, 12544, .inl (rf_set f4 (8239, 8239, 24))))] H := hP
  have hD : va_D A [(tb, .inr (11, [.ref kq, .int (iI (bN utf)), .int (iI (bN ucp)), .int (iI la), .ref mq, .int (iI mz)])), (kq, .inl (E.2.1 0, 12544, .inl (rf_set f4 (8239, 8239, 24))))] := hD
  have hE := hE0.at hS hA0
  obtain ⟨f5, ef5⟩ : ∃ x, x = rf_set f4 (8239, 8239, 24) := ⟨_, rfl⟩
  rw [← ef5] at hP hD
  refine lv_aload_n hx hb d_Table_table0_64 rfl (lv_at hl 0 rfl) ?_
  refine zi_sipush hx hb d_Table_table0_65 (by decide) ?_
  refine zi_sipush hx hb d_Table_table0_68 (by decide) ?_
  refine zi_bipush hx hb d_Table_table0_71 (by decide) ?_
  have hPc := hP.sub (ws' := [(tb, .inr (11, [.ref kq, .int (iI (bN utf)), .int (iI (bN ucp)), .int (iI la), .ref mq, .int (iI mz)])), (kq, .inl (E.2.1 0, 12544, .inl f5))]) [0, 1] rfl
  have hDc := hD.sub (ws' := [(tb, .inr (11, [.ref kq, .int (iI (bN utf)), .int (iI (bN ucp)), .int (iI la), .ref mq, .int (iI mz)])), (kq, .inl (E.2.1 0, 12544, .inl f5))]) [0, 1] (by decide) rfl
  have hFc := va_free (wc := [(tb, .inr (11, [.ref kq, .int (iI (bN utf)), .int (iI (bN ucp)), .int (iI la), .ref mq, .int (iI mz)])), (kq, .inl (E.2.1 0, 12544, .inl f5))]) hD hS hA [0, 1] rfl
  refine zcW (va_runV (As := [.int (iI 8287), .int (iI 8287), .int (iI 24)]) (rest := []) S (c_Table_kinds l E _ tb kq mq utf ucp la mz f5 8287 8287 24 (by decide) (by decide) (by decide)) ⟨zcwB (n := 3) S zw_883 zw_15 zw_880 (by decide +kernel) rfl rfl ⟨Nat.le_of_ble_eq_true rfl, Nat.le_of_ble_eq_true rfl⟩, S.2.2.2.2 _ zw_882, S.2.2.2.2 _ zs_26⟩ (zPreV hE (hP 0 _ rfl) rfl ⟨rfl, hPc, hDc.weaken (fun _ _ _ h => hA0 _ h), trivial⟩) rfl rfl hl.1 rfl (lv_room (Nat.le_of_ble_eq_true rfl)) d_Table_table0_73 ⟨by (try dsimp only); omega, by (try dsimp only); omega⟩) hS (fun q _ h => hFc q h) hFc (fun v H locs hq hz1 hk1 hS => ?_)
  obtain ⟨rfl, hP1, hD1⟩ := hq
  obtain ⟨hP, hD⟩ := va_join (wr := []) (w1 := [(tb, .inr (11, [.ref kq, .int (iI (bN utf)), .int (iI (bN ucp)), .int (iI la), .ref mq, .int (iI mz)])), (kq, .inl (E.2.1 0, 12544, .inl (rf_set f5 (8287, 8287, 24))))]) hP hD [0, 1] [] rfl rfl (by decide) (by decide) hk1 hFc hP1 hD1
  have hP : va_P E.1 zcl [(tb, .inr (11, [.ref kq, .int (iI (bN utf)), .int (iI (bN ucp)), .int (iI la), .ref mq, .int (iI mz)])), (kq, .inl (E.2.1 0, 12544, .inl (rf_set f5 (8287, 8287, 24))))] H := hP
  have hD : va_D A [(tb, .inr (11, [.ref kq, .int (iI (bN utf)), .int (iI (bN ucp)), .int (iI la), .ref mq, .int (iI mz)])), (kq, .inl (E.2.1 0, 12544, .inl (rf_set f5 (8287, 8287, 24))))] := hD
  have hE := hE0.at hS hA0
  obtain ⟨f6, ef6⟩ : ∃ x, x = rf_set f5 (8287, 8287, 24) := ⟨_, rfl⟩
  rw [← ef6] at hP hD
  refine lv_aload_n hx hb d_Table_table0_76 rfl (lv_at hl 0 rfl) ?_
  refine zi_sipush hx hb d_Table_table0_77 (by decide) ?_
  refine zi_sipush hx hb d_Table_table0_80 (by decide) ?_
  refine zi_bipush hx hb d_Table_table0_83 (by decide) ?_
  have hPc := hP.sub (ws' := [(tb, .inr (11, [.ref kq, .int (iI (bN utf)), .int (iI (bN ucp)), .int (iI la), .ref mq, .int (iI mz)])), (kq, .inl (E.2.1 0, 12544, .inl f6))]) [0, 1] rfl
  have hDc := hD.sub (ws' := [(tb, .inr (11, [.ref kq, .int (iI (bN utf)), .int (iI (bN ucp)), .int (iI la), .ref mq, .int (iI mz)])), (kq, .inl (E.2.1 0, 12544, .inl f6))]) [0, 1] (by decide) rfl
  have hFc := va_free (wc := [(tb, .inr (11, [.ref kq, .int (iI (bN utf)), .int (iI (bN ucp)), .int (iI la), .ref mq, .int (iI mz)])), (kq, .inl (E.2.1 0, 12544, .inl f6))]) hD hS hA [0, 1] rfl
  refine zcW (va_runV (As := [.int (iI 12288), .int (iI 12288), .int (iI 24)]) (rest := []) S (c_Table_kinds l E _ tb kq mq utf ucp la mz f6 12288 12288 24 (by decide) (by decide) (by decide)) ⟨zcwB (n := 3) S zw_883 zw_15 zw_880 (by decide +kernel) rfl rfl ⟨Nat.le_of_ble_eq_true rfl, Nat.le_of_ble_eq_true rfl⟩, S.2.2.2.2 _ zw_882, S.2.2.2.2 _ zs_26⟩ (zPreV hE (hP 0 _ rfl) rfl ⟨rfl, hPc, hDc.weaken (fun _ _ _ h => hA0 _ h), trivial⟩) rfl rfl hl.1 rfl (lv_room (Nat.le_of_ble_eq_true rfl)) d_Table_table0_85 ⟨by (try dsimp only); omega, by (try dsimp only); omega⟩) hS (fun q _ h => hFc q h) hFc (fun v H locs hq hz1 hk1 hS => ?_)
  obtain ⟨rfl, hP1, hD1⟩ := hq
  obtain ⟨hP, hD⟩ := va_join (wr := []) (w1 := [(tb, .inr (11, [.ref kq, .int (iI (bN utf)), .int (iI (bN ucp)), .int (iI la), .ref mq, .int (iI mz)])), (kq, .inl (E.2.1 0, 12544, .inl (rf_set f6 (12288, 12288, 24))))]) hP hD [0, 1] [] rfl rfl (by decide) (by decide) hk1 hFc hP1 hD1
  have hP : va_P E.1 zcl [(tb, .inr (11, [.ref kq, .int (iI (bN utf)), .int (iI (bN ucp)), .int (iI la), .ref mq, .int (iI mz)])), (kq, .inl (E.2.1 0, 12544, .inl (rf_set f6 (12288, 12288, 24))))] H := hP
  have hD : va_D A [(tb, .inr (11, [.ref kq, .int (iI (bN utf)), .int (iI (bN ucp)), .int (iI la), .ref mq, .int (iI mz)])), (kq, .inl (E.2.1 0, 12544, .inl (rf_set f6 (12288, 12288, 24))))] := hD
  have hE := hE0.at hS hA0
  obtain ⟨f7, ef7⟩ : ∃ x, x = rf_set f6 (12288, 12288, 24) := ⟨_, rfl⟩
  rw [← ef7] at hP hD
  refine lv_aload_n hx hb d_Table_table0_88 rfl (lv_at hl 0 rfl) ?_
  refine zi_sipush hx hb d_Table_table0_89 (by decide) ?_
  refine zi_sipush hx hb d_Table_table0_92 (by decide) ?_
  refine zi_bipush hx hb d_Table_table0_95 (by decide) ?_
  have hPc := hP.sub (ws' := [(tb, .inr (11, [.ref kq, .int (iI (bN utf)), .int (iI (bN ucp)), .int (iI la), .ref mq, .int (iI mz)])), (kq, .inl (E.2.1 0, 12544, .inl f7))]) [0, 1] rfl
  have hDc := hD.sub (ws' := [(tb, .inr (11, [.ref kq, .int (iI (bN utf)), .int (iI (bN ucp)), .int (iI la), .ref mq, .int (iI mz)])), (kq, .inl (E.2.1 0, 12544, .inl f7))]) [0, 1] (by decide) rfl
  have hFc := va_free (wc := [(tb, .inr (11, [.ref kq, .int (iI (bN utf)), .int (iI (bN ucp)), .int (iI la), .ref mq, .int (iI mz)])), (kq, .inl (E.2.1 0, 12544, .inl f7))]) hD hS hA [0, 1] rfl
  refine zcW (va_runV (As := [.int (iI 8232), .int (iI 8232), .int (iI 22)]) (rest := []) S (c_Table_kinds l E _ tb kq mq utf ucp la mz f7 8232 8232 22 (by decide) (by decide) (by decide)) ⟨zcwB (n := 3) S zw_883 zw_15 zw_880 (by decide +kernel) rfl rfl ⟨Nat.le_of_ble_eq_true rfl, Nat.le_of_ble_eq_true rfl⟩, S.2.2.2.2 _ zw_882, S.2.2.2.2 _ zs_26⟩ (zPreV hE (hP 0 _ rfl) rfl ⟨rfl, hPc, hDc.weaken (fun _ _ _ h => hA0 _ h), trivial⟩) rfl rfl hl.1 rfl (lv_room (Nat.le_of_ble_eq_true rfl)) d_Table_table0_97 ⟨by (try dsimp only); omega, by (try dsimp only); omega⟩) hS (fun q _ h => hFc q h) hFc (fun v H locs hq hz1 hk1 hS => ?_)
  obtain ⟨rfl, hP1, hD1⟩ := hq
  obtain ⟨hP, hD⟩ := va_join (wr := []) (w1 := [(tb, .inr (11, [.ref kq, .int (iI (bN utf)), .int (iI (bN ucp)), .int (iI la), .ref mq, .int (iI mz)])), (kq, .inl (E.2.1 0, 12544, .inl (rf_set f7 (8232, 8232, 22))))]) hP hD [0, 1] [] rfl rfl (by decide) (by decide) hk1 hFc hP1 hD1
  have hP : va_P E.1 zcl [(tb, .inr (11, [.ref kq, .int (iI (bN utf)), .int (iI (bN ucp)), .int (iI la), .ref mq, .int (iI mz)])), (kq, .inl (E.2.1 0, 12544, .inl (rf_set f7 (8232, 8232, 22))))] H := hP
  have hD : va_D A [(tb, .inr (11, [.ref kq, .int (iI (bN utf)), .int (iI (bN ucp)), .int (iI la), .ref mq, .int (iI mz)])), (kq, .inl (E.2.1 0, 12544, .inl (rf_set f7 (8232, 8232, 22))))] := hD
  have hE := hE0.at hS hA0
  obtain ⟨f8, ef8⟩ : ∃ x, x = rf_set f7 (8232, 8232, 22) := ⟨_, rfl⟩
  rw [← ef8] at hP hD
  refine lv_aload_n hx hb d_Table_table0_100 rfl (lv_at hl 0 rfl) ?_
  refine zi_sipush hx hb d_Table_table0_101 (by decide) ?_
  refine zi_sipush hx hb d_Table_table0_104 (by decide) ?_
  refine zi_bipush hx hb d_Table_table0_107 (by decide) ?_
  have hPc := hP.sub (ws' := [(tb, .inr (11, [.ref kq, .int (iI (bN utf)), .int (iI (bN ucp)), .int (iI la), .ref mq, .int (iI mz)])), (kq, .inl (E.2.1 0, 12544, .inl f8))]) [0, 1] rfl
  have hDc := hD.sub (ws' := [(tb, .inr (11, [.ref kq, .int (iI (bN utf)), .int (iI (bN ucp)), .int (iI la), .ref mq, .int (iI mz)])), (kq, .inl (E.2.1 0, 12544, .inl f8))]) [0, 1] (by decide) rfl
  have hFc := va_free (wc := [(tb, .inr (11, [.ref kq, .int (iI (bN utf)), .int (iI (bN ucp)), .int (iI la), .ref mq, .int (iI mz)])), (kq, .inl (E.2.1 0, 12544, .inl f8))]) hD hS hA [0, 1] rfl
  refine zcW (va_runV (As := [.int (iI 8233), .int (iI 8233), .int (iI 23)]) (rest := []) S (c_Table_kinds l E _ tb kq mq utf ucp la mz f8 8233 8233 23 (by decide) (by decide) (by decide)) ⟨zcwB (n := 3) S zw_883 zw_15 zw_880 (by decide +kernel) rfl rfl ⟨Nat.le_of_ble_eq_true rfl, Nat.le_of_ble_eq_true rfl⟩, S.2.2.2.2 _ zw_882, S.2.2.2.2 _ zs_26⟩ (zPreV hE (hP 0 _ rfl) rfl ⟨rfl, hPc, hDc.weaken (fun _ _ _ h => hA0 _ h), trivial⟩) rfl rfl hl.1 rfl (lv_room (Nat.le_of_ble_eq_true rfl)) d_Table_table0_109 ⟨by (try dsimp only); omega, by (try dsimp only); omega⟩) hS (fun q _ h => hFc q h) hFc (fun v H locs hq hz1 hk1 hS => ?_)
  obtain ⟨rfl, hP1, hD1⟩ := hq
  obtain ⟨hP, hD⟩ := va_join (wr := []) (w1 := [(tb, .inr (11, [.ref kq, .int (iI (bN utf)), .int (iI (bN ucp)), .int (iI la), .ref mq, .int (iI mz)])), (kq, .inl (E.2.1 0, 12544, .inl (rf_set f8 (8233, 8233, 23))))]) hP hD [0, 1] [] rfl rfl (by decide) (by decide) hk1 hFc hP1 hD1
  have hP : va_P E.1 zcl [(tb, .inr (11, [.ref kq, .int (iI (bN utf)), .int (iI (bN ucp)), .int (iI la), .ref mq, .int (iI mz)])), (kq, .inl (E.2.1 0, 12544, .inl (rf_set f8 (8233, 8233, 23))))] H := hP
  have hD : va_D A [(tb, .inr (11, [.ref kq, .int (iI (bN utf)), .int (iI (bN ucp)), .int (iI la), .ref mq, .int (iI mz)])), (kq, .inl (E.2.1 0, 12544, .inl (rf_set f8 (8233, 8233, 23))))] := hD
  have hE := hE0.at hS hA0
  obtain ⟨f9, ef9⟩ : ∃ x, x = rf_set f8 (8233, 8233, 23) := ⟨_, rfl⟩
  rw [← ef9] at hP hD
  refine lv_aload_n hx hb d_Table_table0_112 rfl (lv_at hl 0 rfl) ?_
  refine zi_bipush hx hb d_Table_table0_113 (by decide) ?_
  refine zi_bipush hx hb d_Table_table0_115 (by decide) ?_
  refine zi_bipush hx hb d_Table_table0_117 (by decide) ?_
  have hPc := hP.sub (ws' := [(tb, .inr (11, [.ref kq, .int (iI (bN utf)), .int (iI (bN ucp)), .int (iI la), .ref mq, .int (iI mz)])), (kq, .inl (E.2.1 0, 12544, .inl f9))]) [0, 1] rfl
  have hDc := hD.sub (ws' := [(tb, .inr (11, [.ref kq, .int (iI (bN utf)), .int (iI (bN ucp)), .int (iI la), .ref mq, .int (iI mz)])), (kq, .inl (E.2.1 0, 12544, .inl f9))]) [0, 1] (by decide) rfl
  have hFc := va_free (wc := [(tb, .inr (11, [.ref kq, .int (iI (bN utf)), .int (iI (bN ucp)), .int (iI la), .ref mq, .int (iI mz)])), (kq, .inl (E.2.1 0, 12544, .inl f9))]) hD hS hA [0, 1] rfl
  refine zcW (va_runV (As := [.int (iI 33), .int (iI 35), .int (iI 16)]) (rest := []) S (c_Table_kinds l E _ tb kq mq utf ucp la mz f9 33 35 16 (by decide) (by decide) (by decide)) ⟨zcwB (n := 3) S zw_883 zw_15 zw_880 (by decide +kernel) rfl rfl ⟨Nat.le_of_ble_eq_true rfl, Nat.le_of_ble_eq_true rfl⟩, S.2.2.2.2 _ zw_882, S.2.2.2.2 _ zs_26⟩ (zPreV hE (hP 0 _ rfl) rfl ⟨rfl, hPc, hDc.weaken (fun _ _ _ h => hA0 _ h), trivial⟩) rfl rfl hl.1 rfl (lv_room (Nat.le_of_ble_eq_true rfl)) d_Table_table0_119 ⟨by (try dsimp only); omega, by (try dsimp only); omega⟩) hS (fun q _ h => hFc q h) hFc (fun v H locs hq hz1 hk1 hS => ?_)
  obtain ⟨rfl, hP1, hD1⟩ := hq
  obtain ⟨hP, hD⟩ := va_join (wr := []) (w1 := [(tb, .inr (11, [.ref kq, .int (iI (bN utf)), .int (iI (bN ucp)), .int (iI la), .ref mq, .int (iI mz)])), (kq, .inl (E.2.1 0, 12544, .inl (rf_set f9 (33, 35, 16))))]) hP hD [0, 1] [] rfl rfl (by decide) (by decide) hk1 hFc hP1 hD1
  have hP : va_P E.1 zcl [(tb, .inr (11, [.ref kq, .int (iI (bN utf)), .int (iI (bN ucp)), .int (iI la), .ref mq, .int (iI mz)])), (kq, .inl (E.2.1 0, 12544, .inl (rf_set f9 (33, 35, 16))))] H := hP
  have hD : va_D A [(tb, .inr (11, [.ref kq, .int (iI (bN utf)), .int (iI (bN ucp)), .int (iI la), .ref mq, .int (iI mz)])), (kq, .inl (E.2.1 0, 12544, .inl (rf_set f9 (33, 35, 16))))] := hD
  have hE := hE0.at hS hA0
  obtain ⟨f10, ef10⟩ : ∃ x, x = rf_set f9 (33, 35, 16) := ⟨_, rfl⟩
  rw [← ef10] at hP hD
  refine lv_aload_n hx hb d_Table_table0_122 rfl (lv_at hl 0 rfl) ?_
  refine zi_bipush hx hb d_Table_table0_123 (by decide) ?_
  refine zi_bipush hx hb d_Table_table0_125 (by decide) ?_
  refine zi_bipush hx hb d_Table_table0_127 (by decide) ?_
  have hPc := hP.sub (ws' := [(tb, .inr (11, [.ref kq, .int (iI (bN utf)), .int (iI (bN ucp)), .int (iI la), .ref mq, .int (iI mz)])), (kq, .inl (E.2.1 0, 12544, .inl f10))]) [0, 1] rfl
  have hDc := hD.sub (ws' := [(tb, .inr (11, [.ref kq, .int (iI (bN utf)), .int (iI (bN ucp)), .int (iI la), .ref mq, .int (iI mz)])), (kq, .inl (E.2.1 0, 12544, .inl f10))]) [0, 1] (by decide) rfl
  have hFc := va_free (wc := [(tb, .inr (11, [.ref kq, .int (iI (bN utf)), .int (iI (bN ucp)), .int (iI la), .ref mq, .int (iI mz)])), (kq, .inl (E.2.1 0, 12544, .inl f10))]) hD hS hA [0, 1] rfl
  refine zcW (va_runV (As := [.int (iI 37), .int (iI 39), .int (iI 16)]) (rest := []) S (c_Table_kinds l E _ tb kq mq utf ucp la mz f10 37 39 16 (by decide) (by decide) (by decide)) ⟨zcwB (n := 3) S zw_883 zw_15 zw_880 (by decide +kernel) rfl rfl ⟨Nat.le_of_ble_eq_true rfl, Nat.le_of_ble_eq_true rfl⟩, S.2.2.2.2 _ zw_882, S.2.2.2.2 _ zs_26⟩ (zPreV hE (hP 0 _ rfl) rfl ⟨rfl, hPc, hDc.weaken (fun _ _ _ h => hA0 _ h), trivial⟩) rfl rfl hl.1 rfl (lv_room (Nat.le_of_ble_eq_true rfl)) d_Table_table0_129 ⟨by (try dsimp only); omega, by (try dsimp only); omega⟩) hS (fun q _ h => hFc q h) hFc (fun v H locs hq hz1 hk1 hS => ?_)
  obtain ⟨rfl, hP1, hD1⟩ := hq
  obtain ⟨hP, hD⟩ := va_join (wr := []) (w1 := [(tb, .inr (11, [.ref kq, .int (iI (bN utf)), .int (iI (bN ucp)), .int (iI la), .ref mq, .int (iI mz)])), (kq, .inl (E.2.1 0, 12544, .inl (rf_set f10 (37, 39, 16))))]) hP hD [0, 1] [] rfl rfl (by decide) (by decide) hk1 hFc hP1 hD1
  have hP : va_P E.1 zcl [(tb, .inr (11, [.ref kq, .int (iI (bN utf)), .int (iI (bN ucp)), .int (iI la), .ref mq, .int (iI mz)])), (kq, .inl (E.2.1 0, 12544, .inl (rf_set f10 (37, 39, 16))))] H := hP
  have hD : va_D A [(tb, .inr (11, [.ref kq, .int (iI (bN utf)), .int (iI (bN ucp)), .int (iI la), .ref mq, .int (iI mz)])), (kq, .inl (E.2.1 0, 12544, .inl (rf_set f10 (37, 39, 16))))] := hD
  have hE := hE0.at hS hA0
  obtain ⟨f11, ef11⟩ : ∃ x, x = rf_set f10 (37, 39, 16) := ⟨_, rfl⟩
  rw [← ef11] at hP hD
  refine lv_aload_n hx hb d_Table_table0_132 rfl (lv_at hl 0 rfl) ?_
  refine zi_bipush hx hb d_Table_table0_133 (by decide) ?_
  refine zi_bipush hx hb d_Table_table0_135 (by decide) ?_
  refine zi_bipush hx hb d_Table_table0_137 (by decide) ?_
  have hPc := hP.sub (ws' := [(tb, .inr (11, [.ref kq, .int (iI (bN utf)), .int (iI (bN ucp)), .int (iI la), .ref mq, .int (iI mz)])), (kq, .inl (E.2.1 0, 12544, .inl f11))]) [0, 1] rfl
  have hDc := hD.sub (ws' := [(tb, .inr (11, [.ref kq, .int (iI (bN utf)), .int (iI (bN ucp)), .int (iI la), .ref mq, .int (iI mz)])), (kq, .inl (E.2.1 0, 12544, .inl f11))]) [0, 1] (by decide) rfl
  have hFc := va_free (wc := [(tb, .inr (11, [.ref kq, .int (iI (bN utf)), .int (iI (bN ucp)), .int (iI la), .ref mq, .int (iI mz)])), (kq, .inl (E.2.1 0, 12544, .inl f11))]) hD hS hA [0, 1] rfl
  refine zcW (va_runV (As := [.int (iI 42), .int (iI 42), .int (iI 16)]) (rest := []) S (c_Table_kinds l E _ tb kq mq utf ucp la mz f11 42 42 16 (by decide) (by decide) (by decide)) ⟨zcwB (n := 3) S zw_883 zw_15 zw_880 (by decide +kernel) rfl rfl ⟨Nat.le_of_ble_eq_true rfl, Nat.le_of_ble_eq_true rfl⟩, S.2.2.2.2 _ zw_882, S.2.2.2.2 _ zs_26⟩ (zPreV hE (hP 0 _ rfl) rfl ⟨rfl, hPc, hDc.weaken (fun _ _ _ h => hA0 _ h), trivial⟩) rfl rfl hl.1 rfl (lv_room (Nat.le_of_ble_eq_true rfl)) d_Table_table0_139 ⟨by (try dsimp only); omega, by (try dsimp only); omega⟩) hS (fun q _ h => hFc q h) hFc (fun v H locs hq hz1 hk1 hS => ?_)
  obtain ⟨rfl, hP1, hD1⟩ := hq
  obtain ⟨hP, hD⟩ := va_join (wr := []) (w1 := [(tb, .inr (11, [.ref kq, .int (iI (bN utf)), .int (iI (bN ucp)), .int (iI la), .ref mq, .int (iI mz)])), (kq, .inl (E.2.1 0, 12544, .inl (rf_set f11 (42, 42, 16))))]) hP hD [0, 1] [] rfl rfl (by decide) (by decide) hk1 hFc hP1 hD1
  have hP : va_P E.1 zcl [(tb, .inr (11, [.ref kq, .int (iI (bN utf)), .int (iI (bN ucp)), .int (iI la), .ref mq, .int (iI mz)])), (kq, .inl (E.2.1 0, 12544, .inl (rf_set f11 (42, 42, 16))))] H := hP
  have hD : va_D A [(tb, .inr (11, [.ref kq, .int (iI (bN utf)), .int (iI (bN ucp)), .int (iI la), .ref mq, .int (iI mz)])), (kq, .inl (E.2.1 0, 12544, .inl (rf_set f11 (42, 42, 16))))] := hD
  have hE := hE0.at hS hA0
  obtain ⟨f12, ef12⟩ : ∃ x, x = rf_set f11 (42, 42, 16) := ⟨_, rfl⟩
  rw [← ef12] at hP hD
  refine lv_aload_n hx hb d_Table_table0_142 rfl (lv_at hl 0 rfl) ?_
  refine zi_bipush hx hb d_Table_table0_143 (by decide) ?_
  refine zi_bipush hx hb d_Table_table0_145 (by decide) ?_
  refine zi_bipush hx hb d_Table_table0_147 (by decide) ?_
  have hPc := hP.sub (ws' := [(tb, .inr (11, [.ref kq, .int (iI (bN utf)), .int (iI (bN ucp)), .int (iI la), .ref mq, .int (iI mz)])), (kq, .inl (E.2.1 0, 12544, .inl f12))]) [0, 1] rfl
  have hDc := hD.sub (ws' := [(tb, .inr (11, [.ref kq, .int (iI (bN utf)), .int (iI (bN ucp)), .int (iI la), .ref mq, .int (iI mz)])), (kq, .inl (E.2.1 0, 12544, .inl f12))]) [0, 1] (by decide) rfl
  have hFc := va_free (wc := [(tb, .inr (11, [.ref kq, .int (iI (bN utf)), .int (iI (bN ucp)), .int (iI la), .ref mq, .int (iI mz)])), (kq, .inl (E.2.1 0, 12544, .inl f12))]) hD hS hA [0, 1] rfl
  refine zcW (va_runV (As := [.int (iI 44), .int (iI 44), .int (iI 16)]) (rest := []) S (c_Table_kinds l E _ tb kq mq utf ucp la mz f12 44 44 16 (by decide) (by decide) (by decide)) ⟨zcwB (n := 3) S zw_883 zw_15 zw_880 (by decide +kernel) rfl rfl ⟨Nat.le_of_ble_eq_true rfl, Nat.le_of_ble_eq_true rfl⟩, S.2.2.2.2 _ zw_882, S.2.2.2.2 _ zs_26⟩ (zPreV hE (hP 0 _ rfl) rfl ⟨rfl, hPc, hDc.weaken (fun _ _ _ h => hA0 _ h), trivial⟩) rfl rfl hl.1 rfl (lv_room (Nat.le_of_ble_eq_true rfl)) d_Table_table0_149 ⟨by (try dsimp only); omega, by (try dsimp only); omega⟩) hS (fun q _ h => hFc q h) hFc (fun v H locs hq hz1 hk1 hS => ?_)
  obtain ⟨rfl, hP1, hD1⟩ := hq
  obtain ⟨hP, hD⟩ := va_join (wr := []) (w1 := [(tb, .inr (11, [.ref kq, .int (iI (bN utf)), .int (iI (bN ucp)), .int (iI la), .ref mq, .int (iI mz)])), (kq, .inl (E.2.1 0, 12544, .inl (rf_set f12 (44, 44, 16))))]) hP hD [0, 1] [] rfl rfl (by decide) (by decide) hk1 hFc hP1 hD1
  have hP : va_P E.1 zcl [(tb, .inr (11, [.ref kq, .int (iI (bN utf)), .int (iI (bN ucp)), .int (iI la), .ref mq, .int (iI mz)])), (kq, .inl (E.2.1 0, 12544, .inl (rf_set f12 (44, 44, 16))))] H := hP
  have hD : va_D A [(tb, .inr (11, [.ref kq, .int (iI (bN utf)), .int (iI (bN ucp)), .int (iI la), .ref mq, .int (iI mz)])), (kq, .inl (E.2.1 0, 12544, .inl (rf_set f12 (44, 44, 16))))] := hD
  have hE := hE0.at hS hA0
  obtain ⟨f13, ef13⟩ : ∃ x, x = rf_set f12 (44, 44, 16) := ⟨_, rfl⟩
  rw [← ef13] at hP hD
  refine lv_aload_n hx hb d_Table_table0_152 rfl (lv_at hl 0 rfl) ?_
  refine zi_bipush hx hb d_Table_table0_153 (by decide) ?_
  refine zi_bipush hx hb d_Table_table0_155 (by decide) ?_
  refine zi_bipush hx hb d_Table_table0_157 (by decide) ?_
  have hPc := hP.sub (ws' := [(tb, .inr (11, [.ref kq, .int (iI (bN utf)), .int (iI (bN ucp)), .int (iI la), .ref mq, .int (iI mz)])), (kq, .inl (E.2.1 0, 12544, .inl f13))]) [0, 1] rfl
  have hDc := hD.sub (ws' := [(tb, .inr (11, [.ref kq, .int (iI (bN utf)), .int (iI (bN ucp)), .int (iI la), .ref mq, .int (iI mz)])), (kq, .inl (E.2.1 0, 12544, .inl f13))]) [0, 1] (by decide) rfl
  have hFc := va_free (wc := [(tb, .inr (11, [.ref kq, .int (iI (bN utf)), .int (iI (bN ucp)), .int (iI la), .ref mq, .int (iI mz)])), (kq, .inl (E.2.1 0, 12544, .inl f13))]) hD hS hA [0, 1] rfl
  refine zcW (va_runV (As := [.int (iI 46), .int (iI 47), .int (iI 16)]) (rest := []) S (c_Table_kinds l E _ tb kq mq utf ucp la mz f13 46 47 16 (by decide) (by decide) (by decide)) ⟨zcwB (n := 3) S zw_883 zw_15 zw_880 (by decide +kernel) rfl rfl ⟨Nat.le_of_ble_eq_true rfl, Nat.le_of_ble_eq_true rfl⟩, S.2.2.2.2 _ zw_882, S.2.2.2.2 _ zs_26⟩ (zPreV hE (hP 0 _ rfl) rfl ⟨rfl, hPc, hDc.weaken (fun _ _ _ h => hA0 _ h), trivial⟩) rfl rfl hl.1 rfl (lv_room (Nat.le_of_ble_eq_true rfl)) d_Table_table0_159 ⟨by (try dsimp only); omega, by (try dsimp only); omega⟩) hS (fun q _ h => hFc q h) hFc (fun v H locs hq hz1 hk1 hS => ?_)
  obtain ⟨rfl, hP1, hD1⟩ := hq
  obtain ⟨hP, hD⟩ := va_join (wr := []) (w1 := [(tb, .inr (11, [.ref kq, .int (iI (bN utf)), .int (iI (bN ucp)), .int (iI la), .ref mq, .int (iI mz)])), (kq, .inl (E.2.1 0, 12544, .inl (rf_set f13 (46, 47, 16))))]) hP hD [0, 1] [] rfl rfl (by decide) (by decide) hk1 hFc hP1 hD1
  have hP : va_P E.1 zcl [(tb, .inr (11, [.ref kq, .int (iI (bN utf)), .int (iI (bN ucp)), .int (iI la), .ref mq, .int (iI mz)])), (kq, .inl (E.2.1 0, 12544, .inl (rf_set f13 (46, 47, 16))))] H := hP
  have hD : va_D A [(tb, .inr (11, [.ref kq, .int (iI (bN utf)), .int (iI (bN ucp)), .int (iI la), .ref mq, .int (iI mz)])), (kq, .inl (E.2.1 0, 12544, .inl (rf_set f13 (46, 47, 16))))] := hD
  have hE := hE0.at hS hA0
  obtain ⟨f14, ef14⟩ : ∃ x, x = rf_set f13 (46, 47, 16) := ⟨_, rfl⟩
  rw [← ef14] at hP hD
  refine lv_aload_n hx hb d_Table_table0_162 rfl (lv_at hl 0 rfl) ?_
  refine zi_bipush hx hb d_Table_table0_163 (by decide) ?_
  refine zi_bipush hx hb d_Table_table0_165 (by decide) ?_
  refine zi_bipush hx hb d_Table_table0_167 (by decide) ?_
  have hPc := hP.sub (ws' := [(tb, .inr (11, [.ref kq, .int (iI (bN utf)), .int (iI (bN ucp)), .int (iI la), .ref mq, .int (iI mz)])), (kq, .inl (E.2.1 0, 12544, .inl f14))]) [0, 1] rfl
  have hDc := hD.sub (ws' := [(tb, .inr (11, [.ref kq, .int (iI (bN utf)), .int (iI (bN ucp)), .int (iI la), .ref mq, .int (iI mz)])), (kq, .inl (E.2.1 0, 12544, .inl f14))]) [0, 1] (by decide) rfl
  have hFc := va_free (wc := [(tb, .inr (11, [.ref kq, .int (iI (bN utf)), .int (iI (bN ucp)), .int (iI la), .ref mq, .int (iI mz)])), (kq, .inl (E.2.1 0, 12544, .inl f14))]) hD hS hA [0, 1] rfl
  refine zcW (va_runV (As := [.int (iI 58), .int (iI 59), .int (iI 16)]) (rest := []) S (c_Table_kinds l E _ tb kq mq utf ucp la mz f14 58 59 16 (by decide) (by decide) (by decide)) ⟨zcwB (n := 3) S zw_883 zw_15 zw_880 (by decide +kernel) rfl rfl ⟨Nat.le_of_ble_eq_true rfl, Nat.le_of_ble_eq_true rfl⟩, S.2.2.2.2 _ zw_882, S.2.2.2.2 _ zs_26⟩ (zPreV hE (hP 0 _ rfl) rfl ⟨rfl, hPc, hDc.weaken (fun _ _ _ h => hA0 _ h), trivial⟩) rfl rfl hl.1 rfl (lv_room (Nat.le_of_ble_eq_true rfl)) d_Table_table0_169 ⟨by (try dsimp only); omega, by (try dsimp only); omega⟩) hS (fun q _ h => hFc q h) hFc (fun v H locs hq hz1 hk1 hS => ?_)
  obtain ⟨rfl, hP1, hD1⟩ := hq
  obtain ⟨hP, hD⟩ := va_join (wr := []) (w1 := [(tb, .inr (11, [.ref kq, .int (iI (bN utf)), .int (iI (bN ucp)), .int (iI la), .ref mq, .int (iI mz)])), (kq, .inl (E.2.1 0, 12544, .inl (rf_set f14 (58, 59, 16))))]) hP hD [0, 1] [] rfl rfl (by decide) (by decide) hk1 hFc hP1 hD1
  have hP : va_P E.1 zcl [(tb, .inr (11, [.ref kq, .int (iI (bN utf)), .int (iI (bN ucp)), .int (iI la), .ref mq, .int (iI mz)])), (kq, .inl (E.2.1 0, 12544, .inl (rf_set f14 (58, 59, 16))))] H := hP
  have hD : va_D A [(tb, .inr (11, [.ref kq, .int (iI (bN utf)), .int (iI (bN ucp)), .int (iI la), .ref mq, .int (iI mz)])), (kq, .inl (E.2.1 0, 12544, .inl (rf_set f14 (58, 59, 16))))] := hD
  have hE := hE0.at hS hA0
  obtain ⟨f15, ef15⟩ : ∃ x, x = rf_set f14 (58, 59, 16) := ⟨_, rfl⟩
  rw [← ef15] at hP hD
  refine lv_aload_n hx hb d_Table_table0_172 rfl (lv_at hl 0 rfl) ?_
  refine zi_bipush hx hb d_Table_table0_173 (by decide) ?_
  refine zi_bipush hx hb d_Table_table0_175 (by decide) ?_
  refine zi_bipush hx hb d_Table_table0_177 (by decide) ?_
  have hPc := hP.sub (ws' := [(tb, .inr (11, [.ref kq, .int (iI (bN utf)), .int (iI (bN ucp)), .int (iI la), .ref mq, .int (iI mz)])), (kq, .inl (E.2.1 0, 12544, .inl f15))]) [0, 1] rfl
  have hDc := hD.sub (ws' := [(tb, .inr (11, [.ref kq, .int (iI (bN utf)), .int (iI (bN ucp)), .int (iI la), .ref mq, .int (iI mz)])), (kq, .inl (E.2.1 0, 12544, .inl f15))]) [0, 1] (by decide) rfl
  have hFc := va_free (wc := [(tb, .inr (11, [.ref kq, .int (iI (bN utf)), .int (iI (bN ucp)), .int (iI la), .ref mq, .int (iI mz)])), (kq, .inl (E.2.1 0, 12544, .inl f15))]) hD hS hA [0, 1] rfl
  refine zcW (va_runV (As := [.int (iI 63), .int (iI 64), .int (iI 16)]) (rest := []) S (c_Table_kinds l E _ tb kq mq utf ucp la mz f15 63 64 16 (by decide) (by decide) (by decide)) ⟨zcwB (n := 3) S zw_883 zw_15 zw_880 (by decide +kernel) rfl rfl ⟨Nat.le_of_ble_eq_true rfl, Nat.le_of_ble_eq_true rfl⟩, S.2.2.2.2 _ zw_882, S.2.2.2.2 _ zs_26⟩ (zPreV hE (hP 0 _ rfl) rfl ⟨rfl, hPc, hDc.weaken (fun _ _ _ h => hA0 _ h), trivial⟩) rfl rfl hl.1 rfl (lv_room (Nat.le_of_ble_eq_true rfl)) d_Table_table0_179 ⟨by (try dsimp only); omega, by (try dsimp only); omega⟩) hS (fun q _ h => hFc q h) hFc (fun v H locs hq hz1 hk1 hS => ?_)
  obtain ⟨rfl, hP1, hD1⟩ := hq
  obtain ⟨hP, hD⟩ := va_join (wr := []) (w1 := [(tb, .inr (11, [.ref kq, .int (iI (bN utf)), .int (iI (bN ucp)), .int (iI la), .ref mq, .int (iI mz)])), (kq, .inl (E.2.1 0, 12544, .inl (rf_set f15 (63, 64, 16))))]) hP hD [0, 1] [] rfl rfl (by decide) (by decide) hk1 hFc hP1 hD1
  have hP : va_P E.1 zcl [(tb, .inr (11, [.ref kq, .int (iI (bN utf)), .int (iI (bN ucp)), .int (iI la), .ref mq, .int (iI mz)])), (kq, .inl (E.2.1 0, 12544, .inl (rf_set f15 (63, 64, 16))))] H := hP
  have hD : va_D A [(tb, .inr (11, [.ref kq, .int (iI (bN utf)), .int (iI (bN ucp)), .int (iI la), .ref mq, .int (iI mz)])), (kq, .inl (E.2.1 0, 12544, .inl (rf_set f15 (63, 64, 16))))] := hD
  have hE := hE0.at hS hA0
  obtain ⟨f16, ef16⟩ : ∃ x, x = rf_set f15 (63, 64, 16) := ⟨_, rfl⟩
  rw [← ef16] at hP hD
  refine lv_aload_n hx hb d_Table_table0_182 rfl (lv_at hl 0 rfl) ?_
  refine zi_bipush hx hb d_Table_table0_183 (by decide) ?_
  refine zi_bipush hx hb d_Table_table0_185 (by decide) ?_
  refine zi_bipush hx hb d_Table_table0_187 (by decide) ?_
  have hPc := hP.sub (ws' := [(tb, .inr (11, [.ref kq, .int (iI (bN utf)), .int (iI (bN ucp)), .int (iI la), .ref mq, .int (iI mz)])), (kq, .inl (E.2.1 0, 12544, .inl f16))]) [0, 1] rfl
  have hDc := hD.sub (ws' := [(tb, .inr (11, [.ref kq, .int (iI (bN utf)), .int (iI (bN ucp)), .int (iI la), .ref mq, .int (iI mz)])), (kq, .inl (E.2.1 0, 12544, .inl f16))]) [0, 1] (by decide) rfl
  have hFc := va_free (wc := [(tb, .inr (11, [.ref kq, .int (iI (bN utf)), .int (iI (bN ucp)), .int (iI la), .ref mq, .int (iI mz)])), (kq, .inl (E.2.1 0, 12544, .inl f16))]) hD hS hA [0, 1] rfl
  refine zcW (va_runV (As := [.int (iI 92), .int (iI 92), .int (iI 16)]) (rest := []) S (c_Table_kinds l E _ tb kq mq utf ucp la mz f16 92 92 16 (by decide) (by decide) (by decide)) ⟨zcwB (n := 3) S zw_883 zw_15 zw_880 (by decide +kernel) rfl rfl ⟨Nat.le_of_ble_eq_true rfl, Nat.le_of_ble_eq_true rfl⟩, S.2.2.2.2 _ zw_882, S.2.2.2.2 _ zs_26⟩ (zPreV hE (hP 0 _ rfl) rfl ⟨rfl, hPc, hDc.weaken (fun _ _ _ h => hA0 _ h), trivial⟩) rfl rfl hl.1 rfl (lv_room (Nat.le_of_ble_eq_true rfl)) d_Table_table0_189 ⟨by (try dsimp only); omega, by (try dsimp only); omega⟩) hS (fun q _ h => hFc q h) hFc (fun v H locs hq hz1 hk1 hS => ?_)
  obtain ⟨rfl, hP1, hD1⟩ := hq
  obtain ⟨hP, hD⟩ := va_join (wr := []) (w1 := [(tb, .inr (11, [.ref kq, .int (iI (bN utf)), .int (iI (bN ucp)), .int (iI la), .ref mq, .int (iI mz)])), (kq, .inl (E.2.1 0, 12544, .inl (rf_set f16 (92, 92, 16))))]) hP hD [0, 1] [] rfl rfl (by decide) (by decide) hk1 hFc hP1 hD1
  have hP : va_P E.1 zcl [(tb, .inr (11, [.ref kq, .int (iI (bN utf)), .int (iI (bN ucp)), .int (iI la), .ref mq, .int (iI mz)])), (kq, .inl (E.2.1 0, 12544, .inl (rf_set f16 (92, 92, 16))))] H := hP
  have hD : va_D A [(tb, .inr (11, [.ref kq, .int (iI (bN utf)), .int (iI (bN ucp)), .int (iI la), .ref mq, .int (iI mz)])), (kq, .inl (E.2.1 0, 12544, .inl (rf_set f16 (92, 92, 16))))] := hD
  have hE := hE0.at hS hA0
  obtain ⟨f17, ef17⟩ : ∃ x, x = rf_set f16 (92, 92, 16) := ⟨_, rfl⟩
  rw [← ef17] at hP hD
  refine lv_aload_n hx hb d_Table_table0_192 rfl (lv_at hl 0 rfl) ?_
  refine zi_sipush hx hb d_Table_table0_193 (by decide) ?_
  refine zi_sipush hx hb d_Table_table0_196 (by decide) ?_
  refine zi_bipush hx hb d_Table_table0_199 (by decide) ?_
  have hPc := hP.sub (ws' := [(tb, .inr (11, [.ref kq, .int (iI (bN utf)), .int (iI (bN ucp)), .int (iI la), .ref mq, .int (iI mz)])), (kq, .inl (E.2.1 0, 12544, .inl f17))]) [0, 1] rfl
  have hDc := hD.sub (ws' := [(tb, .inr (11, [.ref kq, .int (iI (bN utf)), .int (iI (bN ucp)), .int (iI la), .ref mq, .int (iI mz)])), (kq, .inl (E.2.1 0, 12544, .inl f17))]) [0, 1] (by decide) rfl
  have hFc := va_free (wc := [(tb, .inr (11, [.ref kq, .int (iI (bN utf)), .int (iI (bN ucp)), .int (iI la), .ref mq, .int (iI mz)])), (kq, .inl (E.2.1 0, 12544, .inl f17))]) hD hS hA [0, 1] rfl
  refine zcW (va_runV (As := [.int (iI 161), .int (iI 161), .int (iI 16)]) (rest := []) S (c_Table_kinds l E _ tb kq mq utf ucp la mz f17 161 161 16 (by decide) (by decide) (by decide)) ⟨zcwB (n := 3) S zw_883 zw_15 zw_880 (by decide +kernel) rfl rfl ⟨Nat.le_of_ble_eq_true rfl, Nat.le_of_ble_eq_true rfl⟩, S.2.2.2.2 _ zw_882, S.2.2.2.2 _ zs_26⟩ (zPreV hE (hP 0 _ rfl) rfl ⟨rfl, hPc, hDc.weaken (fun _ _ _ h => hA0 _ h), trivial⟩) rfl rfl hl.1 rfl (lv_room (Nat.le_of_ble_eq_true rfl)) d_Table_table0_201 ⟨by (try dsimp only); omega, by (try dsimp only); omega⟩) hS (fun q _ h => hFc q h) hFc (fun v H locs hq hz1 hk1 hS => ?_)
  obtain ⟨rfl, hP1, hD1⟩ := hq
  obtain ⟨hP, hD⟩ := va_join (wr := []) (w1 := [(tb, .inr (11, [.ref kq, .int (iI (bN utf)), .int (iI (bN ucp)), .int (iI la), .ref mq, .int (iI mz)])), (kq, .inl (E.2.1 0, 12544, .inl (rf_set f17 (161, 161, 16))))]) hP hD [0, 1] [] rfl rfl (by decide) (by decide) hk1 hFc hP1 hD1
  have hP : va_P E.1 zcl [(tb, .inr (11, [.ref kq, .int (iI (bN utf)), .int (iI (bN ucp)), .int (iI la), .ref mq, .int (iI mz)])), (kq, .inl (E.2.1 0, 12544, .inl (rf_set f17 (161, 161, 16))))] H := hP
  have hD : va_D A [(tb, .inr (11, [.ref kq, .int (iI (bN utf)), .int (iI (bN ucp)), .int (iI la), .ref mq, .int (iI mz)])), (kq, .inl (E.2.1 0, 12544, .inl (rf_set f17 (161, 161, 16))))] := hD
  have hE := hE0.at hS hA0
  obtain ⟨f18, ef18⟩ : ∃ x, x = rf_set f17 (161, 161, 16) := ⟨_, rfl⟩
  rw [← ef18] at hP hD
  refine lv_aload_n hx hb d_Table_table0_204 rfl (lv_at hl 0 rfl) ?_
  refine zi_sipush hx hb d_Table_table0_205 (by decide) ?_
  refine zi_sipush hx hb d_Table_table0_208 (by decide) ?_
  refine zi_bipush hx hb d_Table_table0_211 (by decide) ?_
  have hPc := hP.sub (ws' := [(tb, .inr (11, [.ref kq, .int (iI (bN utf)), .int (iI (bN ucp)), .int (iI la), .ref mq, .int (iI mz)])), (kq, .inl (E.2.1 0, 12544, .inl f18))]) [0, 1] rfl
  have hDc := hD.sub (ws' := [(tb, .inr (11, [.ref kq, .int (iI (bN utf)), .int (iI (bN ucp)), .int (iI la), .ref mq, .int (iI mz)])), (kq, .inl (E.2.1 0, 12544, .inl f18))]) [0, 1] (by decide) rfl
  have hFc := va_free (wc := [(tb, .inr (11, [.ref kq, .int (iI (bN utf)), .int (iI (bN ucp)), .int (iI la), .ref mq, .int (iI mz)])), (kq, .inl (E.2.1 0, 12544, .inl f18))]) hD hS hA [0, 1] rfl
  refine zcW (va_runV (As := [.int (iI 167), .int (iI 167), .int (iI 16)]) (rest := []) S (c_Table_kinds l E _ tb kq mq utf ucp la mz f18 167 167 16 (by decide) (by decide) (by decide)) ⟨zcwB (n := 3) S zw_883 zw_15 zw_880 (by decide +kernel) rfl rfl ⟨Nat.le_of_ble_eq_true rfl, Nat.le_of_ble_eq_true rfl⟩, S.2.2.2.2 _ zw_882, S.2.2.2.2 _ zs_26⟩ (zPreV hE (hP 0 _ rfl) rfl ⟨rfl, hPc, hDc.weaken (fun _ _ _ h => hA0 _ h), trivial⟩) rfl rfl hl.1 rfl (lv_room (Nat.le_of_ble_eq_true rfl)) d_Table_table0_213 ⟨by (try dsimp only); omega, by (try dsimp only); omega⟩) hS (fun q _ h => hFc q h) hFc (fun v H locs hq hz1 hk1 hS => ?_)
  obtain ⟨rfl, hP1, hD1⟩ := hq
  obtain ⟨hP, hD⟩ := va_join (wr := []) (w1 := [(tb, .inr (11, [.ref kq, .int (iI (bN utf)), .int (iI (bN ucp)), .int (iI la), .ref mq, .int (iI mz)])), (kq, .inl (E.2.1 0, 12544, .inl (rf_set f18 (167, 167, 16))))]) hP hD [0, 1] [] rfl rfl (by decide) (by decide) hk1 hFc hP1 hD1
  have hP : va_P E.1 zcl [(tb, .inr (11, [.ref kq, .int (iI (bN utf)), .int (iI (bN ucp)), .int (iI la), .ref mq, .int (iI mz)])), (kq, .inl (E.2.1 0, 12544, .inl (rf_set f18 (167, 167, 16))))] H := hP
  have hD : va_D A [(tb, .inr (11, [.ref kq, .int (iI (bN utf)), .int (iI (bN ucp)), .int (iI la), .ref mq, .int (iI mz)])), (kq, .inl (E.2.1 0, 12544, .inl (rf_set f18 (167, 167, 16))))] := hD
  have hE := hE0.at hS hA0
  obtain ⟨f19, ef19⟩ : ∃ x, x = rf_set f18 (167, 167, 16) := ⟨_, rfl⟩
  rw [← ef19] at hP hD
  refine lv_aload_n hx hb d_Table_table0_216 rfl (lv_at hl 0 rfl) ?_
  refine zi_sipush hx hb d_Table_table0_217 (by decide) ?_
  refine zi_sipush hx hb d_Table_table0_220 (by decide) ?_
  refine zi_bipush hx hb d_Table_table0_223 (by decide) ?_
  have hPc := hP.sub (ws' := [(tb, .inr (11, [.ref kq, .int (iI (bN utf)), .int (iI (bN ucp)), .int (iI la), .ref mq, .int (iI mz)])), (kq, .inl (E.2.1 0, 12544, .inl f19))]) [0, 1] rfl
  have hDc := hD.sub (ws' := [(tb, .inr (11, [.ref kq, .int (iI (bN utf)), .int (iI (bN ucp)), .int (iI la), .ref mq, .int (iI mz)])), (kq, .inl (E.2.1 0, 12544, .inl f19))]) [0, 1] (by decide) rfl
  have hFc := va_free (wc := [(tb, .inr (11, [.ref kq, .int (iI (bN utf)), .int (iI (bN ucp)), .int (iI la), .ref mq, .int (iI mz)])), (kq, .inl (E.2.1 0, 12544, .inl f19))]) hD hS hA [0, 1] rfl
  refine zcW (va_runV (As := [.int (iI 182), .int (iI 183), .int (iI 16)]) (rest := []) S (c_Table_kinds l E _ tb kq mq utf ucp la mz f19 182 183 16 (by decide) (by decide) (by decide)) ⟨zcwB (n := 3) S zw_883 zw_15 zw_880 (by decide +kernel) rfl rfl ⟨Nat.le_of_ble_eq_true rfl, Nat.le_of_ble_eq_true rfl⟩, S.2.2.2.2 _ zw_882, S.2.2.2.2 _ zs_26⟩ (zPreV hE (hP 0 _ rfl) rfl ⟨rfl, hPc, hDc.weaken (fun _ _ _ h => hA0 _ h), trivial⟩) rfl rfl hl.1 rfl (lv_room (Nat.le_of_ble_eq_true rfl)) d_Table_table0_225 ⟨by (try dsimp only); omega, by (try dsimp only); omega⟩) hS (fun q _ h => hFc q h) hFc (fun v H locs hq hz1 hk1 hS => ?_)
  obtain ⟨rfl, hP1, hD1⟩ := hq
  obtain ⟨hP, hD⟩ := va_join (wr := []) (w1 := [(tb, .inr (11, [.ref kq, .int (iI (bN utf)), .int (iI (bN ucp)), .int (iI la), .ref mq, .int (iI mz)])), (kq, .inl (E.2.1 0, 12544, .inl (rf_set f19 (182, 183, 16))))]) hP hD [0, 1] [] rfl rfl (by decide) (by decide) hk1 hFc hP1 hD1
  have hP : va_P E.1 zcl [(tb, .inr (11, [.ref kq, .int (iI (bN utf)), .int (iI (bN ucp)), .int (iI la), .ref mq, .int (iI mz)])), (kq, .inl (E.2.1 0, 12544, .inl (rf_set f19 (182, 183, 16))))] H := hP
  have hD : va_D A [(tb, .inr (11, [.ref kq, .int (iI (bN utf)), .int (iI (bN ucp)), .int (iI la), .ref mq, .int (iI mz)])), (kq, .inl (E.2.1 0, 12544, .inl (rf_set f19 (182, 183, 16))))] := hD
  have hE := hE0.at hS hA0
  obtain ⟨f20, ef20⟩ : ∃ x, x = rf_set f19 (182, 183, 16) := ⟨_, rfl⟩
  rw [← ef20] at hP hD
  refine lv_aload_n hx hb d_Table_table0_228 rfl (lv_at hl 0 rfl) ?_
  refine zi_sipush hx hb d_Table_table0_229 (by decide) ?_
  refine zi_sipush hx hb d_Table_table0_232 (by decide) ?_
  refine zi_bipush hx hb d_Table_table0_235 (by decide) ?_
  have hPc := hP.sub (ws' := [(tb, .inr (11, [.ref kq, .int (iI (bN utf)), .int (iI (bN ucp)), .int (iI la), .ref mq, .int (iI mz)])), (kq, .inl (E.2.1 0, 12544, .inl f20))]) [0, 1] rfl
  have hDc := hD.sub (ws' := [(tb, .inr (11, [.ref kq, .int (iI (bN utf)), .int (iI (bN ucp)), .int (iI la), .ref mq, .int (iI mz)])), (kq, .inl (E.2.1 0, 12544, .inl f20))]) [0, 1] (by decide) rfl
  have hFc := va_free (wc := [(tb, .inr (11, [.ref kq, .int (iI (bN utf)), .int (iI (bN ucp)), .int (iI la), .ref mq, .int (iI mz)])), (kq, .inl (E.2.1 0, 12544, .inl f20))]) hD hS hA [0, 1] rfl
  refine zcW (va_runV (As := [.int (iI 191), .int (iI 191), .int (iI 16)]) (rest := []) S (c_Table_kinds l E _ tb kq mq utf ucp la mz f20 191 191 16 (by decide) (by decide) (by decide)) ⟨zcwB (n := 3) S zw_883 zw_15 zw_880 (by decide +kernel) rfl rfl ⟨Nat.le_of_ble_eq_true rfl, Nat.le_of_ble_eq_true rfl⟩, S.2.2.2.2 _ zw_882, S.2.2.2.2 _ zs_26⟩ (zPreV hE (hP 0 _ rfl) rfl ⟨rfl, hPc, hDc.weaken (fun _ _ _ h => hA0 _ h), trivial⟩) rfl rfl hl.1 rfl (lv_room (Nat.le_of_ble_eq_true rfl)) d_Table_table0_237 ⟨by (try dsimp only); omega, by (try dsimp only); omega⟩) hS (fun q _ h => hFc q h) hFc (fun v H locs hq hz1 hk1 hS => ?_)
  obtain ⟨rfl, hP1, hD1⟩ := hq
  obtain ⟨hP, hD⟩ := va_join (wr := []) (w1 := [(tb, .inr (11, [.ref kq, .int (iI (bN utf)), .int (iI (bN ucp)), .int (iI la), .ref mq, .int (iI mz)])), (kq, .inl (E.2.1 0, 12544, .inl (rf_set f20 (191, 191, 16))))]) hP hD [0, 1] [] rfl rfl (by decide) (by decide) hk1 hFc hP1 hD1
  have hP : va_P E.1 zcl [(tb, .inr (11, [.ref kq, .int (iI (bN utf)), .int (iI (bN ucp)), .int (iI la), .ref mq, .int (iI mz)])), (kq, .inl (E.2.1 0, 12544, .inl (rf_set f20 (191, 191, 16))))] H := hP
  have hD : va_D A [(tb, .inr (11, [.ref kq, .int (iI (bN utf)), .int (iI (bN ucp)), .int (iI la), .ref mq, .int (iI mz)])), (kq, .inl (E.2.1 0, 12544, .inl (rf_set f20 (191, 191, 16))))] := hD
  have hE := hE0.at hS hA0
  obtain ⟨f21, ef21⟩ : ∃ x, x = rf_set f20 (191, 191, 16) := ⟨_, rfl⟩
  rw [← ef21] at hP hD
  refine lv_aload_n hx hb d_Table_table0_240 rfl (lv_at hl 0 rfl) ?_
  refine zi_sipush hx hb d_Table_table0_241 (by decide) ?_
  refine zi_sipush hx hb d_Table_table0_244 (by decide) ?_
  refine zi_bipush hx hb d_Table_table0_247 (by decide) ?_
  have hPc := hP.sub (ws' := [(tb, .inr (11, [.ref kq, .int (iI (bN utf)), .int (iI (bN ucp)), .int (iI la), .ref mq, .int (iI mz)])), (kq, .inl (E.2.1 0, 12544, .inl f21))]) [0, 1] rfl
  have hDc := hD.sub (ws' := [(tb, .inr (11, [.ref kq, .int (iI (bN utf)), .int (iI (bN ucp)), .int (iI la), .ref mq, .int (iI mz)])), (kq, .inl (E.2.1 0, 12544, .inl f21))]) [0, 1] (by decide) rfl
  have hFc := va_free (wc := [(tb, .inr (11, [.ref kq, .int (iI (bN utf)), .int (iI (bN ucp)), .int (iI la), .ref mq, .int (iI mz)])), (kq, .inl (E.2.1 0, 12544, .inl f21))]) hD hS hA [0, 1] rfl
  refine zcW (va_runV (As := [.int (iI 8214), .int (iI 8215), .int (iI 16)]) (rest := []) S (c_Table_kinds l E _ tb kq mq utf ucp la mz f21 8214 8215 16 (by decide) (by decide) (by decide)) ⟨zcwB (n := 3) S zw_883 zw_15 zw_880 (by decide +kernel) rfl rfl ⟨Nat.le_of_ble_eq_true rfl, Nat.le_of_ble_eq_true rfl⟩, S.2.2.2.2 _ zw_882, S.2.2.2.2 _ zs_26⟩ (zPreV hE (hP 0 _ rfl) rfl ⟨rfl, hPc, hDc.weaken (fun _ _ _ h => hA0 _ h), trivial⟩) rfl rfl hl.1 rfl (lv_room (Nat.le_of_ble_eq_true rfl)) d_Table_table0_249 ⟨by (try dsimp only); omega, by (try dsimp only); omega⟩) hS (fun q _ h => hFc q h) hFc (fun v H locs hq hz1 hk1 hS => ?_)
  obtain ⟨rfl, hP1, hD1⟩ := hq
  obtain ⟨hP, hD⟩ := va_join (wr := []) (w1 := [(tb, .inr (11, [.ref kq, .int (iI (bN utf)), .int (iI (bN ucp)), .int (iI la), .ref mq, .int (iI mz)])), (kq, .inl (E.2.1 0, 12544, .inl (rf_set f21 (8214, 8215, 16))))]) hP hD [0, 1] [] rfl rfl (by decide) (by decide) hk1 hFc hP1 hD1
  have hP : va_P E.1 zcl [(tb, .inr (11, [.ref kq, .int (iI (bN utf)), .int (iI (bN ucp)), .int (iI la), .ref mq, .int (iI mz)])), (kq, .inl (E.2.1 0, 12544, .inl (rf_set f21 (8214, 8215, 16))))] H := hP
  have hD : va_D A [(tb, .inr (11, [.ref kq, .int (iI (bN utf)), .int (iI (bN ucp)), .int (iI la), .ref mq, .int (iI mz)])), (kq, .inl (E.2.1 0, 12544, .inl (rf_set f21 (8214, 8215, 16))))] := hD
  have hE := hE0.at hS hA0
  obtain ⟨f22, ef22⟩ : ∃ x, x = rf_set f21 (8214, 8215, 16) := ⟨_, rfl⟩
  rw [← ef22] at hP hD
  refine lv_aload_n hx hb d_Table_table0_252 rfl (lv_at hl 0 rfl) ?_
  refine zi_sipush hx hb d_Table_table0_253 (by decide) ?_
  refine zi_sipush hx hb d_Table_table0_256 (by decide) ?_
  refine zi_bipush hx hb d_Table_table0_259 (by decide) ?_
  have hPc := hP.sub (ws' := [(tb, .inr (11, [.ref kq, .int (iI (bN utf)), .int (iI (bN ucp)), .int (iI la), .ref mq, .int (iI mz)])), (kq, .inl (E.2.1 0, 12544, .inl f22))]) [0, 1] rfl
  have hDc := hD.sub (ws' := [(tb, .inr (11, [.ref kq, .int (iI (bN utf)), .int (iI (bN ucp)), .int (iI la), .ref mq, .int (iI mz)])), (kq, .inl (E.2.1 0, 12544, .inl f22))]) [0, 1] (by decide) rfl
  have hFc := va_free (wc := [(tb, .inr (11, [.ref kq, .int (iI (bN utf)), .int (iI (bN ucp)), .int (iI la), .ref mq, .int (iI mz)])), (kq, .inl (E.2.1 0, 12544, .inl f22))]) hD hS hA [0, 1] rfl
  refine zcW (va_runV (As := [.int (iI 8224), .int (iI 8231), .int (iI 16)]) (rest := []) S (c_Table_kinds l E _ tb kq mq utf ucp la mz f22 8224 8231 16 (by decide) (by decide) (by decide)) ⟨zcwB (n := 3) S zw_883 zw_15 zw_880 (by decide +kernel) rfl rfl ⟨Nat.le_of_ble_eq_true rfl, Nat.le_of_ble_eq_true rfl⟩, S.2.2.2.2 _ zw_882, S.2.2.2.2 _ zs_26⟩ (zPreV hE (hP 0 _ rfl) rfl ⟨rfl, hPc, hDc.weaken (fun _ _ _ h => hA0 _ h), trivial⟩) rfl rfl hl.1 rfl (lv_room (Nat.le_of_ble_eq_true rfl)) d_Table_table0_261 ⟨by (try dsimp only); omega, by (try dsimp only); omega⟩) hS (fun q _ h => hFc q h) hFc (fun v H locs hq hz1 hk1 hS => ?_)
  obtain ⟨rfl, hP1, hD1⟩ := hq
  obtain ⟨hP, hD⟩ := va_join (wr := []) (w1 := [(tb, .inr (11, [.ref kq, .int (iI (bN utf)), .int (iI (bN ucp)), .int (iI la), .ref mq, .int (iI mz)])), (kq, .inl (E.2.1 0, 12544, .inl (rf_set f22 (8224, 8231, 16))))]) hP hD [0, 1] [] rfl rfl (by decide) (by decide) hk1 hFc hP1 hD1
  have hP : va_P E.1 zcl [(tb, .inr (11, [.ref kq, .int (iI (bN utf)), .int (iI (bN ucp)), .int (iI la), .ref mq, .int (iI mz)])), (kq, .inl (E.2.1 0, 12544, .inl (rf_set f22 (8224, 8231, 16))))] H := hP
  have hD : va_D A [(tb, .inr (11, [.ref kq, .int (iI (bN utf)), .int (iI (bN ucp)), .int (iI la), .ref mq, .int (iI mz)])), (kq, .inl (E.2.1 0, 12544, .inl (rf_set f22 (8224, 8231, 16))))] := hD
  have hE := hE0.at hS hA0
  obtain ⟨f23, ef23⟩ : ∃ x, x = rf_set f22 (8224, 8231, 16) := ⟨_, rfl⟩
  rw [← ef23] at hP hD
  refine lv_aload_n hx hb d_Table_table0_264 rfl (lv_at hl 0 rfl) ?_
  refine zi_bipush hx hb d_Table_table0_265 (by decide) ?_
  refine zi_bipush hx hb d_Table_table0_267 (by decide) ?_
  refine zi_bipush hx hb d_Table_table0_269 (by decide) ?_
  have hPc := hP.sub (ws' := [(tb, .inr (11, [.ref kq, .int (iI (bN utf)), .int (iI (bN ucp)), .int (iI la), .ref mq, .int (iI mz)])), (kq, .inl (E.2.1 0, 12544, .inl f23))]) [0, 1] rfl
  have hDc := hD.sub (ws' := [(tb, .inr (11, [.ref kq, .int (iI (bN utf)), .int (iI (bN ucp)), .int (iI la), .ref mq, .int (iI mz)])), (kq, .inl (E.2.1 0, 12544, .inl f23))]) [0, 1] (by decide) rfl
  have hFc := va_free (wc := [(tb, .inr (11, [.ref kq, .int (iI (bN utf)), .int (iI (bN ucp)), .int (iI la), .ref mq, .int (iI mz)])), (kq, .inl (E.2.1 0, 12544, .inl f23))]) hD hS hA [0, 1] rfl
  refine zcW (va_runV (As := [.int (iI 36), .int (iI 36), .int (iI 18)]) (rest := []) S (c_Table_kinds l E _ tb kq mq utf ucp la mz f23 36 36 18 (by decide) (by decide) (by decide)) ⟨zcwB (n := 3) S zw_883 zw_15 zw_880 (by decide +kernel) rfl rfl ⟨Nat.le_of_ble_eq_true rfl, Nat.le_of_ble_eq_true rfl⟩, S.2.2.2.2 _ zw_882, S.2.2.2.2 _ zs_26⟩ (zPreV hE (hP 0 _ rfl) rfl ⟨rfl, hPc, hDc.weaken (fun _ _ _ h => hA0 _ h), trivial⟩) rfl rfl hl.1 rfl (lv_room (Nat.le_of_ble_eq_true rfl)) d_Table_table0_271 ⟨by (try dsimp only); omega, by (try dsimp only); omega⟩) hS (fun q _ h => hFc q h) hFc (fun v H locs hq hz1 hk1 hS => ?_)
  obtain ⟨rfl, hP1, hD1⟩ := hq
  obtain ⟨hP, hD⟩ := va_join (wr := []) (w1 := [(tb, .inr (11, [.ref kq, .int (iI (bN utf)), .int (iI (bN ucp)), .int (iI la), .ref mq, .int (iI mz)])), (kq, .inl (E.2.1 0, 12544, .inl (rf_set f23 (36, 36, 18))))]) hP hD [0, 1] [] rfl rfl (by decide) (by decide) hk1 hFc hP1 hD1
  have hP : va_P E.1 zcl [(tb, .inr (11, [.ref kq, .int (iI (bN utf)), .int (iI (bN ucp)), .int (iI la), .ref mq, .int (iI mz)])), (kq, .inl (E.2.1 0, 12544, .inl (rf_set f23 (36, 36, 18))))] H := hP
  have hD : va_D A [(tb, .inr (11, [.ref kq, .int (iI (bN utf)), .int (iI (bN ucp)), .int (iI la), .ref mq, .int (iI mz)])), (kq, .inl (E.2.1 0, 12544, .inl (rf_set f23 (36, 36, 18))))] := hD
  have hE := hE0.at hS hA0
  obtain ⟨f24, ef24⟩ : ∃ x, x = rf_set f23 (36, 36, 18) := ⟨_, rfl⟩
  rw [← ef24] at hP hD
  refine lv_aload_n hx hb d_Table_table0_274 rfl (lv_at hl 0 rfl) ?_
  refine zi_sipush hx hb d_Table_table0_275 (by decide) ?_
  refine zi_sipush hx hb d_Table_table0_278 (by decide) ?_
  refine zi_bipush hx hb d_Table_table0_281 (by decide) ?_
  have hPc := hP.sub (ws' := [(tb, .inr (11, [.ref kq, .int (iI (bN utf)), .int (iI (bN ucp)), .int (iI la), .ref mq, .int (iI mz)])), (kq, .inl (E.2.1 0, 12544, .inl f24))]) [0, 1] rfl
  have hDc := hD.sub (ws' := [(tb, .inr (11, [.ref kq, .int (iI (bN utf)), .int (iI (bN ucp)), .int (iI la), .ref mq, .int (iI mz)])), (kq, .inl (E.2.1 0, 12544, .inl f24))]) [0, 1] (by decide) rfl
  have hFc := va_free (wc := [(tb, .inr (11, [.ref kq, .int (iI (bN utf)), .int (iI (bN ucp)), .int (iI la), .ref mq, .int (iI mz)])), (kq, .inl (E.2.1 0, 12544, .inl f24))]) hD hS hA [0, 1] rfl
  refine zcW (va_runV (As := [.int (iI 162), .int (iI 165), .int (iI 18)]) (rest := []) S (c_Table_kinds l E _ tb kq mq utf ucp la mz f24 162 165 18 (by decide) (by decide) (by decide)) ⟨zcwB (n := 3) S zw_883 zw_15 zw_880 (by decide +kernel) rfl rfl ⟨Nat.le_of_ble_eq_true rfl, Nat.le_of_ble_eq_true rfl⟩, S.2.2.2.2 _ zw_882, S.2.2.2.2 _ zs_26⟩ (zPreV hE (hP 0 _ rfl) rfl ⟨rfl, hPc, hDc.weaken (fun _ _ _ h => hA0 _ h), trivial⟩) rfl rfl hl.1 rfl (lv_room (Nat.le_of_ble_eq_true rfl)) d_Table_table0_283 ⟨by (try dsimp only); omega, by (try dsimp only); omega⟩) hS (fun q _ h => hFc q h) hFc (fun v H locs hq hz1 hk1 hS => ?_)
  obtain ⟨rfl, hP1, hD1⟩ := hq
  obtain ⟨hP, hD⟩ := va_join (wr := []) (w1 := [(tb, .inr (11, [.ref kq, .int (iI (bN utf)), .int (iI (bN ucp)), .int (iI la), .ref mq, .int (iI mz)])), (kq, .inl (E.2.1 0, 12544, .inl (rf_set f24 (162, 165, 18))))]) hP hD [0, 1] [] rfl rfl (by decide) (by decide) hk1 hFc hP1 hD1
  have hP : va_P E.1 zcl [(tb, .inr (11, [.ref kq, .int (iI (bN utf)), .int (iI (bN ucp)), .int (iI la), .ref mq, .int (iI mz)])), (kq, .inl (E.2.1 0, 12544, .inl (rf_set f24 (162, 165, 18))))] H := hP
  have hD : va_D A [(tb, .inr (11, [.ref kq, .int (iI (bN utf)), .int (iI (bN ucp)), .int (iI la), .ref mq, .int (iI mz)])), (kq, .inl (E.2.1 0, 12544, .inl (rf_set f24 (162, 165, 18))))] := hD
  have hE := hE0.at hS hA0
  obtain ⟨f25, ef25⟩ : ∃ x, x = rf_set f24 (162, 165, 18) := ⟨_, rfl⟩
  rw [← ef25] at hP hD
  refine lv_aload_n hx hb d_Table_table0_286 rfl (lv_at hl 0 rfl) ?_
  refine zi_sipush hx hb d_Table_table0_287 (by decide) ?_
  refine zi_sipush hx hb d_Table_table0_290 (by decide) ?_
  refine zi_bipush hx hb d_Table_table0_293 (by decide) ?_
  have hPc := hP.sub (ws' := [(tb, .inr (11, [.ref kq, .int (iI (bN utf)), .int (iI (bN ucp)), .int (iI la), .ref mq, .int (iI mz)])), (kq, .inl (E.2.1 0, 12544, .inl f25))]) [0, 1] rfl
  have hDc := hD.sub (ws' := [(tb, .inr (11, [.ref kq, .int (iI (bN utf)), .int (iI (bN ucp)), .int (iI la), .ref mq, .int (iI mz)])), (kq, .inl (E.2.1 0, 12544, .inl f25))]) [0, 1] (by decide) rfl
  have hFc := va_free (wc := [(tb, .inr (11, [.ref kq, .int (iI (bN utf)), .int (iI (bN ucp)), .int (iI la), .ref mq, .int (iI mz)])), (kq, .inl (E.2.1 0, 12544, .inl f25))]) hD hS hA [0, 1] rfl
  refine zcW (va_runV (As := [.int (iI 8352), .int (iI 8383), .int (iI 18)]) (rest := []) S (c_Table_kinds l E _ tb kq mq utf ucp la mz f25 8352 8383 18 (by decide) (by decide) (by decide)) ⟨zcwB (n := 3) S zw_883 zw_15 zw_880 (by decide +kernel) rfl rfl ⟨Nat.le_of_ble_eq_true rfl, Nat.le_of_ble_eq_true rfl⟩, S.2.2.2.2 _ zw_882, S.2.2.2.2 _ zs_26⟩ (zPreV hE (hP 0 _ rfl) rfl ⟨rfl, hPc, hDc.weaken (fun _ _ _ h => hA0 _ h), trivial⟩) rfl rfl hl.1 rfl (lv_room (Nat.le_of_ble_eq_true rfl)) d_Table_table0_295 ⟨by (try dsimp only); omega, by (try dsimp only); omega⟩) hS (fun q _ h => hFc q h) hFc (fun v H locs hq hz1 hk1 hS => ?_)
  obtain ⟨rfl, hP1, hD1⟩ := hq
  obtain ⟨hP, hD⟩ := va_join (wr := []) (w1 := [(tb, .inr (11, [.ref kq, .int (iI (bN utf)), .int (iI (bN ucp)), .int (iI la), .ref mq, .int (iI mz)])), (kq, .inl (E.2.1 0, 12544, .inl (rf_set f25 (8352, 8383, 18))))]) hP hD [0, 1] [] rfl rfl (by decide) (by decide) hk1 hFc hP1 hD1
  have hP : va_P E.1 zcl [(tb, .inr (11, [.ref kq, .int (iI (bN utf)), .int (iI (bN ucp)), .int (iI la), .ref mq, .int (iI mz)])), (kq, .inl (E.2.1 0, 12544, .inl (rf_set f25 (8352, 8383, 18))))] H := hP
  have hD : va_D A [(tb, .inr (11, [.ref kq, .int (iI (bN utf)), .int (iI (bN ucp)), .int (iI la), .ref mq, .int (iI mz)])), (kq, .inl (E.2.1 0, 12544, .inl (rf_set f25 (8352, 8383, 18))))] := hD
  have hE := hE0.at hS hA0
  obtain ⟨f26, ef26⟩ : ∃ x, x = rf_set f25 (8352, 8383, 18) := ⟨_, rfl⟩
  rw [← ef26] at hP hD
  refine lv_aload_n hx hb d_Table_table0_298 rfl (lv_at hl 0 rfl) ?_
  refine zi_bipush hx hb d_Table_table0_299 (by decide) ?_
  refine zi_bipush hx hb d_Table_table0_301 (by decide) ?_
  refine zi_bipush hx hb d_Table_table0_303 (by decide) ?_
  have hPc := hP.sub (ws' := [(tb, .inr (11, [.ref kq, .int (iI (bN utf)), .int (iI (bN ucp)), .int (iI la), .ref mq, .int (iI mz)])), (kq, .inl (E.2.1 0, 12544, .inl f26))]) [0, 1] rfl
  have hDc := hD.sub (ws' := [(tb, .inr (11, [.ref kq, .int (iI (bN utf)), .int (iI (bN ucp)), .int (iI la), .ref mq, .int (iI mz)])), (kq, .inl (E.2.1 0, 12544, .inl f26))]) [0, 1] (by decide) rfl
  have hFc := va_free (wc := [(tb, .inr (11, [.ref kq, .int (iI (bN utf)), .int (iI (bN ucp)), .int (iI la), .ref mq, .int (iI mz)])), (kq, .inl (E.2.1 0, 12544, .inl f26))]) hD hS hA [0, 1] rfl
  refine zcW (va_runV (As := [.int (iI 40), .int (iI 40), .int (iI 17)]) (rest := []) S (c_Table_kinds l E _ tb kq mq utf ucp la mz f26 40 40 17 (by decide) (by decide) (by decide)) ⟨zcwB (n := 3) S zw_883 zw_15 zw_880 (by decide +kernel) rfl rfl ⟨Nat.le_of_ble_eq_true rfl, Nat.le_of_ble_eq_true rfl⟩, S.2.2.2.2 _ zw_882, S.2.2.2.2 _ zs_26⟩ (zPreV hE (hP 0 _ rfl) rfl ⟨rfl, hPc, hDc.weaken (fun _ _ _ h => hA0 _ h), trivial⟩) rfl rfl hl.1 rfl (lv_room (Nat.le_of_ble_eq_true rfl)) d_Table_table0_305 ⟨by (try dsimp only); omega, by (try dsimp only); omega⟩) hS (fun q _ h => hFc q h) hFc (fun v H locs hq hz1 hk1 hS => ?_)
  obtain ⟨rfl, hP1, hD1⟩ := hq
  obtain ⟨hP, hD⟩ := va_join (wr := []) (w1 := [(tb, .inr (11, [.ref kq, .int (iI (bN utf)), .int (iI (bN ucp)), .int (iI la), .ref mq, .int (iI mz)])), (kq, .inl (E.2.1 0, 12544, .inl (rf_set f26 (40, 40, 17))))]) hP hD [0, 1] [] rfl rfl (by decide) (by decide) hk1 hFc hP1 hD1
  have hP : va_P E.1 zcl [(tb, .inr (11, [.ref kq, .int (iI (bN utf)), .int (iI (bN ucp)), .int (iI la), .ref mq, .int (iI mz)])), (kq, .inl (E.2.1 0, 12544, .inl (rf_set f26 (40, 40, 17))))] H := hP
  have hD : va_D A [(tb, .inr (11, [.ref kq, .int (iI (bN utf)), .int (iI (bN ucp)), .int (iI la), .ref mq, .int (iI mz)])), (kq, .inl (E.2.1 0, 12544, .inl (rf_set f26 (40, 40, 17))))] := hD
  have hE := hE0.at hS hA0
  obtain ⟨f27, ef27⟩ : ∃ x, x = rf_set f26 (40, 40, 17) := ⟨_, rfl⟩
  rw [← ef27] at hP hD
  refine lv_aload_n hx hb d_Table_table0_308 rfl (lv_at hl 0 rfl) ?_
  refine zi_bipush hx hb d_Table_table0_309 (by decide) ?_
  refine zi_bipush hx hb d_Table_table0_311 (by decide) ?_
  refine zi_bipush hx hb d_Table_table0_313 (by decide) ?_
  have hPc := hP.sub (ws' := [(tb, .inr (11, [.ref kq, .int (iI (bN utf)), .int (iI (bN ucp)), .int (iI la), .ref mq, .int (iI mz)])), (kq, .inl (E.2.1 0, 12544, .inl f27))]) [0, 1] rfl
  have hDc := hD.sub (ws' := [(tb, .inr (11, [.ref kq, .int (iI (bN utf)), .int (iI (bN ucp)), .int (iI la), .ref mq, .int (iI mz)])), (kq, .inl (E.2.1 0, 12544, .inl f27))]) [0, 1] (by decide) rfl
  have hFc := va_free (wc := [(tb, .inr (11, [.ref kq, .int (iI (bN utf)), .int (iI (bN ucp)), .int (iI la), .ref mq, .int (iI mz)])), (kq, .inl (E.2.1 0, 12544, .inl f27))]) hD hS hA [0, 1] rfl
  refine zcW (va_runV (As := [.int (iI 91), .int (iI 91), .int (iI 17)]) (rest := []) S (c_Table_kinds l E _ tb kq mq utf ucp la mz f27 91 91 17 (by decide) (by decide) (by decide)) ⟨zcwB (n := 3) S zw_883 zw_15 zw_880 (by decide +kernel) rfl rfl ⟨Nat.le_of_ble_eq_true rfl, Nat.le_of_ble_eq_true rfl⟩, S.2.2.2.2 _ zw_882, S.2.2.2.2 _ zs_26⟩ (zPreV hE (hP 0 _ rfl) rfl ⟨rfl, hPc, hDc.weaken (fun _ _ _ h => hA0 _ h), trivial⟩) rfl rfl hl.1 rfl (lv_room (Nat.le_of_ble_eq_true rfl)) d_Table_table0_315 ⟨by (try dsimp only); omega, by (try dsimp only); omega⟩) hS (fun q _ h => hFc q h) hFc (fun v H locs hq hz1 hk1 hS => ?_)
  obtain ⟨rfl, hP1, hD1⟩ := hq
  obtain ⟨hP, hD⟩ := va_join (wr := []) (w1 := [(tb, .inr (11, [.ref kq, .int (iI (bN utf)), .int (iI (bN ucp)), .int (iI la), .ref mq, .int (iI mz)])), (kq, .inl (E.2.1 0, 12544, .inl (rf_set f27 (91, 91, 17))))]) hP hD [0, 1] [] rfl rfl (by decide) (by decide) hk1 hFc hP1 hD1
  have hP : va_P E.1 zcl [(tb, .inr (11, [.ref kq, .int (iI (bN utf)), .int (iI (bN ucp)), .int (iI la), .ref mq, .int (iI mz)])), (kq, .inl (E.2.1 0, 12544, .inl (rf_set f27 (91, 91, 17))))] H := hP
  have hD : va_D A [(tb, .inr (11, [.ref kq, .int (iI (bN utf)), .int (iI (bN ucp)), .int (iI la), .ref mq, .int (iI mz)])), (kq, .inl (E.2.1 0, 12544, .inl (rf_set f27 (91, 91, 17))))] := hD
  have hE := hE0.at hS hA0
  obtain ⟨f28, ef28⟩ : ∃ x, x = rf_set f27 (91, 91, 17) := ⟨_, rfl⟩
  rw [← ef28] at hP hD
  refine lv_aload_n hx hb d_Table_table0_318 rfl (lv_at hl 0 rfl) ?_
  refine zi_bipush hx hb d_Table_table0_319 (by decide) ?_
  refine zi_bipush hx hb d_Table_table0_321 (by decide) ?_
  refine zi_bipush hx hb d_Table_table0_323 (by decide) ?_
  have hPc := hP.sub (ws' := [(tb, .inr (11, [.ref kq, .int (iI (bN utf)), .int (iI (bN ucp)), .int (iI la), .ref mq, .int (iI mz)])), (kq, .inl (E.2.1 0, 12544, .inl f28))]) [0, 1] rfl
  have hDc := hD.sub (ws' := [(tb, .inr (11, [.ref kq, .int (iI (bN utf)), .int (iI (bN ucp)), .int (iI la), .ref mq, .int (iI mz)])), (kq, .inl (E.2.1 0, 12544, .inl f28))]) [0, 1] (by decide) rfl
  have hFc := va_free (wc := [(tb, .inr (11, [.ref kq, .int (iI (bN utf)), .int (iI (bN ucp)), .int (iI la), .ref mq, .int (iI mz)])), (kq, .inl (E.2.1 0, 12544, .inl f28))]) hD hS hA [0, 1] rfl
  refine zcW (va_runV (As := [.int (iI 123), .int (iI 123), .int (iI 17)]) (rest := []) S (c_Table_kinds l E _ tb kq mq utf ucp la mz f28 123 123 17 (by decide) (by decide) (by decide)) ⟨zcwB (n := 3) S zw_883 zw_15 zw_880 (by decide +kernel) rfl rfl ⟨Nat.le_of_ble_eq_true rfl, Nat.le_of_ble_eq_true rfl⟩, S.2.2.2.2 _ zw_882, S.2.2.2.2 _ zs_26⟩ (zPreV hE (hP 0 _ rfl) rfl ⟨rfl, hPc, hDc.weaken (fun _ _ _ h => hA0 _ h), trivial⟩) rfl rfl hl.1 rfl (lv_room (Nat.le_of_ble_eq_true rfl)) d_Table_table0_325 ⟨by (try dsimp only); omega, by (try dsimp only); omega⟩) hS (fun q _ h => hFc q h) hFc (fun v H locs hq hz1 hk1 hS => ?_)
  obtain ⟨rfl, hP1, hD1⟩ := hq
  obtain ⟨hP, hD⟩ := va_join (wr := []) (w1 := [(tb, .inr (11, [.ref kq, .int (iI (bN utf)), .int (iI (bN ucp)), .int (iI la), .ref mq, .int (iI mz)])), (kq, .inl (E.2.1 0, 12544, .inl (rf_set f28 (123, 123, 17))))]) hP hD [0, 1] [] rfl rfl (by decide) (by decide) hk1 hFc hP1 hD1
  have hP : va_P E.1 zcl [(tb, .inr (11, [.ref kq, .int (iI (bN utf)), .int (iI (bN ucp)), .int (iI la), .ref mq, .int (iI mz)])), (kq, .inl (E.2.1 0, 12544, .inl (rf_set f28 (123, 123, 17))))] H := hP
  have hD : va_D A [(tb, .inr (11, [.ref kq, .int (iI (bN utf)), .int (iI (bN ucp)), .int (iI la), .ref mq, .int (iI mz)])), (kq, .inl (E.2.1 0, 12544, .inl (rf_set f28 (123, 123, 17))))] := hD
  have hE := hE0.at hS hA0
  obtain ⟨f29, ef29⟩ : ∃ x, x = rf_set f28 (123, 123, 17) := ⟨_, rfl⟩
  rw [← ef29] at hP hD
  have hfin : f29 = rf_l0.foldl rf_set f := by simp only [rf_l0, List.foldl, ef29, ef28, ef27, ef26, ef25, ef24, ef23, ef22, ef21, ef20, ef19, ef18, ef17, ef16, ef15, ef14, ef13, ef12, ef11, ef10, ef9, ef8, ef7, ef6, ef5, ef4, ef3, ef2, ef1, ef0]
  rw [hfin] at hP hD
  exact zwv S hr hlk hS (⟨rfl, hP, hD⟩) (by (try dsimp only); omega) (by (try dsimp only); omega) d_Table_table0_328

def rf_l1 : List (Nat × Nat × Nat) := [(8218, 8218, 17), (8222, 8222, 17), (41, 41, 13), (93, 93, 13), (125, 125, 13), (43, 43, 20), (60, 62, 20), (124, 124, 20), (126, 126, 20), (172, 172, 20), (177, 177, 20), (215, 215, 20), (247, 247, 20), (8592, 8596, 20), (45, 45, 12), (8208, 8213, 12), (48, 57, 8), (1632, 1641, 8), (94, 94, 19), (96, 96, 19), (168, 168, 19), (175, 175, 19), (180, 180, 19), (184, 184, 19), (95, 95, 11), (166, 166, 21), (169, 169, 21), (174, 174, 21), (176, 176, 21), (170, 170, 5)]
set_option maxRecDepth 100000 in
set_option maxHeartbeats 4000000 in
theorem c_Table_table1 (l : Launch) (E : zP) (sz : Nat) (tb kq mq : Nat) (utf ucp : Bool) (la mz : Int) (f : Nat → Int32) : Met l y_Table_table1 (.code y_Table_table1 b_Table_table1 1 ( Option.none : Option FieldType ) :: zw) { frames := 1, cells := (0), slots := (0), locals := 24 } (zPc E [.ref tb] (fun H => H.size = sz ∧ va_P E.1 zcl [(tb, .inr (11, [.ref kq, .int (iI (bN utf)), .int (iI (bN ucp)), .int (iI la), .ref mq, .int (iI mz)])), (kq, .inl (E.2.1 0, 12544, .inl f))] H ∧ va_D (zOld E) [(tb, .inr (11, [.ref kq, .int (iI (bN utf)), .int (iI (bN ucp)), .int (iI la), .ref mq, .int (iI mz)])), (kq, .inl (E.2.1 0, 12544, .inl f))] ∧ (True))) (zW (fun v H => v = none ∧ va_P E.1 zcl [(tb, .inr (11, [.ref kq, .int (iI (bN utf)), .int (iI (bN ucp)), .int (iI la), .ref mq, .int (iI mz)])), (kq, .inl (E.2.1 0, 12544, .inl (rf_l1.foldl rf_set f)))] H ∧ va_D (va_A [(tb, .inr (11, [.ref kq, .int (iI (bN utf)), .int (iI (bN ucp)), .int (iI la), .ref mq, .int (iI mz)])), (kq, .inl (E.2.1 0, 12544, .inl f))] sz) [(tb, .inr (11, [.ref kq, .int (iI (bN utf)), .int (iI (bN ucp)), .int (iI la), .ref mq, .int (iI mz)])), (kq, .inl (E.2.1 0, 12544, .inl (rf_l1.foldl rf_set f)))]) (va_A [(tb, .inr (11, [.ref kq, .int (iI (bN utf)), .int (iI (bN ucp)), .int (iI la), .ref mq, .int (iI mz)])), (kq, .inl (E.2.1 0, 12544, .inl f))] sz)) (0) (0) (va_A [(tb, .inr (11, [.ref kq, .int (iI (bN utf)), .int (iI (bN ucp)), .int (iI la), .ref mq, .int (iI mz)])), (kq, .inl (E.2.1 0, 12544, .inl f))] sz) := by
  refine zMet (by decide) (Nat.le_of_ble_eq_true rfl) ?_
  intro p e s m below meth c ls S hr hlk hnm hE ⟨hsz, hP, hDo, hX⟩ hl
  have hx := S.1
  have hb := S.2.1
  have hE0 := hE
  have hl : lv_has ls 1 [(0, .ref tb)] := hl
  subst hsz
  have hD := hDo.self (sz := s.heap.size)
  generalize hAe : va_A [(tb, .inr (11, [.ref kq, .int (iI (bN utf)), .int (iI (bN ucp)), .int (iI la), .ref mq, .int (iI mz)])), (kq, .inl (E.2.1 0, 12544, .inl f))] s.heap.size = A at hD ⊢
  have hA : ∀ q : Nat, s.heap.size ≤ q → A q := fun q h => by rw [← hAe]; exact Or.inr h
  have hA0 := zA0 hE hDo hAe
  have hS : va_S A s.heap s.heap [] := va_S.rf
  refine lv_aload_n hx hb d_Table_table1_0 rfl (lv_at hl 0 rfl) ?_
  refine zi_sipush hx hb d_Table_table1_1 (by decide) ?_
  refine zi_sipush hx hb d_Table_table1_4 (by decide) ?_
  refine zi_bipush hx hb d_Table_table1_7 (by decide) ?_
  have hPc := hP.sub (ws' := [(tb, .inr (11, [.ref kq, .int (iI (bN utf)), .int (iI (bN ucp)), .int (iI la), .ref mq, .int (iI mz)])), (kq, .inl (E.2.1 0, 12544, .inl f))]) [0, 1] rfl
  have hDc := hD.sub (ws' := [(tb, .inr (11, [.ref kq, .int (iI (bN utf)), .int (iI (bN ucp)), .int (iI la), .ref mq, .int (iI mz)])), (kq, .inl (E.2.1 0, 12544, .inl f))]) [0, 1] (by decide) rfl
  have hFc := va_free (wc := [(tb, .inr (11, [.ref kq, .int (iI (bN utf)), .int (iI (bN ucp)), .int (iI la), .ref mq, .int (iI mz)])), (kq, .inl (E.2.1 0, 12544, .inl f))]) hD hS hA [0, 1] rfl
  refine zcW (va_runV (As := [.int (iI 8218), .int (iI 8218), .int (iI 17)]) (rest := []) S (c_Table_kinds l E _ tb kq mq utf ucp la mz f 8218 8218 17 (by decide) (by decide) (by decide)) ⟨zcwB (n := 3) S zw_883 zw_15 zw_880 (by decide +kernel) rfl rfl ⟨Nat.le_of_ble_eq_true rfl, Nat.le_of_ble_eq_true rfl⟩, S.2.2.2.2 _ zw_882, S.2.2.2.2 _ zs_26⟩ (zPreV hE (hP 0 _ rfl) rfl ⟨rfl, hPc, hDc.weaken (fun _ _ _ h => hA0 _ h), trivial⟩) rfl rfl hl.1 rfl (lv_room (Nat.le_of_ble_eq_true rfl)) d_Table_table1_9 ⟨by (try dsimp only); omega, by (try dsimp only); omega⟩) hS (fun q _ h => hFc q h) hFc (fun v H locs hq hz1 hk1 hS => ?_)
  obtain ⟨rfl, hP1, hD1⟩ := hq
  obtain ⟨hP, hD⟩ := va_join (wr := []) (w1 := [(tb, .inr (11, [.ref kq, .int (iI (bN utf)), .int (iI (bN ucp)), .int (iI la), .ref mq, .int (iI mz)])), (kq, .inl (E.2.1 0, 12544, .inl (rf_set f (8218, 8218, 17))))]) hP hD [0, 1] [] rfl rfl (by decide) (by decide) hk1 hFc hP1 hD1
  have hP : va_P E.1 zcl [(tb, .inr (11, [.ref kq, .int (iI (bN utf)), .int (iI (bN ucp)), .int (iI la), .ref mq, .int (iI mz)])), (kq, .inl (E.2.1 0, 12544, .inl (rf_set f (8218, 8218, 17))))] H := hP
  have hD : va_D A [(tb, .inr (11, [.ref kq, .int (iI (bN utf)), .int (iI (bN ucp)), .int (iI la), .ref mq, .int (iI mz)])), (kq, .inl (E.2.1 0, 12544, .inl (rf_set f (8218, 8218, 17))))] := hD
  have hE := hE0.at hS hA0
  obtain ⟨f0, ef0⟩ : ∃ x, x = rf_set f (8218, 8218, 17) := ⟨_, rfl⟩
  rw [← ef0] at hP hD
  refine lv_aload_n hx hb d_Table_table1_12 rfl (lv_at hl 0 rfl) ?_
  refine zi_sipush hx hb d_Table_table1_13 (by decide) ?_
  refine zi_sipush hx hb d_Table_table1_16 (by decide) ?_
  refine zi_bipush hx hb d_Table_table1_19 (by decide) ?_
  have hPc := hP.sub (ws' := [(tb, .inr (11, [.ref kq, .int (iI (bN utf)), .int (iI (bN ucp)), .int (iI la), .ref mq, .int (iI mz)])), (kq, .inl (E.2.1 0, 12544, .inl f0))]) [0, 1] rfl
  have hDc := hD.sub (ws' := [(tb, .inr (11, [.ref kq, .int (iI (bN utf)), .int (iI (bN ucp)), .int (iI la), .ref mq, .int (iI mz)])), (kq, .inl (E.2.1 0, 12544, .inl f0))]) [0, 1] (by decide) rfl
  have hFc := va_free (wc := [(tb, .inr (11, [.ref kq, .int (iI (bN utf)), .int (iI (bN ucp)), .int (iI la), .ref mq, .int (iI mz)])), (kq, .inl (E.2.1 0, 12544, .inl f0))]) hD hS hA [0, 1] rfl
  refine zcW (va_runV (As := [.int (iI 8222), .int (iI 8222), .int (iI 17)]) (rest := []) S (c_Table_kinds l E _ tb kq mq utf ucp la mz f0 8222 8222 17 (by decide) (by decide) (by decide)) ⟨zcwB (n := 3) S zw_883 zw_15 zw_880 (by decide +kernel) rfl rfl ⟨Nat.le_of_ble_eq_true rfl, Nat.le_of_ble_eq_true rfl⟩, S.2.2.2.2 _ zw_882, S.2.2.2.2 _ zs_26⟩ (zPreV hE (hP 0 _ rfl) rfl ⟨rfl, hPc, hDc.weaken (fun _ _ _ h => hA0 _ h), trivial⟩) rfl rfl hl.1 rfl (lv_room (Nat.le_of_ble_eq_true rfl)) d_Table_table1_21 ⟨by (try dsimp only); omega, by (try dsimp only); omega⟩) hS (fun q _ h => hFc q h) hFc (fun v H locs hq hz1 hk1 hS => ?_)
  obtain ⟨rfl, hP1, hD1⟩ := hq
  obtain ⟨hP, hD⟩ := va_join (wr := []) (w1 := [(tb, .inr (11, [.ref kq, .int (iI (bN utf)), .int (iI (bN ucp)), .int (iI la), .ref mq, .int (iI mz)])), (kq, .inl (E.2.1 0, 12544, .inl (rf_set f0 (8222, 8222, 17))))]) hP hD [0, 1] [] rfl rfl (by decide) (by decide) hk1 hFc hP1 hD1
  have hP : va_P E.1 zcl [(tb, .inr (11, [.ref kq, .int (iI (bN utf)), .int (iI (bN ucp)), .int (iI la), .ref mq, .int (iI mz)])), (kq, .inl (E.2.1 0, 12544, .inl (rf_set f0 (8222, 8222, 17))))] H := hP
  have hD : va_D A [(tb, .inr (11, [.ref kq, .int (iI (bN utf)), .int (iI (bN ucp)), .int (iI la), .ref mq, .int (iI mz)])), (kq, .inl (E.2.1 0, 12544, .inl (rf_set f0 (8222, 8222, 17))))] := hD
  have hE := hE0.at hS hA0
  obtain ⟨f1, ef1⟩ : ∃ x, x = rf_set f0 (8222, 8222, 17) := ⟨_, rfl⟩
  rw [← ef1] at hP hD
  refine lv_aload_n hx hb d_Table_table1_24 rfl (lv_at hl 0 rfl) ?_
  refine zi_bipush hx hb d_Table_table1_25 (by decide) ?_
  refine zi_bipush hx hb d_Table_table1_27 (by decide) ?_
  refine zi_bipush hx hb d_Table_table1_29 (by decide) ?_
  have hPc := hP.sub (ws' := [(tb, .inr (11, [.ref kq, .int (iI (bN utf)), .int (iI (bN ucp)), .int (iI la), .ref mq, .int (iI mz)])), (kq, .inl (E.2.1 0, 12544, .inl f1))]) [0, 1] rfl
  have hDc := hD.sub (ws' := [(tb, .inr (11, [.ref kq, .int (iI (bN utf)), .int (iI (bN ucp)), .int (iI la), .ref mq, .int (iI mz)])), (kq, .inl (E.2.1 0, 12544, .inl f1))]) [0, 1] (by decide) rfl
  have hFc := va_free (wc := [(tb, .inr (11, [.ref kq, .int (iI (bN utf)), .int (iI (bN ucp)), .int (iI la), .ref mq, .int (iI mz)])), (kq, .inl (E.2.1 0, 12544, .inl f1))]) hD hS hA [0, 1] rfl
  refine zcW (va_runV (As := [.int (iI 41), .int (iI 41), .int (iI 13)]) (rest := []) S (c_Table_kinds l E _ tb kq mq utf ucp la mz f1 41 41 13 (by decide) (by decide) (by decide)) ⟨zcwB (n := 3) S zw_883 zw_15 zw_880 (by decide +kernel) rfl rfl ⟨Nat.le_of_ble_eq_true rfl, Nat.le_of_ble_eq_true rfl⟩, S.2.2.2.2 _ zw_882, S.2.2.2.2 _ zs_26⟩ (zPreV hE (hP 0 _ rfl) rfl ⟨rfl, hPc, hDc.weaken (fun _ _ _ h => hA0 _ h), trivial⟩) rfl rfl hl.1 rfl (lv_room (Nat.le_of_ble_eq_true rfl)) d_Table_table1_31 ⟨by (try dsimp only); omega, by (try dsimp only); omega⟩) hS (fun q _ h => hFc q h) hFc (fun v H locs hq hz1 hk1 hS => ?_)
  obtain ⟨rfl, hP1, hD1⟩ := hq
  obtain ⟨hP, hD⟩ := va_join (wr := []) (w1 := [(tb, .inr (11, [.ref kq, .int (iI (bN utf)), .int (iI (bN ucp)), .int (iI la), .ref mq, .int (iI mz)])), (kq, .inl (E.2.1 0, 12544, .inl (rf_set f1 (41, 41, 13))))]) hP hD [0, 1] [] rfl rfl (by decide) (by decide) hk1 hFc hP1 hD1
  have hP : va_P E.1 zcl [(tb, .inr (11, [.ref kq, .int (iI (bN utf)), .int (iI (bN ucp)), .int (iI la), .ref mq, .int (iI mz)])), (kq, .inl (E.2.1 0, 12544, .inl (rf_set f1 (41, 41, 13))))] H := hP
  have hD : va_D A [(tb, .inr (11, [.ref kq, .int (iI (bN utf)), .int (iI (bN ucp)), .int (iI la), .ref mq, .int (iI mz)])), (kq, .inl (E.2.1 0, 12544, .inl (rf_set f1 (41, 41, 13))))] := hD
  have hE := hE0.at hS hA0
  obtain ⟨f2, ef2⟩ : ∃ x, x = rf_set f1 (41, 41, 13) := ⟨_, rfl⟩
  rw [← ef2] at hP hD
  refine lv_aload_n hx hb d_Table_table1_34 rfl (lv_at hl 0 rfl) ?_
  refine zi_bipush hx hb d_Table_table1_35 (by decide) ?_
  refine zi_bipush hx hb d_Table_table1_37 (by decide) ?_
  refine zi_bipush hx hb d_Table_table1_39 (by decide) ?_
  have hPc := hP.sub (ws' := [(tb, .inr (11, [.ref kq, .int (iI (bN utf)), .int (iI (bN ucp)), .int (iI la), .ref mq, .int (iI mz)])), (kq, .inl (E.2.1 0, 12544, .inl f2))]) [0, 1] rfl
  have hDc := hD.sub (ws' := [(tb, .inr (11, [.ref kq, .int (iI (bN utf)), .int (iI (bN ucp)), .int (iI la), .ref mq, .int (iI mz)])), (kq, .inl (E.2.1 0, 12544, .inl f2))]) [0, 1] (by decide) rfl
  have hFc := va_free (wc := [(tb, .inr (11, [.ref kq, .int (iI (bN utf)), .int (iI (bN ucp)), .int (iI la), .ref mq, .int (iI mz)])), (kq, .inl (E.2.1 0, 12544, .inl f2))]) hD hS hA [0, 1] rfl
  refine zcW (va_runV (As := [.int (iI 93), .int (iI 93), .int (iI 13)]) (rest := []) S (c_Table_kinds l E _ tb kq mq utf ucp la mz f2 93 93 13 (by decide) (by decide) (by decide)) ⟨zcwB (n := 3) S zw_883 zw_15 zw_880 (by decide +kernel) rfl rfl ⟨Nat.le_of_ble_eq_true rfl, Nat.le_of_ble_eq_true rfl⟩, S.2.2.2.2 _ zw_882, S.2.2.2.2 _ zs_26⟩ (zPreV hE (hP 0 _ rfl) rfl ⟨rfl, hPc, hDc.weaken (fun _ _ _ h => hA0 _ h), trivial⟩) rfl rfl hl.1 rfl (lv_room (Nat.le_of_ble_eq_true rfl)) d_Table_table1_41 ⟨by (try dsimp only); omega, by (try dsimp only); omega⟩) hS (fun q _ h => hFc q h) hFc (fun v H locs hq hz1 hk1 hS => ?_)
  obtain ⟨rfl, hP1, hD1⟩ := hq
  obtain ⟨hP, hD⟩ := va_join (wr := []) (w1 := [(tb, .inr (11, [.ref kq, .int (iI (bN utf)), .int (iI (bN ucp)), .int (iI la), .ref mq, .int (iI mz)])), (kq, .inl (E.2.1 0, 12544, .inl (rf_set f2 (93, 93, 13))))]) hP hD [0, 1] [] rfl rfl (by decide) (by decide) hk1 hFc hP1 hD1
  have hP : va_P E.1 zcl [(tb, .inr (11, [.ref kq, .int (iI (bN utf)), .int (iI (bN ucp)), .int (iI la), .ref mq, .int (iI mz)])), (kq, .inl (E.2.1 0, 12544, .inl (rf_set f2 (93, 93, 13))))] H := hP
  have hD : va_D A [(tb, .inr (11, [.ref kq, .int (iI (bN utf)), .int (iI (bN ucp)), .int (iI la), .ref mq, .int (iI mz)])), (kq, .inl (E.2.1 0, 12544, .inl (rf_set f2 (93, 93, 13))))] := hD
  have hE := hE0.at hS hA0
  obtain ⟨f3, ef3⟩ : ∃ x, x = rf_set f2 (93, 93, 13) := ⟨_, rfl⟩
  rw [← ef3] at hP hD
  refine lv_aload_n hx hb d_Table_table1_44 rfl (lv_at hl 0 rfl) ?_
  refine zi_bipush hx hb d_Table_table1_45 (by decide) ?_
  refine zi_bipush hx hb d_Table_table1_47 (by decide) ?_
  refine zi_bipush hx hb d_Table_table1_49 (by decide) ?_
  have hPc := hP.sub (ws' := [(tb, .inr (11, [.ref kq, .int (iI (bN utf)), .int (iI (bN ucp)), .int (iI la), .ref mq, .int (iI mz)])), (kq, .inl (E.2.1 0, 12544, .inl f3))]) [0, 1] rfl
  have hDc := hD.sub (ws' := [(tb, .inr (11, [.ref kq, .int (iI (bN utf)), .int (iI (bN ucp)), .int (iI la), .ref mq, .int (iI mz)])), (kq, .inl (E.2.1 0, 12544, .inl f3))]) [0, 1] (by decide) rfl
  have hFc := va_free (wc := [(tb, .inr (11, [.ref kq, .int (iI (bN utf)), .int (iI (bN ucp)), .int (iI la), .ref mq, .int (iI mz)])), (kq, .inl (E.2.1 0, 12544, .inl f3))]) hD hS hA [0, 1] rfl
  refine zcW (va_runV (As := [.int (iI 125), .int (iI 125), .int (iI 13)]) (rest := []) S (c_Table_kinds l E _ tb kq mq utf ucp la mz f3 125 125 13 (by decide) (by decide) (by decide)) ⟨zcwB (n := 3) S zw_883 zw_15 zw_880 (by decide +kernel) rfl rfl ⟨Nat.le_of_ble_eq_true rfl, Nat.le_of_ble_eq_true rfl⟩, S.2.2.2.2 _ zw_882, S.2.2.2.2 _ zs_26⟩ (zPreV hE (hP 0 _ rfl) rfl ⟨rfl, hPc, hDc.weaken (fun _ _ _ h => hA0 _ h), trivial⟩) rfl rfl hl.1 rfl (lv_room (Nat.le_of_ble_eq_true rfl)) d_Table_table1_51 ⟨by (try dsimp only); omega, by (try dsimp only); omega⟩) hS (fun q _ h => hFc q h) hFc (fun v H locs hq hz1 hk1 hS => ?_)
  obtain ⟨rfl, hP1, hD1⟩ := hq
  obtain ⟨hP, hD⟩ := va_join (wr := []) (w1 := [(tb, .inr (11, [.ref kq, .int (iI (bN utf)), .int (iI (bN ucp)), .int (iI la), .ref mq, .int (iI mz)])), (kq, .inl (E.2.1 0, 12544, .inl (rf_set f3 (125, 125, 13))))]) hP hD [0, 1] [] rfl rfl (by decide) (by decide) hk1 hFc hP1 hD1
  have hP : va_P E.1 zcl [(tb, .inr (11, [.ref kq, .int (iI (bN utf)), .int (iI (bN ucp)), .int (iI la), .ref mq, .int (iI mz)])), (kq, .inl (E.2.1 0, 12544, .inl (rf_set f3 (125, 125, 13))))] H := hP
  have hD : va_D A [(tb, .inr (11, [.ref kq, .int (iI (bN utf)), .int (iI (bN ucp)), .int (iI la), .ref mq, .int (iI mz)])), (kq, .inl (E.2.1 0, 12544, .inl (rf_set f3 (125, 125, 13))))] := hD
  have hE := hE0.at hS hA0
  obtain ⟨f4, ef4⟩ : ∃ x, x = rf_set f3 (125, 125, 13) := ⟨_, rfl⟩
  rw [← ef4] at hP hD
  refine lv_aload_n hx hb d_Table_table1_54 rfl (lv_at hl 0 rfl) ?_
  refine zi_bipush hx hb d_Table_table1_55 (by decide) ?_
  refine zi_bipush hx hb d_Table_table1_57 (by decide) ?_
  refine zi_bipush hx hb d_Table_table1_59 (by decide) ?_
  have hPc := hP.sub (ws' := [(tb, .inr (11, [.ref kq, .int (iI (bN utf)), .int (iI (bN ucp)), .int (iI la), .ref mq, .int (iI mz)])), (kq, .inl (E.2.1 0, 12544, .inl f4))]) [0, 1] rfl
  have hDc := hD.sub (ws' := [(tb, .inr (11, [.ref kq, .int (iI (bN utf)), .int (iI (bN ucp)), .int (iI la), .ref mq, .int (iI mz)])), (kq, .inl (E.2.1 0, 12544, .inl f4))]) [0, 1] (by decide) rfl
  have hFc := va_free (wc := [(tb, .inr (11, [.ref kq, .int (iI (bN utf)), .int (iI (bN ucp)), .int (iI la), .ref mq, .int (iI mz)])), (kq, .inl (E.2.1 0, 12544, .inl f4))]) hD hS hA [0, 1] rfl
  refine zcW (va_runV (As := [.int (iI 43), .int (iI 43), .int (iI 20)]) (rest := []) S (c_Table_kinds l E _ tb kq mq utf ucp la mz f4 43 43 20 (by decide) (by decide) (by decide)) ⟨zcwB (n := 3) S zw_883 zw_15 zw_880 (by decide +kernel) rfl rfl ⟨Nat.le_of_ble_eq_true rfl, Nat.le_of_ble_eq_true rfl⟩, S.2.2.2.2 _ zw_882, S.2.2.2.2 _ zs_26⟩ (zPreV hE (hP 0 _ rfl) rfl ⟨rfl, hPc, hDc.weaken (fun _ _ _ h => hA0 _ h), trivial⟩) rfl rfl hl.1 rfl (lv_room (Nat.le_of_ble_eq_true rfl)) d_Table_table1_61 ⟨by (try dsimp only); omega, by (try dsimp only); omega⟩) hS (fun q _ h => hFc q h) hFc (fun v H locs hq hz1 hk1 hS => ?_)
  obtain ⟨rfl, hP1, hD1⟩ := hq
  obtain ⟨hP, hD⟩ := va_join (wr := []) (w1 := [(tb, .inr (11, [.ref kq, .int (iI (bN utf)), .int (iI (bN ucp)), .int (iI la), .ref mq, .int (iI mz)])), (kq, .inl (E.2.1 0, 12544, .inl (rf_set f4 (43, 43, 20))))]) hP hD [0, 1] [] rfl rfl (by decide) (by decide) hk1 hFc hP1 hD1
  have hP : va_P E.1 zcl [(tb, .inr (11, [.ref kq, .int (iI (bN utf)), .int (iI (bN ucp)), .int (iI la), .ref mq, .int (iI mz)])), (kq, .inl (E.2.1 0, 12544, .inl (rf_set f4 (43, 43, 20))))] H := hP
  have hD : va_D A [(tb, .inr (11, [.ref kq, .int (iI (bN utf)), .int (iI (bN ucp)), .int (iI la), .ref mq, .int (iI mz)])), (kq, .inl (E.2.1 0, 12544, .inl (rf_set f4 (43, 43, 20))))] := hD
  have hE := hE0.at hS hA0
  obtain ⟨f5, ef5⟩ : ∃ x, x = rf_set f4 (43, 43, 20) := ⟨_, rfl⟩
  rw [← ef5] at hP hD
  refine lv_aload_n hx hb d_Table_table1_64 rfl (lv_at hl 0 rfl) ?_
  refine zi_bipush hx hb d_Table_table1_65 (by decide) ?_
  refine zi_bipush hx hb d_Table_table1_67 (by decide) ?_
  refine zi_bipush hx hb d_Table_table1_69 (by decide) ?_
  have hPc := hP.sub (ws' := [(tb, .inr (11, [.ref kq, .int (iI (bN utf)), .int (iI (bN ucp)), .int (iI la), .ref mq, .int (iI mz)])), (kq, .inl (E.2.1 0, 12544, .inl f5))]) [0, 1] rfl
  have hDc := hD.sub (ws' := [(tb, .inr (11, [.ref kq, .int (iI (bN utf)), .int (iI (bN ucp)), .int (iI la), .ref mq, .int (iI mz)])), (kq, .inl (E.2.1 0, 12544, .inl f5))]) [0, 1] (by decide) rfl
  have hFc := va_free (wc := [(tb, .inr (11, [.ref kq, .int (iI (bN utf)), .int (iI (bN ucp)), .int (iI la), .ref mq, .int (iI mz)])), (kq, .inl (E.2.1 0, 12544, .inl f5))]) hD hS hA [0, 1] rfl
  refine zcW (va_runV (As := [.int (iI 60), .int (iI 62), .int (iI 20)]) (rest := []) S (c_Table_kinds l E _ tb kq mq utf ucp la mz f5 60 62 20 (by decide) (by decide) (by decide)) ⟨zcwB (n := 3) S zw_883 zw_15 zw_880 (by decide +kernel) rfl rfl ⟨Nat.le_of_ble_eq_true rfl, Nat.le_of_ble_eq_true rfl⟩, S.2.2.2.2 _ zw_882, S.2.2.2.2 _ zs_26⟩ (zPreV hE (hP 0 _ rfl) rfl ⟨rfl, hPc, hDc.weaken (fun _ _ _ h => hA0 _ h), trivial⟩) rfl rfl hl.1 rfl (lv_room (Nat.le_of_ble_eq_true rfl)) d_Table_table1_71 ⟨by (try dsimp only); omega, by (try dsimp only); omega⟩) hS (fun q _ h => hFc q h) hFc (fun v H locs hq hz1 hk1 hS => ?_)
  obtain ⟨rfl, hP1, hD1⟩ := hq
  obtain ⟨hP, hD⟩ := va_join (wr := []) (w1 := [(tb, .inr (11, [.ref kq, .int (iI (bN utf)), .int (iI (bN ucp)), .int (iI la), .ref mq, .int (iI mz)])), (kq, .inl (E.2.1 0, 12544, .inl (rf_set f5 (60, 62, 20))))]) hP hD [0, 1] [] rfl rfl (by decide) (by decide) hk1 hFc hP1 hD1
  have hP : va_P E.1 zcl [(tb, .inr (11, [.ref kq, .int (iI (bN utf)), .int (iI (bN ucp)), .int (iI la), .ref mq, .int (iI mz)])), (kq, .inl (E.2.1 0, 12544, .inl (rf_set f5 (60, 62, 20))))] H := hP
  have hD : va_D A [(tb, .inr (11, [.ref kq, .int (iI (bN utf)), .int (iI (bN ucp)), .int (iI la), .ref mq, .int (iI mz)])), (kq, .inl (E.2.1 0, 12544, .inl (rf_set f5 (60, 62, 20))))] := hD
  have hE := hE0.at hS hA0
  obtain ⟨f6, ef6⟩ : ∃ x, x = rf_set f5 (60, 62, 20) := ⟨_, rfl⟩
  rw [← ef6] at hP hD
  refine lv_aload_n hx hb d_Table_table1_74 rfl (lv_at hl 0 rfl) ?_
  refine zi_bipush hx hb d_Table_table1_75 (by decide) ?_
  refine zi_bipush hx hb d_Table_table1_77 (by decide) ?_
  refine zi_bipush hx hb d_Table_table1_79 (by decide) ?_
  have hPc := hP.sub (ws' := [(tb, .inr (11, [.ref kq, .int (iI (bN utf)), .int (iI (bN ucp)), .int (iI la), .ref mq, .int (iI mz)])), (kq, .inl (E.2.1 0, 12544, .inl f6))]) [0, 1] rfl
  have hDc := hD.sub (ws' := [(tb, .inr (11, [.ref kq, .int (iI (bN utf)), .int (iI (bN ucp)), .int (iI la), .ref mq, .int (iI mz)])), (kq, .inl (E.2.1 0, 12544, .inl f6))]) [0, 1] (by decide) rfl
  have hFc := va_free (wc := [(tb, .inr (11, [.ref kq, .int (iI (bN utf)), .int (iI (bN ucp)), .int (iI la), .ref mq, .int (iI mz)])), (kq, .inl (E.2.1 0, 12544, .inl f6))]) hD hS hA [0, 1] rfl
  refine zcW (va_runV (As := [.int (iI 124), .int (iI 124), .int (iI 20)]) (rest := []) S (c_Table_kinds l E _ tb kq mq utf ucp la mz f6 124 124 20 (by decide) (by decide) (by decide)) ⟨zcwB (n := 3) S zw_883 zw_15 zw_880 (by decide +kernel) rfl rfl ⟨Nat.le_of_ble_eq_true rfl, Nat.le_of_ble_eq_true rfl⟩, S.2.2.2.2 _ zw_882, S.2.2.2.2 _ zs_26⟩ (zPreV hE (hP 0 _ rfl) rfl ⟨rfl, hPc, hDc.weaken (fun _ _ _ h => hA0 _ h), trivial⟩) rfl rfl hl.1 rfl (lv_room (Nat.le_of_ble_eq_true rfl)) d_Table_table1_81 ⟨by (try dsimp only); omega, by (try dsimp only); omega⟩) hS (fun q _ h => hFc q h) hFc (fun v H locs hq hz1 hk1 hS => ?_)
  obtain ⟨rfl, hP1, hD1⟩ := hq
  obtain ⟨hP, hD⟩ := va_join (wr := []) (w1 := [(tb, .inr (11, [.ref kq, .int (iI (bN utf)), .int (iI (bN ucp)), .int (iI la), .ref mq, .int (iI mz)])), (kq, .inl (E.2.1 0, 12544, .inl (rf_set f6 (124, 124, 20))))]) hP hD [0, 1] [] rfl rfl (by decide) (by decide) hk1 hFc hP1 hD1
  have hP : va_P E.1 zcl [(tb, .inr (11, [.ref kq, .int (iI (bN utf)), .int (iI (bN ucp)), .int (iI la), .ref mq, .int (iI mz)])), (kq, .inl (E.2.1 0, 12544, .inl (rf_set f6 (124, 124, 20))))] H := hP
  have hD : va_D A [(tb, .inr (11, [.ref kq, .int (iI (bN utf)), .int (iI (bN ucp)), .int (iI la), .ref mq, .int (iI mz)])), (kq, .inl (E.2.1 0, 12544, .inl (rf_set f6 (124, 124, 20))))] := hD
  have hE := hE0.at hS hA0
  obtain ⟨f7, ef7⟩ : ∃ x, x = rf_set f6 (124, 124, 20) := ⟨_, rfl⟩
  rw [← ef7] at hP hD
  refine lv_aload_n hx hb d_Table_table1_84 rfl (lv_at hl 0 rfl) ?_
  refine zi_bipush hx hb d_Table_table1_85 (by decide) ?_
  refine zi_bipush hx hb d_Table_table1_87 (by decide) ?_
  refine zi_bipush hx hb d_Table_table1_89 (by decide) ?_
  have hPc := hP.sub (ws' := [(tb, .inr (11, [.ref kq, .int (iI (bN utf)), .int (iI (bN ucp)), .int (iI la), .ref mq, .int (iI mz)])), (kq, .inl (E.2.1 0, 12544, .inl f7))]) [0, 1] rfl
  have hDc := hD.sub (ws' := [(tb, .inr (11, [.ref kq, .int (iI (bN utf)), .int (iI (bN ucp)), .int (iI la), .ref mq, .int (iI mz)])), (kq, .inl (E.2.1 0, 12544, .inl f7))]) [0, 1] (by decide) rfl
  have hFc := va_free (wc := [(tb, .inr (11, [.ref kq, .int (iI (bN utf)), .int (iI (bN ucp)), .int (iI la), .ref mq, .int (iI mz)])), (kq, .inl (E.2.1 0, 12544, .inl f7))]) hD hS hA [0, 1] rfl
  refine zcW (va_runV (As := [.int (iI 126), .int (iI 126), .int (iI 20)]) (rest := []) S (c_Table_kinds l E _ tb kq mq utf ucp la mz f7 126 126 20 (by decide) (by decide) (by decide)) ⟨zcwB (n := 3) S zw_883 zw_15 zw_880 (by decide +kernel) rfl rfl ⟨Nat.le_of_ble_eq_true rfl, Nat.le_of_ble_eq_true rfl⟩, S.2.2.2.2 _ zw_882, S.2.2.2.2 _ zs_26⟩ (zPreV hE (hP 0 _ rfl) rfl ⟨rfl, hPc, hDc.weaken (fun _ _ _ h => hA0 _ h), trivial⟩) rfl rfl hl.1 rfl (lv_room (Nat.le_of_ble_eq_true rfl)) d_Table_table1_91 ⟨by (try dsimp only); omega, by (try dsimp only); omega⟩) hS (fun q _ h => hFc q h) hFc (fun v H locs hq hz1 hk1 hS => ?_)
  obtain ⟨rfl, hP1, hD1⟩ := hq
  obtain ⟨hP, hD⟩ := va_join (wr := []) (w1 := [(tb, .inr (11, [.ref kq, .int (iI (bN utf)), .int (iI (bN ucp)), .int (iI la), .ref mq, .int (iI mz)])), (kq, .inl (E.2.1 0, 12544, .inl (rf_set f7 (126, 126, 20))))]) hP hD [0, 1] [] rfl rfl (by decide) (by decide) hk1 hFc hP1 hD1
  have hP : va_P E.1 zcl [(tb, .inr (11, [.ref kq, .int (iI (bN utf)), .int (iI (bN ucp)), .int (iI la), .ref mq, .int (iI mz)])), (kq, .inl (E.2.1 0, 12544, .inl (rf_set f7 (126, 126, 20))))] H := hP
  have hD : va_D A [(tb, .inr (11, [.ref kq, .int (iI (bN utf)), .int (iI (bN ucp)), .int (iI la), .ref mq, .int (iI mz)])), (kq, .inl (E.2.1 0, 12544, .inl (rf_set f7 (126, 126, 20))))] := hD
  have hE := hE0.at hS hA0
  obtain ⟨f8, ef8⟩ : ∃ x, x = rf_set f7 (126, 126, 20) := ⟨_, rfl⟩
  rw [← ef8] at hP hD
  refine lv_aload_n hx hb d_Table_table1_94 rfl (lv_at hl 0 rfl) ?_
  refine zi_sipush hx hb d_Table_table1_95 (by decide) ?_
  refine zi_sipush hx hb d_Table_table1_98 (by decide) ?_
  refine zi_bipush hx hb d_Table_table1_101 (by decide) ?_
  have hPc := hP.sub (ws' := [(tb, .inr (11, [.ref kq, .int (iI (bN utf)), .int (iI (bN ucp)), .int (iI la), .ref mq, .int (iI mz)])), (kq, .inl (E.2.1 0, 12544, .inl f8))]) [0, 1] rfl
  have hDc := hD.sub (ws' := [(tb, .inr (11, [.ref kq, .int (iI (bN utf)), .int (iI (bN ucp)), .int (iI la), .ref mq, .int (iI mz)])), (kq, .inl (E.2.1 0, 12544, .inl f8))]) [0, 1] (by decide) rfl
  have hFc := va_free (wc := [(tb, .inr (11, [.ref kq, .int (iI (bN utf)), .int (iI (bN ucp)), .int (iI la), .ref mq, .int (iI mz)])), (kq, .inl (E.2.1 0, 12544, .inl f8))]) hD hS hA [0, 1] rfl
  refine zcW (va_runV (As := [.int (iI 172), .int (iI 172), .int (iI 20)]) (rest := []) S (c_Table_kinds l E _ tb kq mq utf ucp la mz f8 172 172 20 (by decide) (by decide) (by decide)) ⟨zcwB (n := 3) S zw_883 zw_15 zw_880 (by decide +kernel) rfl rfl ⟨Nat.le_of_ble_eq_true rfl, Nat.le_of_ble_eq_true rfl⟩, S.2.2.2.2 _ zw_882, S.2.2.2.2 _ zs_26⟩ (zPreV hE (hP 0 _ rfl) rfl ⟨rfl, hPc, hDc.weaken (fun _ _ _ h => hA0 _ h), trivial⟩) rfl rfl hl.1 rfl (lv_room (Nat.le_of_ble_eq_true rfl)) d_Table_table1_103 ⟨by (try dsimp only); omega, by (try dsimp only); omega⟩) hS (fun q _ h => hFc q h) hFc (fun v H locs hq hz1 hk1 hS => ?_)
  obtain ⟨rfl, hP1, hD1⟩ := hq
  obtain ⟨hP, hD⟩ := va_join (wr := []) (w1 := [(tb, .inr (11, [.ref kq, .int (iI (bN utf)), .int (iI (bN ucp)), .int (iI la), .ref mq, .int (iI mz)])), (kq, .inl (E.2.1 0, 12544, .inl (rf_set f8 (172, 172, 20))))]) hP hD [0, 1] [] rfl rfl (by decide) (by decide) hk1 hFc hP1 hD1
  have hP : va_P E.1 zcl [(tb, .inr (11, [.ref kq, .int (iI (bN utf)), .int (iI (bN ucp)), .int (iI la), .ref mq, .int (iI mz)])), (kq, .inl (E.2.1 0, 12544, .inl (rf_set f8 (172, 172, 20))))] H := hP
  have hD : va_D A [(tb, .inr (11, [.ref kq, .int (iI (bN utf)), .int (iI (bN ucp)), .int (iI la), .ref mq, .int (iI mz)])), (kq, .inl (E.2.1 0, 12544, .inl (rf_set f8 (172, 172, 20))))] := hD
  have hE := hE0.at hS hA0
  obtain ⟨f9, ef9⟩ : ∃ x, x = rf_set f8 (172, 172, 20) := ⟨_, rfl⟩
  rw [← ef9] at hP hD
  refine lv_aload_n hx hb d_Table_table1_106 rfl (lv_at hl 0 rfl) ?_
  refine zi_sipush hx hb d_Table_table1_107 (by decide) ?_
  refine zi_sipush hx hb d_Table_table1_110 (by decide) ?_
  refine zi_bipush hx hb d_Table_table1_113 (by decide) ?_
  have hPc := hP.sub (ws' := [(tb, .inr (11, [.ref kq, .int (iI (bN utf)), .int (iI (bN ucp)), .int (iI la), .ref mq, .int (iI mz)])), (kq, .inl (E.2.1 0, 12544, .inl f9))]) [0, 1] rfl
  have hDc := hD.sub (ws' := [(tb, .inr (11, [.ref kq, .int (iI (bN utf)), .int (iI (bN ucp)), .int (iI la), .ref mq, .int (iI mz)])), (kq, .inl (E.2.1 0, 12544, .inl f9))]) [0, 1] (by decide) rfl
  have hFc := va_free (wc := [(tb, .inr (11, [.ref kq, .int (iI (bN utf)), .int (iI (bN ucp)), .int (iI la), .ref mq, .int (iI mz)])), (kq, .inl (E.2.1 0, 12544, .inl f9))]) hD hS hA [0, 1] rfl
  refine zcW (va_runV (As := [.int (iI 177), .int (iI 177), .int (iI 20)]) (rest := []) S (c_Table_kinds l E _ tb kq mq utf ucp la mz f9 177 177 20 (by decide) (by decide) (by decide)) ⟨zcwB (n := 3) S zw_883 zw_15 zw_880 (by decide +kernel) rfl rfl ⟨Nat.le_of_ble_eq_true rfl, Nat.le_of_ble_eq_true rfl⟩, S.2.2.2.2 _ zw_882, S.2.2.2.2 _ zs_26⟩ (zPreV hE (hP 0 _ rfl) rfl ⟨rfl, hPc, hDc.weaken (fun _ _ _ h => hA0 _ h), trivial⟩) rfl rfl hl.1 rfl (lv_room (Nat.le_of_ble_eq_true rfl)) d_Table_table1_115 ⟨by (try dsimp only); omega, by (try dsimp only); omega⟩) hS (fun q _ h => hFc q h) hFc (fun v H locs hq hz1 hk1 hS => ?_)
  obtain ⟨rfl, hP1, hD1⟩ := hq
  obtain ⟨hP, hD⟩ := va_join (wr := []) (w1 := [(tb, .inr (11, [.ref kq, .int (iI (bN utf)), .int (iI (bN ucp)), .int (iI la), .ref mq, .int (iI mz)])), (kq, .inl (E.2.1 0, 12544, .inl (rf_set f9 (177, 177, 20))))]) hP hD [0, 1] [] rfl rfl (by decide) (by decide) hk1 hFc hP1 hD1
  have hP : va_P E.1 zcl [(tb, .inr (11, [.ref kq, .int (iI (bN utf)), .int (iI (bN ucp)), .int (iI la), .ref mq, .int (iI mz)])), (kq, .inl (E.2.1 0, 12544, .inl (rf_set f9 (177, 177, 20))))] H := hP
  have hD : va_D A [(tb, .inr (11, [.ref kq, .int (iI (bN utf)), .int (iI (bN ucp)), .int (iI la), .ref mq, .int (iI mz)])), (kq, .inl (E.2.1 0, 12544, .inl (rf_set f9 (177, 177, 20))))] := hD
  have hE := hE0.at hS hA0
  obtain ⟨f10, ef10⟩ : ∃ x, x = rf_set f9 (177, 177, 20) := ⟨_, rfl⟩
  rw [← ef10] at hP hD
  refine lv_aload_n hx hb d_Table_table1_118 rfl (lv_at hl 0 rfl) ?_
  refine zi_sipush hx hb d_Table_table1_119 (by decide) ?_
  refine zi_sipush hx hb d_Table_table1_122 (by decide) ?_
  refine zi_bipush hx hb d_Table_table1_125 (by decide) ?_
  have hPc := hP.sub (ws' := [(tb, .inr (11, [.ref kq, .int (iI (bN utf)), .int (iI (bN ucp)), .int (iI la), .ref mq, .int (iI mz)])), (kq, .inl (E.2.1 0, 12544, .inl f10))]) [0, 1] rfl
  have hDc := hD.sub (ws' := [(tb, .inr (11, [.ref kq, .int (iI (bN utf)), .int (iI (bN ucp)), .int (iI la), .ref mq, .int (iI mz)])), (kq, .inl (E.2.1 0, 12544, .inl f10))]) [0, 1] (by decide) rfl
  have hFc := va_free (wc := [(tb, .inr (11, [.ref kq, .int (iI (bN utf)), .int (iI (bN ucp)), .int (iI la), .ref mq, .int (iI mz)])), (kq, .inl (E.2.1 0, 12544, .inl f10))]) hD hS hA [0, 1] rfl
  refine zcW (va_runV (As := [.int (iI 215), .int (iI 215), .int (iI 20)]) (rest := []) S (c_Table_kinds l E _ tb kq mq utf ucp la mz f10 215 215 20 (by decide) (by decide) (by decide)) ⟨zcwB (n := 3) S zw_883 zw_15 zw_880 (by decide +kernel) rfl rfl ⟨Nat.le_of_ble_eq_true rfl, Nat.le_of_ble_eq_true rfl⟩, S.2.2.2.2 _ zw_882, S.2.2.2.2 _ zs_26⟩ (zPreV hE (hP 0 _ rfl) rfl ⟨rfl, hPc, hDc.weaken (fun _ _ _ h => hA0 _ h), trivial⟩) rfl rfl hl.1 rfl (lv_room (Nat.le_of_ble_eq_true rfl)) d_Table_table1_127 ⟨by (try dsimp only); omega, by (try dsimp only); omega⟩) hS (fun q _ h => hFc q h) hFc (fun v H locs hq hz1 hk1 hS => ?_)
  obtain ⟨rfl, hP1, hD1⟩ := hq
  obtain ⟨hP, hD⟩ := va_join (wr := []) (w1 := [(tb, .inr (11, [.ref kq, .int (iI (bN utf)), .int (iI (bN ucp)), .int (iI la), .ref mq, .int (iI mz)])), (kq, .inl (E.2.1 0, 12544, .inl (rf_set f10 (215, 215, 20))))]) hP hD [0, 1] [] rfl rfl (by decide) (by decide) hk1 hFc hP1 hD1
  have hP : va_P E.1 zcl [(tb, .inr (11, [.ref kq, .int (iI (bN utf)), .int (iI (bN ucp)), .int (iI la), .ref mq, .int (iI mz)])), (kq, .inl (E.2.1 0, 12544, .inl (rf_set f10 (215, 215, 20))))] H := hP
  have hD : va_D A [(tb, .inr (11, [.ref kq, .int (iI (bN utf)), .int (iI (bN ucp)), .int (iI la), .ref mq, .int (iI mz)])), (kq, .inl (E.2.1 0, 12544, .inl (rf_set f10 (215, 215, 20))))] := hD
  have hE := hE0.at hS hA0
  obtain ⟨f11, ef11⟩ : ∃ x, x = rf_set f10 (215, 215, 20) := ⟨_, rfl⟩
  rw [← ef11] at hP hD
  refine lv_aload_n hx hb d_Table_table1_130 rfl (lv_at hl 0 rfl) ?_
  refine zi_sipush hx hb d_Table_table1_131 (by decide) ?_
  refine zi_sipush hx hb d_Table_table1_134 (by decide) ?_
  refine zi_bipush hx hb d_Table_table1_137 (by decide) ?_
  have hPc := hP.sub (ws' := [(tb, .inr (11, [.ref kq, .int (iI (bN utf)), .int (iI (bN ucp)), .int (iI la), .ref mq, .int (iI mz)])), (kq, .inl (E.2.1 0, 12544, .inl f11))]) [0, 1] rfl
  have hDc := hD.sub (ws' := [(tb, .inr (11, [.ref kq, .int (iI (bN utf)), .int (iI (bN ucp)), .int (iI la), .ref mq, .int (iI mz)])), (kq, .inl (E.2.1 0, 12544, .inl f11))]) [0, 1] (by decide) rfl
  have hFc := va_free (wc := [(tb, .inr (11, [.ref kq, .int (iI (bN utf)), .int (iI (bN ucp)), .int (iI la), .ref mq, .int (iI mz)])), (kq, .inl (E.2.1 0, 12544, .inl f11))]) hD hS hA [0, 1] rfl
  refine zcW (va_runV (As := [.int (iI 247), .int (iI 247), .int (iI 20)]) (rest := []) S (c_Table_kinds l E _ tb kq mq utf ucp la mz f11 247 247 20 (by decide) (by decide) (by decide)) ⟨zcwB (n := 3) S zw_883 zw_15 zw_880 (by decide +kernel) rfl rfl ⟨Nat.le_of_ble_eq_true rfl, Nat.le_of_ble_eq_true rfl⟩, S.2.2.2.2 _ zw_882, S.2.2.2.2 _ zs_26⟩ (zPreV hE (hP 0 _ rfl) rfl ⟨rfl, hPc, hDc.weaken (fun _ _ _ h => hA0 _ h), trivial⟩) rfl rfl hl.1 rfl (lv_room (Nat.le_of_ble_eq_true rfl)) d_Table_table1_139 ⟨by (try dsimp only); omega, by (try dsimp only); omega⟩) hS (fun q _ h => hFc q h) hFc (fun v H locs hq hz1 hk1 hS => ?_)
  obtain ⟨rfl, hP1, hD1⟩ := hq
  obtain ⟨hP, hD⟩ := va_join (wr := []) (w1 := [(tb, .inr (11, [.ref kq, .int (iI (bN utf)), .int (iI (bN ucp)), .int (iI la), .ref mq, .int (iI mz)])), (kq, .inl (E.2.1 0, 12544, .inl (rf_set f11 (247, 247, 20))))]) hP hD [0, 1] [] rfl rfl (by decide) (by decide) hk1 hFc hP1 hD1
  have hP : va_P E.1 zcl [(tb, .inr (11, [.ref kq, .int (iI (bN utf)), .int (iI (bN ucp)), .int (iI la), .ref mq, .int (iI mz)])), (kq, .inl (E.2.1 0, 12544, .inl (rf_set f11 (247, 247, 20))))] H := hP
  have hD : va_D A [(tb, .inr (11, [.ref kq, .int (iI (bN utf)), .int (iI (bN ucp)), .int (iI la), .ref mq, .int (iI mz)])), (kq, .inl (E.2.1 0, 12544, .inl (rf_set f11 (247, 247, 20))))] := hD
  have hE := hE0.at hS hA0
  obtain ⟨f12, ef12⟩ : ∃ x, x = rf_set f11 (247, 247, 20) := ⟨_, rfl⟩
  rw [← ef12] at hP hD
  refine lv_aload_n hx hb d_Table_table1_142 rfl (lv_at hl 0 rfl) ?_
  refine zi_sipush hx hb d_Table_table1_143 (by decide) ?_
  refine zi_sipush hx hb d_Table_table1_146 (by decide) ?_
  refine zi_bipush hx hb d_Table_table1_149 (by decide) ?_
  have hPc := hP.sub (ws' := [(tb, .inr (11, [.ref kq, .int (iI (bN utf)), .int (iI (bN ucp)), .int (iI la), .ref mq, .int (iI mz)])), (kq, .inl (E.2.1 0, 12544, .inl f12))]) [0, 1] rfl
  have hDc := hD.sub (ws' := [(tb, .inr (11, [.ref kq, .int (iI (bN utf)), .int (iI (bN ucp)), .int (iI la), .ref mq, .int (iI mz)])), (kq, .inl (E.2.1 0, 12544, .inl f12))]) [0, 1] (by decide) rfl
  have hFc := va_free (wc := [(tb, .inr (11, [.ref kq, .int (iI (bN utf)), .int (iI (bN ucp)), .int (iI la), .ref mq, .int (iI mz)])), (kq, .inl (E.2.1 0, 12544, .inl f12))]) hD hS hA [0, 1] rfl
  refine zcW (va_runV (As := [.int (iI 8592), .int (iI 8596), .int (iI 20)]) (rest := []) S (c_Table_kinds l E _ tb kq mq utf ucp la mz f12 8592 8596 20 (by decide) (by decide) (by decide)) ⟨zcwB (n := 3) S zw_883 zw_15 zw_880 (by decide +kernel) rfl rfl ⟨Nat.le_of_ble_eq_true rfl, Nat.le_of_ble_eq_true rfl⟩, S.2.2.2.2 _ zw_882, S.2.2.2.2 _ zs_26⟩ (zPreV hE (hP 0 _ rfl) rfl ⟨rfl, hPc, hDc.weaken (fun _ _ _ h => hA0 _ h), trivial⟩) rfl rfl hl.1 rfl (lv_room (Nat.le_of_ble_eq_true rfl)) d_Table_table1_151 ⟨by (try dsimp only); omega, by (try dsimp only); omega⟩) hS (fun q _ h => hFc q h) hFc (fun v H locs hq hz1 hk1 hS => ?_)
  obtain ⟨rfl, hP1, hD1⟩ := hq
  obtain ⟨hP, hD⟩ := va_join (wr := []) (w1 := [(tb, .inr (11, [.ref kq, .int (iI (bN utf)), .int (iI (bN ucp)), .int (iI la), .ref mq, .int (iI mz)])), (kq, .inl (E.2.1 0, 12544, .inl (rf_set f12 (8592, 8596, 20))))]) hP hD [0, 1] [] rfl rfl (by decide) (by decide) hk1 hFc hP1 hD1
  have hP : va_P E.1 zcl [(tb, .inr (11, [.ref kq, .int (iI (bN utf)), .int (iI (bN ucp)), .int (iI la), .ref mq, .int (iI mz)])), (kq, .inl (E.2.1 0, 12544, .inl (rf_set f12 (8592, 8596, 20))))] H := hP
  have hD : va_D A [(tb, .inr (11, [.ref kq, .int (iI (bN utf)), .int (iI (bN ucp)), .int (iI la), .ref mq, .int (iI mz)])), (kq, .inl (E.2.1 0, 12544, .inl (rf_set f12 (8592, 8596, 20))))] := hD
  have hE := hE0.at hS hA0
  obtain ⟨f13, ef13⟩ : ∃ x, x = rf_set f12 (8592, 8596, 20) := ⟨_, rfl⟩
  rw [← ef13] at hP hD
  refine lv_aload_n hx hb d_Table_table1_154 rfl (lv_at hl 0 rfl) ?_
  refine zi_bipush hx hb d_Table_table1_155 (by decide) ?_
  refine zi_bipush hx hb d_Table_table1_157 (by decide) ?_
  refine zi_bipush hx hb d_Table_table1_159 (by decide) ?_
  have hPc := hP.sub (ws' := [(tb, .inr (11, [.ref kq, .int (iI (bN utf)), .int (iI (bN ucp)), .int (iI la), .ref mq, .int (iI mz)])), (kq, .inl (E.2.1 0, 12544, .inl f13))]) [0, 1] rfl
  have hDc := hD.sub (ws' := [(tb, .inr (11, [.ref kq, .int (iI (bN utf)), .int (iI (bN ucp)), .int (iI la), .ref mq, .int (iI mz)])), (kq, .inl (E.2.1 0, 12544, .inl f13))]) [0, 1] (by decide) rfl
  have hFc := va_free (wc := [(tb, .inr (11, [.ref kq, .int (iI (bN utf)), .int (iI (bN ucp)), .int (iI la), .ref mq, .int (iI mz)])), (kq, .inl (E.2.1 0, 12544, .inl f13))]) hD hS hA [0, 1] rfl
  refine zcW (va_runV (As := [.int (iI 45), .int (iI 45), .int (iI 12)]) (rest := []) S (c_Table_kinds l E _ tb kq mq utf ucp la mz f13 45 45 12 (by decide) (by decide) (by decide)) ⟨zcwB (n := 3) S zw_883 zw_15 zw_880 (by decide +kernel) rfl rfl ⟨Nat.le_of_ble_eq_true rfl, Nat.le_of_ble_eq_true rfl⟩, S.2.2.2.2 _ zw_882, S.2.2.2.2 _ zs_26⟩ (zPreV hE (hP 0 _ rfl) rfl ⟨rfl, hPc, hDc.weaken (fun _ _ _ h => hA0 _ h), trivial⟩) rfl rfl hl.1 rfl (lv_room (Nat.le_of_ble_eq_true rfl)) d_Table_table1_161 ⟨by (try dsimp only); omega, by (try dsimp only); omega⟩) hS (fun q _ h => hFc q h) hFc (fun v H locs hq hz1 hk1 hS => ?_)
  obtain ⟨rfl, hP1, hD1⟩ := hq
  obtain ⟨hP, hD⟩ := va_join (wr := []) (w1 := [(tb, .inr (11, [.ref kq, .int (iI (bN utf)), .int (iI (bN ucp)), .int (iI la), .ref mq, .int (iI mz)])), (kq, .inl (E.2.1 0, 12544, .inl (rf_set f13 (45, 45, 12))))]) hP hD [0, 1] [] rfl rfl (by decide) (by decide) hk1 hFc hP1 hD1
  have hP : va_P E.1 zcl [(tb, .inr (11, [.ref kq, .int (iI (bN utf)), .int (iI (bN ucp)), .int (iI la), .ref mq, .int (iI mz)])), (kq, .inl (E.2.1 0, 12544, .inl (rf_set f13 (45, 45, 12))))] H := hP
  have hD : va_D A [(tb, .inr (11, [.ref kq, .int (iI (bN utf)), .int (iI (bN ucp)), .int (iI la), .ref mq, .int (iI mz)])), (kq, .inl (E.2.1 0, 12544, .inl (rf_set f13 (45, 45, 12))))] := hD
  have hE := hE0.at hS hA0
  obtain ⟨f14, ef14⟩ : ∃ x, x = rf_set f13 (45, 45, 12) := ⟨_, rfl⟩
  rw [← ef14] at hP hD
  refine lv_aload_n hx hb d_Table_table1_164 rfl (lv_at hl 0 rfl) ?_
  refine zi_sipush hx hb d_Table_table1_165 (by decide) ?_
  refine zi_sipush hx hb d_Table_table1_168 (by decide) ?_
  refine zi_bipush hx hb d_Table_table1_171 (by decide) ?_
  have hPc := hP.sub (ws' := [(tb, .inr (11, [.ref kq, .int (iI (bN utf)), .int (iI (bN ucp)), .int (iI la), .ref mq, .int (iI mz)])), (kq, .inl (E.2.1 0, 12544, .inl f14))]) [0, 1] rfl
  have hDc := hD.sub (ws' := [(tb, .inr (11, [.ref kq, .int (iI (bN utf)), .int (iI (bN ucp)), .int (iI la), .ref mq, .int (iI mz)])), (kq, .inl (E.2.1 0, 12544, .inl f14))]) [0, 1] (by decide) rfl
  have hFc := va_free (wc := [(tb, .inr (11, [.ref kq, .int (iI (bN utf)), .int (iI (bN ucp)), .int (iI la), .ref mq, .int (iI mz)])), (kq, .inl (E.2.1 0, 12544, .inl f14))]) hD hS hA [0, 1] rfl
  refine zcW (va_runV (As := [.int (iI 8208), .int (iI 8213), .int (iI 12)]) (rest := []) S (c_Table_kinds l E _ tb kq mq utf ucp la mz f14 8208 8213 12 (by decide) (by decide) (by decide)) ⟨zcwB (n := 3) S zw_883 zw_15 zw_880 (by decide +kernel) rfl rfl ⟨Nat.le_of_ble_eq_true rfl, Nat.le_of_ble_eq_true rfl⟩, S.2.2.2.2 _ zw_882, S.2.2.2.2 _ zs_26⟩ (zPreV hE (hP 0 _ rfl) rfl ⟨rfl, hPc, hDc.weaken (fun _ _ _ h => hA0 _ h), trivial⟩) rfl rfl hl.1 rfl (lv_room (Nat.le_of_ble_eq_true rfl)) d_Table_table1_173 ⟨by (try dsimp only); omega, by (try dsimp only); omega⟩) hS (fun q _ h => hFc q h) hFc (fun v H locs hq hz1 hk1 hS => ?_)
  obtain ⟨rfl, hP1, hD1⟩ := hq
  obtain ⟨hP, hD⟩ := va_join (wr := []) (w1 := [(tb, .inr (11, [.ref kq, .int (iI (bN utf)), .int (iI (bN ucp)), .int (iI la), .ref mq, .int (iI mz)])), (kq, .inl (E.2.1 0, 12544, .inl (rf_set f14 (8208, 8213, 12))))]) hP hD [0, 1] [] rfl rfl (by decide) (by decide) hk1 hFc hP1 hD1
  have hP : va_P E.1 zcl [(tb, .inr (11, [.ref kq, .int (iI (bN utf)), .int (iI (bN ucp)), .int (iI la), .ref mq, .int (iI mz)])), (kq, .inl (E.2.1 0, 12544, .inl (rf_set f14 (8208, 8213, 12))))] H := hP
  have hD : va_D A [(tb, .inr (11, [.ref kq, .int (iI (bN utf)), .int (iI (bN ucp)), .int (iI la), .ref mq, .int (iI mz)])), (kq, .inl (E.2.1 0, 12544, .inl (rf_set f14 (8208, 8213, 12))))] := hD
  have hE := hE0.at hS hA0
  obtain ⟨f15, ef15⟩ : ∃ x, x = rf_set f14 (8208, 8213, 12) := ⟨_, rfl⟩
  rw [← ef15] at hP hD
  refine lv_aload_n hx hb d_Table_table1_176 rfl (lv_at hl 0 rfl) ?_
  refine zi_bipush hx hb d_Table_table1_177 (by decide) ?_
  refine zi_bipush hx hb d_Table_table1_179 (by decide) ?_
  refine zi_bipush hx hb d_Table_table1_181 (by decide) ?_
  have hPc := hP.sub (ws' := [(tb, .inr (11, [.ref kq, .int (iI (bN utf)), .int (iI (bN ucp)), .int (iI la), .ref mq, .int (iI mz)])), (kq, .inl (E.2.1 0, 12544, .inl f15))]) [0, 1] rfl
  have hDc := hD.sub (ws' := [(tb, .inr (11, [.ref kq, .int (iI (bN utf)), .int (iI (bN ucp)), .int (iI la), .ref mq, .int (iI mz)])), (kq, .inl (E.2.1 0, 12544, .inl f15))]) [0, 1] (by decide) rfl
  have hFc := va_free (wc := [(tb, .inr (11, [.ref kq, .int (iI (bN utf)), .int (iI (bN ucp)), .int (iI la), .ref mq, .int (iI mz)])), (kq, .inl (E.2.1 0, 12544, .inl f15))]) hD hS hA [0, 1] rfl
  refine zcW (va_runV (As := [.int (iI 48), .int (iI 57), .int (iI 8)]) (rest := []) S (c_Table_kinds l E _ tb kq mq utf ucp la mz f15 48 57 8 (by decide) (by decide) (by decide)) ⟨zcwB (n := 3) S zw_883 zw_15 zw_880 (by decide +kernel) rfl rfl ⟨Nat.le_of_ble_eq_true rfl, Nat.le_of_ble_eq_true rfl⟩, S.2.2.2.2 _ zw_882, S.2.2.2.2 _ zs_26⟩ (zPreV hE (hP 0 _ rfl) rfl ⟨rfl, hPc, hDc.weaken (fun _ _ _ h => hA0 _ h), trivial⟩) rfl rfl hl.1 rfl (lv_room (Nat.le_of_ble_eq_true rfl)) d_Table_table1_183 ⟨by (try dsimp only); omega, by (try dsimp only); omega⟩) hS (fun q _ h => hFc q h) hFc (fun v H locs hq hz1 hk1 hS => ?_)
  obtain ⟨rfl, hP1, hD1⟩ := hq
  obtain ⟨hP, hD⟩ := va_join (wr := []) (w1 := [(tb, .inr (11, [.ref kq, .int (iI (bN utf)), .int (iI (bN ucp)), .int (iI la), .ref mq, .int (iI mz)])), (kq, .inl (E.2.1 0, 12544, .inl (rf_set f15 (48, 57, 8))))]) hP hD [0, 1] [] rfl rfl (by decide) (by decide) hk1 hFc hP1 hD1
  have hP : va_P E.1 zcl [(tb, .inr (11, [.ref kq, .int (iI (bN utf)), .int (iI (bN ucp)), .int (iI la), .ref mq, .int (iI mz)])), (kq, .inl (E.2.1 0, 12544, .inl (rf_set f15 (48, 57, 8))))] H := hP
  have hD : va_D A [(tb, .inr (11, [.ref kq, .int (iI (bN utf)), .int (iI (bN ucp)), .int (iI la), .ref mq, .int (iI mz)])), (kq, .inl (E.2.1 0, 12544, .inl (rf_set f15 (48, 57, 8))))] := hD
  have hE := hE0.at hS hA0
  obtain ⟨f16, ef16⟩ : ∃ x, x = rf_set f15 (48, 57, 8) := ⟨_, rfl⟩
  rw [← ef16] at hP hD
  refine lv_aload_n hx hb d_Table_table1_186 rfl (lv_at hl 0 rfl) ?_
  refine zi_sipush hx hb d_Table_table1_187 (by decide) ?_
  refine zi_sipush hx hb d_Table_table1_190 (by decide) ?_
  refine zi_bipush hx hb d_Table_table1_193 (by decide) ?_
  have hPc := hP.sub (ws' := [(tb, .inr (11, [.ref kq, .int (iI (bN utf)), .int (iI (bN ucp)), .int (iI la), .ref mq, .int (iI mz)])), (kq, .inl (E.2.1 0, 12544, .inl f16))]) [0, 1] rfl
  have hDc := hD.sub (ws' := [(tb, .inr (11, [.ref kq, .int (iI (bN utf)), .int (iI (bN ucp)), .int (iI la), .ref mq, .int (iI mz)])), (kq, .inl (E.2.1 0, 12544, .inl f16))]) [0, 1] (by decide) rfl
  have hFc := va_free (wc := [(tb, .inr (11, [.ref kq, .int (iI (bN utf)), .int (iI (bN ucp)), .int (iI la), .ref mq, .int (iI mz)])), (kq, .inl (E.2.1 0, 12544, .inl f16))]) hD hS hA [0, 1] rfl
  refine zcW (va_runV (As := [.int (iI 1632), .int (iI 1641), .int (iI 8)]) (rest := []) S (c_Table_kinds l E _ tb kq mq utf ucp la mz f16 1632 1641 8 (by decide) (by decide) (by decide)) ⟨zcwB (n := 3) S zw_883 zw_15 zw_880 (by decide +kernel) rfl rfl ⟨Nat.le_of_ble_eq_true rfl, Nat.le_of_ble_eq_true rfl⟩, S.2.2.2.2 _ zw_882, S.2.2.2.2 _ zs_26⟩ (zPreV hE (hP 0 _ rfl) rfl ⟨rfl, hPc, hDc.weaken (fun _ _ _ h => hA0 _ h), trivial⟩) rfl rfl hl.1 rfl (lv_room (Nat.le_of_ble_eq_true rfl)) d_Table_table1_195 ⟨by (try dsimp only); omega, by (try dsimp only); omega⟩) hS (fun q _ h => hFc q h) hFc (fun v H locs hq hz1 hk1 hS => ?_)
  obtain ⟨rfl, hP1, hD1⟩ := hq
  obtain ⟨hP, hD⟩ := va_join (wr := []) (w1 := [(tb, .inr (11, [.ref kq, .int (iI (bN utf)), .int (iI (bN ucp)), .int (iI la), .ref mq, .int (iI mz)])), (kq, .inl (E.2.1 0, 12544, .inl (rf_set f16 (1632, 1641, 8))))]) hP hD [0, 1] [] rfl rfl (by decide) (by decide) hk1 hFc hP1 hD1
  have hP : va_P E.1 zcl [(tb, .inr (11, [.ref kq, .int (iI (bN utf)), .int (iI (bN ucp)), .int (iI la), .ref mq, .int (iI mz)])), (kq, .inl (E.2.1 0, 12544, .inl (rf_set f16 (1632, 1641, 8))))] H := hP
  have hD : va_D A [(tb, .inr (11, [.ref kq, .int (iI (bN utf)), .int (iI (bN ucp)), .int (iI la), .ref mq, .int (iI mz)])), (kq, .inl (E.2.1 0, 12544, .inl (rf_set f16 (1632, 1641, 8))))] := hD
  have hE := hE0.at hS hA0
  obtain ⟨f17, ef17⟩ : ∃ x, x = rf_set f16 (1632, 1641, 8) := ⟨_, rfl⟩
  rw [← ef17] at hP hD
  refine lv_aload_n hx hb d_Table_table1_198 rfl (lv_at hl 0 rfl) ?_
  refine zi_bipush hx hb d_Table_table1_199 (by decide) ?_
  refine zi_bipush hx hb d_Table_table1_201 (by decide) ?_
  refine zi_bipush hx hb d_Table_table1_203 (by decide) ?_
  have hPc := hP.sub (ws' := [(tb, .inr (11, [.ref kq, .int (iI (bN utf)), .int (iI (bN ucp)), .int (iI la), .ref mq, .int (iI mz)])), (kq, .inl (E.2.1 0, 12544, .inl f17))]) [0, 1] rfl
  have hDc := hD.sub (ws' := [(tb, .inr (11, [.ref kq, .int (iI (bN utf)), .int (iI (bN ucp)), .int (iI la), .ref mq, .int (iI mz)])), (kq, .inl (E.2.1 0, 12544, .inl f17))]) [0, 1] (by decide) rfl
  have hFc := va_free (wc := [(tb, .inr (11, [.ref kq, .int (iI (bN utf)), .int (iI (bN ucp)), .int (iI la), .ref mq, .int (iI mz)])), (kq, .inl (E.2.1 0, 12544, .inl f17))]) hD hS hA [0, 1] rfl
  refine zcW (va_runV (As := [.int (iI 94), .int (iI 94), .int (iI 19)]) (rest := []) S (c_Table_kinds l E _ tb kq mq utf ucp la mz f17 94 94 19 (by decide) (by decide) (by decide)) ⟨zcwB (n := 3) S zw_883 zw_15 zw_880 (by decide +kernel) rfl rfl ⟨Nat.le_of_ble_eq_true rfl, Nat.le_of_ble_eq_true rfl⟩, S.2.2.2.2 _ zw_882, S.2.2.2.2 _ zs_26⟩ (zPreV hE (hP 0 _ rfl) rfl ⟨rfl, hPc, hDc.weaken (fun _ _ _ h => hA0 _ h), trivial⟩) rfl rfl hl.1 rfl (lv_room (Nat.le_of_ble_eq_true rfl)) d_Table_table1_205 ⟨by (try dsimp only); omega, by (try dsimp only); omega⟩) hS (fun q _ h => hFc q h) hFc (fun v H locs hq hz1 hk1 hS => ?_)
  obtain ⟨rfl, hP1, hD1⟩ := hq
  obtain ⟨hP, hD⟩ := va_join (wr := []) (w1 := [(tb, .inr (11, [.ref kq, .int (iI (bN utf)), .int (iI (bN ucp)), .int (iI la), .ref mq, .int (iI mz)])), (kq, .inl (E.2.1 0, 12544, .inl (rf_set f17 (94, 94, 19))))]) hP hD [0, 1] [] rfl rfl (by decide) (by decide) hk1 hFc hP1 hD1
  have hP : va_P E.1 zcl [(tb, .inr (11, [.ref kq, .int (iI (bN utf)), .int (iI (bN ucp)), .int (iI la), .ref mq, .int (iI mz)])), (kq, .inl (E.2.1 0, 12544, .inl (rf_set f17 (94, 94, 19))))] H := hP
  have hD : va_D A [(tb, .inr (11, [.ref kq, .int (iI (bN utf)), .int (iI (bN ucp)), .int (iI la), .ref mq, .int (iI mz)])), (kq, .inl (E.2.1 0, 12544, .inl (rf_set f17 (94, 94, 19))))] := hD
  have hE := hE0.at hS hA0
  obtain ⟨f18, ef18⟩ : ∃ x, x = rf_set f17 (94, 94, 19) := ⟨_, rfl⟩
  rw [← ef18] at hP hD
  refine lv_aload_n hx hb d_Table_table1_208 rfl (lv_at hl 0 rfl) ?_
  refine zi_bipush hx hb d_Table_table1_209 (by decide) ?_
  refine zi_bipush hx hb d_Table_table1_211 (by decide) ?_
  refine zi_bipush hx hb d_Table_table1_213 (by decide) ?_
  have hPc := hP.sub (ws' := [(tb, .inr (11, [.ref kq, .int (iI (bN utf)), .int (iI (bN ucp)), .int (iI la), .ref mq, .int (iI mz)])), (kq, .inl (E.2.1 0, 12544, .inl f18))]) [0, 1] rfl
  have hDc := hD.sub (ws' := [(tb, .inr (11, [.ref kq, .int (iI (bN utf)), .int (iI (bN ucp)), .int (iI la), .ref mq, .int (iI mz)])), (kq, .inl (E.2.1 0, 12544, .inl f18))]) [0, 1] (by decide) rfl
  have hFc := va_free (wc := [(tb, .inr (11, [.ref kq, .int (iI (bN utf)), .int (iI (bN ucp)), .int (iI la), .ref mq, .int (iI mz)])), (kq, .inl (E.2.1 0, 12544, .inl f18))]) hD hS hA [0, 1] rfl
  refine zcW (va_runV (As := [.int (iI 96), .int (iI 96), .int (iI 19)]) (rest := []) S (c_Table_kinds l E _ tb kq mq utf ucp la mz f18 96 96 19 (by decide) (by decide) (by decide)) ⟨zcwB (n := 3) S zw_883 zw_15 zw_880 (by decide +kernel) rfl rfl ⟨Nat.le_of_ble_eq_true rfl, Nat.le_of_ble_eq_true rfl⟩, S.2.2.2.2 _ zw_882, S.2.2.2.2 _ zs_26⟩ (zPreV hE (hP 0 _ rfl) rfl ⟨rfl, hPc, hDc.weaken (fun _ _ _ h => hA0 _ h), trivial⟩) rfl rfl hl.1 rfl (lv_room (Nat.le_of_ble_eq_true rfl)) d_Table_table1_215 ⟨by (try dsimp only); omega, by (try dsimp only); omega⟩) hS (fun q _ h => hFc q h) hFc (fun v H locs hq hz1 hk1 hS => ?_)
  obtain ⟨rfl, hP1, hD1⟩ := hq
  obtain ⟨hP, hD⟩ := va_join (wr := []) (w1 := [(tb, .inr (11, [.ref kq, .int (iI (bN utf)), .int (iI (bN ucp)), .int (iI la), .ref mq, .int (iI mz)])), (kq, .inl (E.2.1 0, 12544, .inl (rf_set f18 (96, 96, 19))))]) hP hD [0, 1] [] rfl rfl (by decide) (by decide) hk1 hFc hP1 hD1
  have hP : va_P E.1 zcl [(tb, .inr (11, [.ref kq, .int (iI (bN utf)), .int (iI (bN ucp)), .int (iI la), .ref mq, .int (iI mz)])), (kq, .inl (E.2.1 0, 12544, .inl (rf_set f18 (96, 96, 19))))] H := hP
  have hD : va_D A [(tb, .inr (11, [.ref kq, .int (iI (bN utf)), .int (iI (bN ucp)), .int (iI la), .ref mq, .int (iI mz)])), (kq, .inl (E.2.1 0, 12544, .inl (rf_set f18 (96, 96, 19))))] := hD
  have hE := hE0.at hS hA0
  obtain ⟨f19, ef19⟩ : ∃ x, x = rf_set f18 (96, 96, 19) := ⟨_, rfl⟩
  rw [← ef19] at hP hD
  refine lv_aload_n hx hb d_Table_table1_218 rfl (lv_at hl 0 rfl) ?_
  refine zi_sipush hx hb d_Table_table1_219 (by decide) ?_
  refine zi_sipush hx hb d_Table_table1_222 (by decide) ?_
  refine zi_bipush hx hb d_Table_table1_225 (by decide) ?_
  have hPc := hP.sub (ws' := [(tb, .inr (11, [.ref kq, .int (iI (bN utf)), .int (iI (bN ucp)), .int (iI la), .ref mq, .int (iI mz)])), (kq, .inl (E.2.1 0, 12544, .inl f19))]) [0, 1] rfl
  have hDc := hD.sub (ws' := [(tb, .inr (11, [.ref kq, .int (iI (bN utf)), .int (iI (bN ucp)), .int (iI la), .ref mq, .int (iI mz)])), (kq, .inl (E.2.1 0, 12544, .inl f19))]) [0, 1] (by decide) rfl
  have hFc := va_free (wc := [(tb, .inr (11, [.ref kq, .int (iI (bN utf)), .int (iI (bN ucp)), .int (iI la), .ref mq, .int (iI mz)])), (kq, .inl (E.2.1 0, 12544, .inl f19))]) hD hS hA [0, 1] rfl
  refine zcW (va_runV (As := [.int (iI 168), .int (iI 168), .int (iI 19)]) (rest := []) S (c_Table_kinds l E _ tb kq mq utf ucp la mz f19 168 168 19 (by decide) (by decide) (by decide)) ⟨zcwB (n := 3) S zw_883 zw_15 zw_880 (by decide +kernel) rfl rfl ⟨Nat.le_of_ble_eq_true rfl, Nat.le_of_ble_eq_true rfl⟩, S.2.2.2.2 _ zw_882, S.2.2.2.2 _ zs_26⟩ (zPreV hE (hP 0 _ rfl) rfl ⟨rfl, hPc, hDc.weaken (fun _ _ _ h => hA0 _ h), trivial⟩) rfl rfl hl.1 rfl (lv_room (Nat.le_of_ble_eq_true rfl)) d_Table_table1_227 ⟨by (try dsimp only); omega, by (try dsimp only); omega⟩) hS (fun q _ h => hFc q h) hFc (fun v H locs hq hz1 hk1 hS => ?_)
  obtain ⟨rfl, hP1, hD1⟩ := hq
  obtain ⟨hP, hD⟩ := va_join (wr := []) (w1 := [(tb, .inr (11, [.ref kq, .int (iI (bN utf)), .int (iI (bN ucp)), .int (iI la), .ref mq, .int (iI mz)])), (kq, .inl (E.2.1 0, 12544, .inl (rf_set f19 (168, 168, 19))))]) hP hD [0, 1] [] rfl rfl (by decide) (by decide) hk1 hFc hP1 hD1
  have hP : va_P E.1 zcl [(tb, .inr (11, [.ref kq, .int (iI (bN utf)), .int (iI (bN ucp)), .int (iI la), .ref mq, .int (iI mz)])), (kq, .inl (E.2.1 0, 12544, .inl (rf_set f19 (168, 168, 19))))] H := hP
  have hD : va_D A [(tb, .inr (11, [.ref kq, .int (iI (bN utf)), .int (iI (bN ucp)), .int (iI la), .ref mq, .int (iI mz)])), (kq, .inl (E.2.1 0, 12544, .inl (rf_set f19 (168, 168, 19))))] := hD
  have hE := hE0.at hS hA0
  obtain ⟨f20, ef20⟩ : ∃ x, x = rf_set f19 (168, 168, 19) := ⟨_, rfl⟩
  rw [← ef20] at hP hD
  refine lv_aload_n hx hb d_Table_table1_230 rfl (lv_at hl 0 rfl) ?_
  refine zi_sipush hx hb d_Table_table1_231 (by decide) ?_
  refine zi_sipush hx hb d_Table_table1_234 (by decide) ?_
  refine zi_bipush hx hb d_Table_table1_237 (by decide) ?_
  have hPc := hP.sub (ws' := [(tb, .inr (11, [.ref kq, .int (iI (bN utf)), .int (iI (bN ucp)), .int (iI la), .ref mq, .int (iI mz)])), (kq, .inl (E.2.1 0, 12544, .inl f20))]) [0, 1] rfl
  have hDc := hD.sub (ws' := [(tb, .inr (11, [.ref kq, .int (iI (bN utf)), .int (iI (bN ucp)), .int (iI la), .ref mq, .int (iI mz)])), (kq, .inl (E.2.1 0, 12544, .inl f20))]) [0, 1] (by decide) rfl
  have hFc := va_free (wc := [(tb, .inr (11, [.ref kq, .int (iI (bN utf)), .int (iI (bN ucp)), .int (iI la), .ref mq, .int (iI mz)])), (kq, .inl (E.2.1 0, 12544, .inl f20))]) hD hS hA [0, 1] rfl
  refine zcW (va_runV (As := [.int (iI 175), .int (iI 175), .int (iI 19)]) (rest := []) S (c_Table_kinds l E _ tb kq mq utf ucp la mz f20 175 175 19 (by decide) (by decide) (by decide)) ⟨zcwB (n := 3) S zw_883 zw_15 zw_880 (by decide +kernel) rfl rfl ⟨Nat.le_of_ble_eq_true rfl, Nat.le_of_ble_eq_true rfl⟩, S.2.2.2.2 _ zw_882, S.2.2.2.2 _ zs_26⟩ (zPreV hE (hP 0 _ rfl) rfl ⟨rfl, hPc, hDc.weaken (fun _ _ _ h => hA0 _ h), trivial⟩) rfl rfl hl.1 rfl (lv_room (Nat.le_of_ble_eq_true rfl)) d_Table_table1_239 ⟨by (try dsimp only); omega, by (try dsimp only); omega⟩) hS (fun q _ h => hFc q h) hFc (fun v H locs hq hz1 hk1 hS => ?_)
  obtain ⟨rfl, hP1, hD1⟩ := hq
  obtain ⟨hP, hD⟩ := va_join (wr := []) (w1 := [(tb, .inr (11, [.ref kq, .int (iI (bN utf)), .int (iI (bN ucp)), .int (iI la), .ref mq, .int (iI mz)])), (kq, .inl (E.2.1 0, 12544, .inl (rf_set f20 (175, 175, 19))))]) hP hD [0, 1] [] rfl rfl (by decide) (by decide) hk1 hFc hP1 hD1
  have hP : va_P E.1 zcl [(tb, .inr (11, [.ref kq, .int (iI (bN utf)), .int (iI (bN ucp)), .int (iI la), .ref mq, .int (iI mz)])), (kq, .inl (E.2.1 0, 12544, .inl (rf_set f20 (175, 175, 19))))] H := hP
  have hD : va_D A [(tb, .inr (11, [.ref kq, .int (iI (bN utf)), .int (iI (bN ucp)), .int (iI la), .ref mq, .int (iI mz)])), (kq, .inl (E.2.1 0, 12544, .inl (rf_set f20 (175, 175, 19))))] := hD
  have hE := hE0.at hS hA0
  obtain ⟨f21, ef21⟩ : ∃ x, x = rf_set f20 (175, 175, 19) := ⟨_, rfl⟩
  rw [← ef21] at hP hD
  refine lv_aload_n hx hb d_Table_table1_242 rfl (lv_at hl 0 rfl) ?_
  refine zi_sipush hx hb d_Table_table1_243 (by decide) ?_
  refine zi_sipush hx hb d_Table_table1_246 (by decide) ?_
  refine zi_bipush hx hb d_Table_table1_249 (by decide) ?_
  have hPc := hP.sub (ws' := [(tb, .inr (11, [.ref kq, .int (iI (bN utf)), .int (iI (bN ucp)), .int (iI la), .ref mq, .int (iI mz)])), (kq, .inl (E.2.1 0, 12544, .inl f21))]) [0, 1] rfl
  have hDc := hD.sub (ws' := [(tb, .inr (11, [.ref kq, .int (iI (bN utf)), .int (iI (bN ucp)), .int (iI la), .ref mq, .int (iI mz)])), (kq, .inl (E.2.1 0, 12544, .inl f21))]) [0, 1] (by decide) rfl
  have hFc := va_free (wc := [(tb, .inr (11, [.ref kq, .int (iI (bN utf)), .int (iI (bN ucp)), .int (iI la), .ref mq, .int (iI mz)])), (kq, .inl (E.2.1 0, 12544, .inl f21))]) hD hS hA [0, 1] rfl
  refine zcW (va_runV (As := [.int (iI 180), .int (iI 180), .int (iI 19)]) (rest := []) S (c_Table_kinds l E _ tb kq mq utf ucp la mz f21 180 180 19 (by decide) (by decide) (by decide)) ⟨zcwB (n := 3) S zw_883 zw_15 zw_880 (by decide +kernel) rfl rfl ⟨Nat.le_of_ble_eq_true rfl, Nat.le_of_ble_eq_true rfl⟩, S.2.2.2.2 _ zw_882, S.2.2.2.2 _ zs_26⟩ (zPreV hE (hP 0 _ rfl) rfl ⟨rfl, hPc, hDc.weaken (fun _ _ _ h => hA0 _ h), trivial⟩) rfl rfl hl.1 rfl (lv_room (Nat.le_of_ble_eq_true rfl)) d_Table_table1_251 ⟨by (try dsimp only); omega, by (try dsimp only); omega⟩) hS (fun q _ h => hFc q h) hFc (fun v H locs hq hz1 hk1 hS => ?_)
  obtain ⟨rfl, hP1, hD1⟩ := hq
  obtain ⟨hP, hD⟩ := va_join (wr := []) (w1 := [(tb, .inr (11, [.ref kq, .int (iI (bN utf)), .int (iI (bN ucp)), .int (iI la), .ref mq, .int (iI mz)])), (kq, .inl (E.2.1 0, 12544, .inl (rf_set f21 (180, 180, 19))))]) hP hD [0, 1] [] rfl rfl (by decide) (by decide) hk1 hFc hP1 hD1
  have hP : va_P E.1 zcl [(tb, .inr (11, [.ref kq, .int (iI (bN utf)), .int (iI (bN ucp)), .int (iI la), .ref mq, .int (iI mz)])), (kq, .inl (E.2.1 0, 12544, .inl (rf_set f21 (180, 180, 19))))] H := hP
  have hD : va_D A [(tb, .inr (11, [.ref kq, .int (iI (bN utf)), .int (iI (bN ucp)), .int (iI la), .ref mq, .int (iI mz)])), (kq, .inl (E.2.1 0, 12544, .inl (rf_set f21 (180, 180, 19))))] := hD
  have hE := hE0.at hS hA0
  obtain ⟨f22, ef22⟩ : ∃ x, x = rf_set f21 (180, 180, 19) := ⟨_, rfl⟩
  rw [← ef22] at hP hD
  refine lv_aload_n hx hb d_Table_table1_254 rfl (lv_at hl 0 rfl) ?_
  refine zi_sipush hx hb d_Table_table1_255 (by decide) ?_
  refine zi_sipush hx hb d_Table_table1_258 (by decide) ?_
  refine zi_bipush hx hb d_Table_table1_261 (by decide) ?_
  have hPc := hP.sub (ws' := [(tb, .inr (11, [.ref kq, .int (iI (bN utf)), .int (iI (bN ucp)), .int (iI la), .ref mq, .int (iI mz)])), (kq, .inl (E.2.1 0, 12544, .inl f22))]) [0, 1] rfl
  have hDc := hD.sub (ws' := [(tb, .inr (11, [.ref kq, .int (iI (bN utf)), .int (iI (bN ucp)), .int (iI la), .ref mq, .int (iI mz)])), (kq, .inl (E.2.1 0, 12544, .inl f22))]) [0, 1] (by decide) rfl
  have hFc := va_free (wc := [(tb, .inr (11, [.ref kq, .int (iI (bN utf)), .int (iI (bN ucp)), .int (iI la), .ref mq, .int (iI mz)])), (kq, .inl (E.2.1 0, 12544, .inl f22))]) hD hS hA [0, 1] rfl
  refine zcW (va_runV (As := [.int (iI 184), .int (iI 184), .int (iI 19)]) (rest := []) S (c_Table_kinds l E _ tb kq mq utf ucp la mz f22 184 184 19 (by decide) (by decide) (by decide)) ⟨zcwB (n := 3) S zw_883 zw_15 zw_880 (by decide +kernel) rfl rfl ⟨Nat.le_of_ble_eq_true rfl, Nat.le_of_ble_eq_true rfl⟩, S.2.2.2.2 _ zw_882, S.2.2.2.2 _ zs_26⟩ (zPreV hE (hP 0 _ rfl) rfl ⟨rfl, hPc, hDc.weaken (fun _ _ _ h => hA0 _ h), trivial⟩) rfl rfl hl.1 rfl (lv_room (Nat.le_of_ble_eq_true rfl)) d_Table_table1_263 ⟨by (try dsimp only); omega, by (try dsimp only); omega⟩) hS (fun q _ h => hFc q h) hFc (fun v H locs hq hz1 hk1 hS => ?_)
  obtain ⟨rfl, hP1, hD1⟩ := hq
  obtain ⟨hP, hD⟩ := va_join (wr := []) (w1 := [(tb, .inr (11, [.ref kq, .int (iI (bN utf)), .int (iI (bN ucp)), .int (iI la), .ref mq, .int (iI mz)])), (kq, .inl (E.2.1 0, 12544, .inl (rf_set f22 (184, 184, 19))))]) hP hD [0, 1] [] rfl rfl (by decide) (by decide) hk1 hFc hP1 hD1
  have hP : va_P E.1 zcl [(tb, .inr (11, [.ref kq, .int (iI (bN utf)), .int (iI (bN ucp)), .int (iI la), .ref mq, .int (iI mz)])), (kq, .inl (E.2.1 0, 12544, .inl (rf_set f22 (184, 184, 19))))] H := hP
  have hD : va_D A [(tb, .inr (11, [.ref kq, .int (iI (bN utf)), .int (iI (bN ucp)), .int (iI la), .ref mq, .int (iI mz)])), (kq, .inl (E.2.1 0, 12544, .inl (rf_set f22 (184, 184, 19))))] := hD
  have hE := hE0.at hS hA0
  obtain ⟨f23, ef23⟩ : ∃ x, x = rf_set f22 (184, 184, 19) := ⟨_, rfl⟩
  rw [← ef23] at hP hD
  refine lv_aload_n hx hb d_Table_table1_266 rfl (lv_at hl 0 rfl) ?_
  refine zi_bipush hx hb d_Table_table1_267 (by decide) ?_
  refine zi_bipush hx hb d_Table_table1_269 (by decide) ?_
  refine zi_bipush hx hb d_Table_table1_271 (by decide) ?_
  have hPc := hP.sub (ws' := [(tb, .inr (11, [.ref kq, .int (iI (bN utf)), .int (iI (bN ucp)), .int (iI la), .ref mq, .int (iI mz)])), (kq, .inl (E.2.1 0, 12544, .inl f23))]) [0, 1] rfl
  have hDc := hD.sub (ws' := [(tb, .inr (11, [.ref kq, .int (iI (bN utf)), .int (iI (bN ucp)), .int (iI la), .ref mq, .int (iI mz)])), (kq, .inl (E.2.1 0, 12544, .inl f23))]) [0, 1] (by decide) rfl
  have hFc := va_free (wc := [(tb, .inr (11, [.ref kq, .int (iI (bN utf)), .int (iI (bN ucp)), .int (iI la), .ref mq, .int (iI mz)])), (kq, .inl (E.2.1 0, 12544, .inl f23))]) hD hS hA [0, 1] rfl
  refine zcW (va_runV (As := [.int (iI 95), .int (iI 95), .int (iI 11)]) (rest := []) S (c_Table_kinds l E _ tb kq mq utf ucp la mz f23 95 95 11 (by decide) (by decide) (by decide)) ⟨zcwB (n := 3) S zw_883 zw_15 zw_880 (by decide +kernel) rfl rfl ⟨Nat.le_of_ble_eq_true rfl, Nat.le_of_ble_eq_true rfl⟩, S.2.2.2.2 _ zw_882, S.2.2.2.2 _ zs_26⟩ (zPreV hE (hP 0 _ rfl) rfl ⟨rfl, hPc, hDc.weaken (fun _ _ _ h => hA0 _ h), trivial⟩) rfl rfl hl.1 rfl (lv_room (Nat.le_of_ble_eq_true rfl)) d_Table_table1_273 ⟨by (try dsimp only); omega, by (try dsimp only); omega⟩) hS (fun q _ h => hFc q h) hFc (fun v H locs hq hz1 hk1 hS => ?_)
  obtain ⟨rfl, hP1, hD1⟩ := hq
  obtain ⟨hP, hD⟩ := va_join (wr := []) (w1 := [(tb, .inr (11, [.ref kq, .int (iI (bN utf)), .int (iI (bN ucp)), .int (iI la), .ref mq, .int (iI mz)])), (kq, .inl (E.2.1 0, 12544, .inl (rf_set f23 (95, 95, 11))))]) hP hD [0, 1] [] rfl rfl (by decide) (by decide) hk1 hFc hP1 hD1
  have hP : va_P E.1 zcl [(tb, .inr (11, [.ref kq, .int (iI (bN utf)), .int (iI (bN ucp)), .int (iI la), .ref mq, .int (iI mz)])), (kq, .inl (E.2.1 0, 12544, .inl (rf_set f23 (95, 95, 11))))] H := hP
  have hD : va_D A [(tb, .inr (11, [.ref kq, .int (iI (bN utf)), .int (iI (bN ucp)), .int (iI la), .ref mq, .int (iI mz)])), (kq, .inl (E.2.1 0, 12544, .inl (rf_set f23 (95, 95, 11))))] := hD
  have hE := hE0.at hS hA0
  obtain ⟨f24, ef24⟩ : ∃ x, x = rf_set f23 (95, 95, 11) := ⟨_, rfl⟩
  rw [← ef24] at hP hD
  refine lv_aload_n hx hb d_Table_table1_276 rfl (lv_at hl 0 rfl) ?_
  refine zi_sipush hx hb d_Table_table1_277 (by decide) ?_
  refine zi_sipush hx hb d_Table_table1_280 (by decide) ?_
  refine zi_bipush hx hb d_Table_table1_283 (by decide) ?_
  have hPc := hP.sub (ws' := [(tb, .inr (11, [.ref kq, .int (iI (bN utf)), .int (iI (bN ucp)), .int (iI la), .ref mq, .int (iI mz)])), (kq, .inl (E.2.1 0, 12544, .inl f24))]) [0, 1] rfl
  have hDc := hD.sub (ws' := [(tb, .inr (11, [.ref kq, .int (iI (bN utf)), .int (iI (bN ucp)), .int (iI la), .ref mq, .int (iI mz)])), (kq, .inl (E.2.1 0, 12544, .inl f24))]) [0, 1] (by decide) rfl
  have hFc := va_free (wc := [(tb, .inr (11, [.ref kq, .int (iI (bN utf)), .int (iI (bN ucp)), .int (iI la), .ref mq, .int (iI mz)])), (kq, .inl (E.2.1 0, 12544, .inl f24))]) hD hS hA [0, 1] rfl
  refine zcW (va_runV (As := [.int (iI 166), .int (iI 166), .int (iI 21)]) (rest := []) S (c_Table_kinds l E _ tb kq mq utf ucp la mz f24 166 166 21 (by decide) (by decide) (by decide)) ⟨zcwB (n := 3) S zw_883 zw_15 zw_880 (by decide +kernel) rfl rfl ⟨Nat.le_of_ble_eq_true rfl, Nat.le_of_ble_eq_true rfl⟩, S.2.2.2.2 _ zw_882, S.2.2.2.2 _ zs_26⟩ (zPreV hE (hP 0 _ rfl) rfl ⟨rfl, hPc, hDc.weaken (fun _ _ _ h => hA0 _ h), trivial⟩) rfl rfl hl.1 rfl (lv_room (Nat.le_of_ble_eq_true rfl)) d_Table_table1_285 ⟨by (try dsimp only); omega, by (try dsimp only); omega⟩) hS (fun q _ h => hFc q h) hFc (fun v H locs hq hz1 hk1 hS => ?_)
  obtain ⟨rfl, hP1, hD1⟩ := hq
  obtain ⟨hP, hD⟩ := va_join (wr := []) (w1 := [(tb, .inr (11, [.ref kq, .int (iI (bN utf)), .int (iI (bN ucp)), .int (iI la), .ref mq, .int (iI mz)])), (kq, .inl (E.2.1 0, 12544, .inl (rf_set f24 (166, 166, 21))))]) hP hD [0, 1] [] rfl rfl (by decide) (by decide) hk1 hFc hP1 hD1
  have hP : va_P E.1 zcl [(tb, .inr (11, [.ref kq, .int (iI (bN utf)), .int (iI (bN ucp)), .int (iI la), .ref mq, .int (iI mz)])), (kq, .inl (E.2.1 0, 12544, .inl (rf_set f24 (166, 166, 21))))] H := hP
  have hD : va_D A [(tb, .inr (11, [.ref kq, .int (iI (bN utf)), .int (iI (bN ucp)), .int (iI la), .ref mq, .int (iI mz)])), (kq, .inl (E.2.1 0, 12544, .inl (rf_set f24 (166, 166, 21))))] := hD
  have hE := hE0.at hS hA0
  obtain ⟨f25, ef25⟩ : ∃ x, x = rf_set f24 (166, 166, 21) := ⟨_, rfl⟩
  rw [← ef25] at hP hD
  refine lv_aload_n hx hb d_Table_table1_288 rfl (lv_at hl 0 rfl) ?_
  refine zi_sipush hx hb d_Table_table1_289 (by decide) ?_
  refine zi_sipush hx hb d_Table_table1_292 (by decide) ?_
  refine zi_bipush hx hb d_Table_table1_295 (by decide) ?_
  have hPc := hP.sub (ws' := [(tb, .inr (11, [.ref kq, .int (iI (bN utf)), .int (iI (bN ucp)), .int (iI la), .ref mq, .int (iI mz)])), (kq, .inl (E.2.1 0, 12544, .inl f25))]) [0, 1] rfl
  have hDc := hD.sub (ws' := [(tb, .inr (11, [.ref kq, .int (iI (bN utf)), .int (iI (bN ucp)), .int (iI la), .ref mq, .int (iI mz)])), (kq, .inl (E.2.1 0, 12544, .inl f25))]) [0, 1] (by decide) rfl
  have hFc := va_free (wc := [(tb, .inr (11, [.ref kq, .int (iI (bN utf)), .int (iI (bN ucp)), .int (iI la), .ref mq, .int (iI mz)])), (kq, .inl (E.2.1 0, 12544, .inl f25))]) hD hS hA [0, 1] rfl
  refine zcW (va_runV (As := [.int (iI 169), .int (iI 169), .int (iI 21)]) (rest := []) S (c_Table_kinds l E _ tb kq mq utf ucp la mz f25 169 169 21 (by decide) (by decide) (by decide)) ⟨zcwB (n := 3) S zw_883 zw_15 zw_880 (by decide +kernel) rfl rfl ⟨Nat.le_of_ble_eq_true rfl, Nat.le_of_ble_eq_true rfl⟩, S.2.2.2.2 _ zw_882, S.2.2.2.2 _ zs_26⟩ (zPreV hE (hP 0 _ rfl) rfl ⟨rfl, hPc, hDc.weaken (fun _ _ _ h => hA0 _ h), trivial⟩) rfl rfl hl.1 rfl (lv_room (Nat.le_of_ble_eq_true rfl)) d_Table_table1_297 ⟨by (try dsimp only); omega, by (try dsimp only); omega⟩) hS (fun q _ h => hFc q h) hFc (fun v H locs hq hz1 hk1 hS => ?_)
  obtain ⟨rfl, hP1, hD1⟩ := hq
  obtain ⟨hP, hD⟩ := va_join (wr := []) (w1 := [(tb, .inr (11, [.ref kq, .int (iI (bN utf)), .int (iI (bN ucp)), .int (iI la), .ref mq, .int (iI mz)])), (kq, .inl (E.2.1 0, 12544, .inl (rf_set f25 (169, 169, 21))))]) hP hD [0, 1] [] rfl rfl (by decide) (by decide) hk1 hFc hP1 hD1
  have hP : va_P E.1 zcl [(tb, .inr (11, [.ref kq, .int (iI (bN utf)), .int (iI (bN ucp)), .int (iI la), .ref mq, .int (iI mz)])), (kq, .inl (E.2.1 0, 12544, .inl (rf_set f25 (169, 169, 21))))] H := hP
  have hD : va_D A [(tb, .inr (11, [.ref kq, .int (iI (bN utf)), .int (iI (bN ucp)), .int (iI la), .ref mq, .int (iI mz)])), (kq, .inl (E.2.1 0, 12544, .inl (rf_set f25 (169, 169, 21))))] := hD
  have hE := hE0.at hS hA0
  obtain ⟨f26, ef26⟩ : ∃ x, x = rf_set f25 (169, 169, 21) := ⟨_, rfl⟩
  rw [← ef26] at hP hD
  refine lv_aload_n hx hb d_Table_table1_300 rfl (lv_at hl 0 rfl) ?_
  refine zi_sipush hx hb d_Table_table1_301 (by decide) ?_
  refine zi_sipush hx hb d_Table_table1_304 (by decide) ?_
  refine zi_bipush hx hb d_Table_table1_307 (by decide) ?_
  have hPc := hP.sub (ws' := [(tb, .inr (11, [.ref kq, .int (iI (bN utf)), .int (iI (bN ucp)), .int (iI la), .ref mq, .int (iI mz)])), (kq, .inl (E.2.1 0, 12544, .inl f26))]) [0, 1] rfl
  have hDc := hD.sub (ws' := [(tb, .inr (11, [.ref kq, .int (iI (bN utf)), .int (iI (bN ucp)), .int (iI la), .ref mq, .int (iI mz)])), (kq, .inl (E.2.1 0, 12544, .inl f26))]) [0, 1] (by decide) rfl
  have hFc := va_free (wc := [(tb, .inr (11, [.ref kq, .int (iI (bN utf)), .int (iI (bN ucp)), .int (iI la), .ref mq, .int (iI mz)])), (kq, .inl (E.2.1 0, 12544, .inl f26))]) hD hS hA [0, 1] rfl
  refine zcW (va_runV (As := [.int (iI 174), .int (iI 174), .int (iI 21)]) (rest := []) S (c_Table_kinds l E _ tb kq mq utf ucp la mz f26 174 174 21 (by decide) (by decide) (by decide)) ⟨zcwB (n := 3) S zw_883 zw_15 zw_880 (by decide +kernel) rfl rfl ⟨Nat.le_of_ble_eq_true rfl, Nat.le_of_ble_eq_true rfl⟩, S.2.2.2.2 _ zw_882, S.2.2.2.2 _ zs_26⟩ (zPreV hE (hP 0 _ rfl) rfl ⟨rfl, hPc, hDc.weaken (fun _ _ _ h => hA0 _ h), trivial⟩) rfl rfl hl.1 rfl (lv_room (Nat.le_of_ble_eq_true rfl)) d_Table_table1_309 ⟨by (try dsimp only); omega, by (try dsimp only); omega⟩) hS (fun q _ h => hFc q h) hFc (fun v H locs hq hz1 hk1 hS => ?_)
  obtain ⟨rfl, hP1, hD1⟩ := hq
  obtain ⟨hP, hD⟩ := va_join (wr := []) (w1 := [(tb, .inr (11, [.ref kq, .int (iI (bN utf)), .int (iI (bN ucp)), .int (iI la), .ref mq, .int (iI mz)])), (kq, .inl (E.2.1 0, 12544, .inl (rf_set f26 (174, 174, 21))))]) hP hD [0, 1] [] rfl rfl (by decide) (by decide) hk1 hFc hP1 hD1
  have hP : va_P E.1 zcl [(tb, .inr (11, [.ref kq, .int (iI (bN utf)), .int (iI (bN ucp)), .int (iI la), .ref mq, .int (iI mz)])), (kq, .inl (E.2.1 0, 12544, .inl (rf_set f26 (174, 174, 21))))] H := hP
  have hD : va_D A [(tb, .inr (11, [.ref kq, .int (iI (bN utf)), .int (iI (bN ucp)), .int (iI la), .ref mq, .int (iI mz)])), (kq, .inl (E.2.1 0, 12544, .inl (rf_set f26 (174, 174, 21))))] := hD
  have hE := hE0.at hS hA0
  obtain ⟨f27, ef27⟩ : ∃ x, x = rf_set f26 (174, 174, 21) := ⟨_, rfl⟩
  rw [← ef27] at hP hD
  refine lv_aload_n hx hb d_Table_table1_312 rfl (lv_at hl 0 rfl) ?_
  refine zi_sipush hx hb d_Table_table1_313 (by decide) ?_
  refine zi_sipush hx hb d_Table_table1_316 (by decide) ?_
  refine zi_bipush hx hb d_Table_table1_319 (by decide) ?_
  have hPc := hP.sub (ws' := [(tb, .inr (11, [.ref kq, .int (iI (bN utf)), .int (iI (bN ucp)), .int (iI la), .ref mq, .int (iI mz)])), (kq, .inl (E.2.1 0, 12544, .inl f27))]) [0, 1] rfl
  have hDc := hD.sub (ws' := [(tb, .inr (11, [.ref kq, .int (iI (bN utf)), .int (iI (bN ucp)), .int (iI la), .ref mq, .int (iI mz)])), (kq, .inl (E.2.1 0, 12544, .inl f27))]) [0, 1] (by decide) rfl
  have hFc := va_free (wc := [(tb, .inr (11, [.ref kq, .int (iI (bN utf)), .int (iI (bN ucp)), .int (iI la), .ref mq, .int (iI mz)])), (kq, .inl (E.2.1 0, 12544, .inl f27))]) hD hS hA [0, 1] rfl
  refine zcW (va_runV (As := [.int (iI 176), .int (iI 176), .int (iI 21)]) (rest := []) S (c_Table_kinds l E _ tb kq mq utf ucp la mz f27 176 176 21 (by decide) (by decide) (by decide)) ⟨zcwB (n := 3) S zw_883 zw_15 zw_880 (by decide +kernel) rfl rfl ⟨Nat.le_of_ble_eq_true rfl, Nat.le_of_ble_eq_true rfl⟩, S.2.2.2.2 _ zw_882, S.2.2.2.2 _ zs_26⟩ (zPreV hE (hP 0 _ rfl) rfl ⟨rfl, hPc, hDc.weaken (fun _ _ _ h => hA0 _ h), trivial⟩) rfl rfl hl.1 rfl (lv_room (Nat.le_of_ble_eq_true rfl)) d_Table_table1_321 ⟨by (try dsimp only); omega, by (try dsimp only); omega⟩) hS (fun q _ h => hFc q h) hFc (fun v H locs hq hz1 hk1 hS => ?_)
  obtain ⟨rfl, hP1, hD1⟩ := hq
  obtain ⟨hP, hD⟩ := va_join (wr := []) (w1 := [(tb, .inr (11, [.ref kq, .int (iI (bN utf)), .int (iI (bN ucp)), .int (iI la), .ref mq, .int (iI mz)])), (kq, .inl (E.2.1 0, 12544, .inl (rf_set f27 (176, 176, 21))))]) hP hD [0, 1] [] rfl rfl (by decide) (by decide) hk1 hFc hP1 hD1
  have hP : va_P E.1 zcl [(tb, .inr (11, [.ref kq, .int (iI (bN utf)), .int (iI (bN ucp)), .int (iI la), .ref mq, .int (iI mz)])), (kq, .inl (E.2.1 0, 12544, .inl (rf_set f27 (176, 176, 21))))] H := hP
  have hD : va_D A [(tb, .inr (11, [.ref kq, .int (iI (bN utf)), .int (iI (bN ucp)), .int (iI la), .ref mq, .int (iI mz)])), (kq, .inl (E.2.1 0, 12544, .inl (rf_set f27 (176, 176, 21))))] := hD
  have hE := hE0.at hS hA0
  obtain ⟨f28, ef28⟩ : ∃ x, x = rf_set f27 (176, 176, 21) := ⟨_, rfl⟩
  rw [← ef28] at hP hD
  refine lv_aload_n hx hb d_Table_table1_324 rfl (lv_at hl 0 rfl) ?_
  refine zi_sipush hx hb d_Table_table1_325 (by decide) ?_
  refine zi_sipush hx hb d_Table_table1_328 (by decide) ?_
  refine zi_iconst hx hb d_Table_table1_331 ?_
  have hPc := hP.sub (ws' := [(tb, .inr (11, [.ref kq, .int (iI (bN utf)), .int (iI (bN ucp)), .int (iI la), .ref mq, .int (iI mz)])), (kq, .inl (E.2.1 0, 12544, .inl f28))]) [0, 1] rfl
  have hDc := hD.sub (ws' := [(tb, .inr (11, [.ref kq, .int (iI (bN utf)), .int (iI (bN ucp)), .int (iI la), .ref mq, .int (iI mz)])), (kq, .inl (E.2.1 0, 12544, .inl f28))]) [0, 1] (by decide) rfl
  have hFc := va_free (wc := [(tb, .inr (11, [.ref kq, .int (iI (bN utf)), .int (iI (bN ucp)), .int (iI la), .ref mq, .int (iI mz)])), (kq, .inl (E.2.1 0, 12544, .inl f28))]) hD hS hA [0, 1] rfl
  refine zcW (va_runV (As := [.int (iI 170), .int (iI 170), .int (iI 5)]) (rest := []) S (c_Table_kinds l E _ tb kq mq utf ucp la mz f28 170 170 5 (by decide) (by decide) (by decide)) ⟨zcwB (n := 3) S zw_883 zw_15 zw_880 (by decide +kernel) rfl rfl ⟨Nat.le_of_ble_eq_true rfl, Nat.le_of_ble_eq_true rfl⟩, S.2.2.2.2 _ zw_882, S.2.2.2.2 _ zs_26⟩ (zPreV hE (hP 0 _ rfl) rfl ⟨rfl, hPc, hDc.weaken (fun _ _ _ h => hA0 _ h), trivial⟩) rfl rfl hl.1 rfl (lv_room (Nat.le_of_ble_eq_true rfl)) d_Table_table1_332 ⟨by (try dsimp only); omega, by (try dsimp only); omega⟩) hS (fun q _ h => hFc q h) hFc (fun v H locs hq hz1 hk1 hS => ?_)
  obtain ⟨rfl, hP1, hD1⟩ := hq
  obtain ⟨hP, hD⟩ := va_join (wr := []) (w1 := [(tb, .inr (11, [.ref kq, .int (iI (bN utf)), .int (iI (bN ucp)), .int (iI la), .ref mq, .int (iI mz)])), (kq, .inl (E.2.1 0, 12544, .inl (rf_set f28 (170, 170, 5))))]) hP hD [0, 1] [] rfl rfl (by decide) (by decide) hk1 hFc hP1 hD1
  have hP : va_P E.1 zcl [(tb, .inr (11, [.ref kq, .int (iI (bN utf)), .int (iI (bN ucp)), .int (iI la), .ref mq, .int (iI mz)])), (kq, .inl (E.2.1 0, 12544, .inl (rf_set f28 (170, 170, 5))))] H := hP
  have hD : va_D A [(tb, .inr (11, [.ref kq, .int (iI (bN utf)), .int (iI (bN ucp)), .int (iI la), .ref mq, .int (iI mz)])), (kq, .inl (E.2.1 0, 12544, .inl (rf_set f28 (170, 170, 5))))] := hD
  have hE := hE0.at hS hA0
  obtain ⟨f29, ef29⟩ : ∃ x, x = rf_set f28 (170, 170, 5) := ⟨_, rfl⟩
  rw [← ef29] at hP hD
  have hfin : f29 = rf_l1.foldl rf_set f := by simp only [rf_l1, List.foldl, ef29, ef28, ef27, ef26, ef25, ef24, ef23, ef22, ef21, ef20, ef19, ef18, ef17, ef16, ef15, ef14, ef13, ef12, ef11, ef10, ef9, ef8, ef7, ef6, ef5, ef4, ef3, ef2, ef1, ef0]
  rw [hfin] at hP hD
  exact zwv S hr hlk hS (⟨rfl, hP, hD⟩) (by (try dsimp only); omega) (by (try dsimp only); omega) d_Table_table1_335

def rf_l2 : List (Nat × Nat × Nat) := [(186, 186, 5), (1488, 1514, 5), (1568, 1599, 5), (1601, 1610, 5), (12353, 12438, 5), (12449, 12538, 5), (171, 171, 15), (8216, 8216, 15), (8219, 8220, 15), (8223, 8223, 15), (187, 187, 14), (8217, 8217, 14), (8221, 8221, 14), (173, 173, 2), (8203, 8207, 2), (178, 179, 10), (185, 185, 10), (188, 190, 10), (8544, 8559, 9), (768, 879, 7), (97, 122, 4), (181, 181, 4), (223, 246, 4), (248, 255, 4), (945, 969, 4), (1072, 1119, 4), (256, 383, 4), (65, 90, 6), (192, 214, 6), (216, 222, 6)]
set_option maxRecDepth 100000 in
set_option maxHeartbeats 4000000 in
theorem c_Table_table2 (l : Launch) (E : zP) (sz : Nat) (tb kq mq : Nat) (utf ucp : Bool) (la mz : Int) (f : Nat → Int32) : Met l y_Table_table2 (.code y_Table_table2 b_Table_table2 1 ( Option.none : Option FieldType ) :: zw) { frames := 1, cells := (0), slots := (0), locals := 24 } (zPc E [.ref tb] (fun H => H.size = sz ∧ va_P E.1 zcl [(tb, .inr (11, [.ref kq, .int (iI (bN utf)), .int (iI (bN ucp)), .int (iI la), .ref mq, .int (iI mz)])), (kq, .inl (E.2.1 0, 12544, .inl f))] H ∧ va_D (zOld E) [(tb, .inr (11, [.ref kq, .int (iI (bN utf)), .int (iI (bN ucp)), .int (iI la), .ref mq, .int (iI mz)])), (kq, .inl (E.2.1 0, 12544, .inl f))] ∧ (True))) (zW (fun v H => v = none ∧ va_P E.1 zcl [(tb, .inr (11, [.ref kq, .int (iI (bN utf)), .int (iI (bN ucp)), .int (iI la), .ref mq, .int (iI mz)])), (kq, .inl (E.2.1 0, 12544, .inl (rf_l2.foldl rf_set f)))] H ∧ va_D (va_A [(tb, .inr (11, [.ref kq, .int (iI (bN utf)), .int (iI (bN ucp)), .int (iI la), .ref mq, .int (iI mz)])), (kq, .inl (E.2.1 0, 12544, .inl f))] sz) [(tb, .inr (11, [.ref kq, .int (iI (bN utf)), .int (iI (bN ucp)), .int (iI la), .ref mq, .int (iI mz)])), (kq, .inl (E.2.1 0, 12544, .inl (rf_l2.foldl rf_set f)))]) (va_A [(tb, .inr (11, [.ref kq, .int (iI (bN utf)), .int (iI (bN ucp)), .int (iI la), .ref mq, .int (iI mz)])), (kq, .inl (E.2.1 0, 12544, .inl f))] sz)) (0) (0) (va_A [(tb, .inr (11, [.ref kq, .int (iI (bN utf)), .int (iI (bN ucp)), .int (iI la), .ref mq, .int (iI mz)])), (kq, .inl (E.2.1 0, 12544, .inl f))] sz) := by
  refine zMet (by decide) (Nat.le_of_ble_eq_true rfl) ?_
  intro p e s m below meth c ls S hr hlk hnm hE ⟨hsz, hP, hDo, hX⟩ hl
  have hx := S.1
  have hb := S.2.1
  have hE0 := hE
  have hl : lv_has ls 1 [(0, .ref tb)] := hl
  subst hsz
  have hD := hDo.self (sz := s.heap.size)
  generalize hAe : va_A [(tb, .inr (11, [.ref kq, .int (iI (bN utf)), .int (iI (bN ucp)), .int (iI la), .ref mq, .int (iI mz)])), (kq, .inl (E.2.1 0, 12544, .inl f))] s.heap.size = A at hD ⊢
  have hA : ∀ q : Nat, s.heap.size ≤ q → A q := fun q h => by rw [← hAe]; exact Or.inr h
  have hA0 := zA0 hE hDo hAe
  have hS : va_S A s.heap s.heap [] := va_S.rf
  refine lv_aload_n hx hb d_Table_table2_0 rfl (lv_at hl 0 rfl) ?_
  refine zi_sipush hx hb d_Table_table2_1 (by decide) ?_
  refine zi_sipush hx hb d_Table_table2_4 (by decide) ?_
  refine zi_iconst hx hb d_Table_table2_7 ?_
  have hPc := hP.sub (ws' := [(tb, .inr (11, [.ref kq, .int (iI (bN utf)), .int (iI (bN ucp)), .int (iI la), .ref mq, .int (iI mz)])), (kq, .inl (E.2.1 0, 12544, .inl f))]) [0, 1] rfl
  have hDc := hD.sub (ws' := [(tb, .inr (11, [.ref kq, .int (iI (bN utf)), .int (iI (bN ucp)), .int (iI la), .ref mq, .int (iI mz)])), (kq, .inl (E.2.1 0, 12544, .inl f))]) [0, 1] (by decide) rfl
  have hFc := va_free (wc := [(tb, .inr (11, [.ref kq, .int (iI (bN utf)), .int (iI (bN ucp)), .int (iI la), .ref mq, .int (iI mz)])), (kq, .inl (E.2.1 0, 12544, .inl f))]) hD hS hA [0, 1] rfl
  refine zcW (va_runV (As := [.int (iI 186), .int (iI 186), .int (iI 5)]) (rest := []) S (c_Table_kinds l E _ tb kq mq utf ucp la mz f 186 186 5 (by decide) (by decide) (by decide)) ⟨zcwB (n := 3) S zw_883 zw_15 zw_880 (by decide +kernel) rfl rfl ⟨Nat.le_of_ble_eq_true rfl, Nat.le_of_ble_eq_true rfl⟩, S.2.2.2.2 _ zw_882, S.2.2.2.2 _ zs_26⟩ (zPreV hE (hP 0 _ rfl) rfl ⟨rfl, hPc, hDc.weaken (fun _ _ _ h => hA0 _ h), trivial⟩) rfl rfl hl.1 rfl (lv_room (Nat.le_of_ble_eq_true rfl)) d_Table_table2_8 ⟨by (try dsimp only); omega, by (try dsimp only); omega⟩) hS (fun q _ h => hFc q h) hFc (fun v H locs hq hz1 hk1 hS => ?_)
  obtain ⟨rfl, hP1, hD1⟩ := hq
  obtain ⟨hP, hD⟩ := va_join (wr := []) (w1 := [(tb, .inr (11, [.ref kq, .int (iI (bN utf)), .int (iI (bN ucp)), .int (iI la), .ref mq, .int (iI mz)])), (kq, .inl (E.2.1 0, 12544, .inl (rf_set f (186, 186, 5))))]) hP hD [0, 1] [] rfl rfl (by decide) (by decide) hk1 hFc hP1 hD1
  have hP : va_P E.1 zcl [(tb, .inr (11, [.ref kq, .int (iI (bN utf)), .int (iI (bN ucp)), .int (iI la), .ref mq, .int (iI mz)])), (kq, .inl (E.2.1 0, 12544, .inl (rf_set f (186, 186, 5))))] H := hP
  have hD : va_D A [(tb, .inr (11, [.ref kq, .int (iI (bN utf)), .int (iI (bN ucp)), .int (iI la), .ref mq, .int (iI mz)])), (kq, .inl (E.2.1 0, 12544, .inl (rf_set f (186, 186, 5))))] := hD
  have hE := hE0.at hS hA0
  obtain ⟨f0, ef0⟩ : ∃ x, x = rf_set f (186, 186, 5) := ⟨_, rfl⟩
  rw [← ef0] at hP hD
  refine lv_aload_n hx hb d_Table_table2_11 rfl (lv_at hl 0 rfl) ?_
  refine zi_sipush hx hb d_Table_table2_12 (by decide) ?_
  refine zi_sipush hx hb d_Table_table2_15 (by decide) ?_
  refine zi_iconst hx hb d_Table_table2_18 ?_
  have hPc := hP.sub (ws' := [(tb, .inr (11, [.ref kq, .int (iI (bN utf)), .int (iI (bN ucp)), .int (iI la), .ref mq, .int (iI mz)])), (kq, .inl (E.2.1 0, 12544, .inl f0))]) [0, 1] rfl
  have hDc := hD.sub (ws' := [(tb, .inr (11, [.ref kq, .int (iI (bN utf)), .int (iI (bN ucp)), .int (iI la), .ref mq, .int (iI mz)])), (kq, .inl (E.2.1 0, 12544, .inl f0))]) [0, 1] (by decide) rfl
  have hFc := va_free (wc := [(tb, .inr (11, [.ref kq, .int (iI (bN utf)), .int (iI (bN ucp)), .int (iI la), .ref mq, .int (iI mz)])), (kq, .inl (E.2.1 0, 12544, .inl f0))]) hD hS hA [0, 1] rfl
  refine zcW (va_runV (As := [.int (iI 1488), .int (iI 1514), .int (iI 5)]) (rest := []) S (c_Table_kinds l E _ tb kq mq utf ucp la mz f0 1488 1514 5 (by decide) (by decide) (by decide)) ⟨zcwB (n := 3) S zw_883 zw_15 zw_880 (by decide +kernel) rfl rfl ⟨Nat.le_of_ble_eq_true rfl, Nat.le_of_ble_eq_true rfl⟩, S.2.2.2.2 _ zw_882, S.2.2.2.2 _ zs_26⟩ (zPreV hE (hP 0 _ rfl) rfl ⟨rfl, hPc, hDc.weaken (fun _ _ _ h => hA0 _ h), trivial⟩) rfl rfl hl.1 rfl (lv_room (Nat.le_of_ble_eq_true rfl)) d_Table_table2_19 ⟨by (try dsimp only); omega, by (try dsimp only); omega⟩) hS (fun q _ h => hFc q h) hFc (fun v H locs hq hz1 hk1 hS => ?_)
  obtain ⟨rfl, hP1, hD1⟩ := hq
  obtain ⟨hP, hD⟩ := va_join (wr := []) (w1 := [(tb, .inr (11, [.ref kq, .int (iI (bN utf)), .int (iI (bN ucp)), .int (iI la), .ref mq, .int (iI mz)])), (kq, .inl (E.2.1 0, 12544, .inl (rf_set f0 (1488, 1514, 5))))]) hP hD [0, 1] [] rfl rfl (by decide) (by decide) hk1 hFc hP1 hD1
  have hP : va_P E.1 zcl [(tb, .inr (11, [.ref kq, .int (iI (bN utf)), .int (iI (bN ucp)), .int (iI la), .ref mq, .int (iI mz)])), (kq, .inl (E.2.1 0, 12544, .inl (rf_set f0 (1488, 1514, 5))))] H := hP
  have hD : va_D A [(tb, .inr (11, [.ref kq, .int (iI (bN utf)), .int (iI (bN ucp)), .int (iI la), .ref mq, .int (iI mz)])), (kq, .inl (E.2.1 0, 12544, .inl (rf_set f0 (1488, 1514, 5))))] := hD
  have hE := hE0.at hS hA0
  obtain ⟨f1, ef1⟩ : ∃ x, x = rf_set f0 (1488, 1514, 5) := ⟨_, rfl⟩
  rw [← ef1] at hP hD
  refine lv_aload_n hx hb d_Table_table2_22 rfl (lv_at hl 0 rfl) ?_
  refine zi_sipush hx hb d_Table_table2_23 (by decide) ?_
  refine zi_sipush hx hb d_Table_table2_26 (by decide) ?_
  refine zi_iconst hx hb d_Table_table2_29 ?_
  have hPc := hP.sub (ws' := [(tb, .inr (11, [.ref kq, .int (iI (bN utf)), .int (iI (bN ucp)), .int (iI la), .ref mq, .int (iI mz)])), (kq, .inl (E.2.1 0, 12544, .inl f1))]) [0, 1] rfl
  have hDc := hD.sub (ws' := [(tb, .inr (11, [.ref kq, .int (iI (bN utf)), .int (iI (bN ucp)), .int (iI la), .ref mq, .int (iI mz)])), (kq, .inl (E.2.1 0, 12544, .inl f1))]) [0, 1] (by decide) rfl
  have hFc := va_free (wc := [(tb, .inr (11, [.ref kq, .int (iI (bN utf)), .int (iI (bN ucp)), .int (iI la), .ref mq, .int (iI mz)])), (kq, .inl (E.2.1 0, 12544, .inl f1))]) hD hS hA [0, 1] rfl
  refine zcW (va_runV (As := [.int (iI 1568), .int (iI 1599), .int (iI 5)]) (rest := []) S (c_Table_kinds l E _ tb kq mq utf ucp la mz f1 1568 1599 5 (by decide) (by decide) (by decide)) ⟨zcwB (n := 3) S zw_883 zw_15 zw_880 (by decide +kernel) rfl rfl ⟨Nat.le_of_ble_eq_true rfl, Nat.le_of_ble_eq_true rfl⟩, S.2.2.2.2 _ zw_882, S.2.2.2.2 _ zs_26⟩ (zPreV hE (hP 0 _ rfl) rfl ⟨rfl, hPc, hDc.weaken (fun _ _ _ h => hA0 _ h), trivial⟩) rfl rfl hl.1 rfl (lv_room (Nat.le_of_ble_eq_true rfl)) d_Table_table2_30 ⟨by (try dsimp only); omega, by (try dsimp only); omega⟩) hS (fun q _ h => hFc q h) hFc (fun v H locs hq hz1 hk1 hS => ?_)
  obtain ⟨rfl, hP1, hD1⟩ := hq
  obtain ⟨hP, hD⟩ := va_join (wr := []) (w1 := [(tb, .inr (11, [.ref kq, .int (iI (bN utf)), .int (iI (bN ucp)), .int (iI la), .ref mq, .int (iI mz)])), (kq, .inl (E.2.1 0, 12544, .inl (rf_set f1 (1568, 1599, 5))))]) hP hD [0, 1] [] rfl rfl (by decide) (by decide) hk1 hFc hP1 hD1
  have hP : va_P E.1 zcl [(tb, .inr (11, [.ref kq, .int (iI (bN utf)), .int (iI (bN ucp)), .int (iI la), .ref mq, .int (iI mz)])), (kq, .inl (E.2.1 0, 12544, .inl (rf_set f1 (1568, 1599, 5))))] H := hP
  have hD : va_D A [(tb, .inr (11, [.ref kq, .int (iI (bN utf)), .int (iI (bN ucp)), .int (iI la), .ref mq, .int (iI mz)])), (kq, .inl (E.2.1 0, 12544, .inl (rf_set f1 (1568, 1599, 5))))] := hD
  have hE := hE0.at hS hA0
  obtain ⟨f2, ef2⟩ : ∃ x, x = rf_set f1 (1568, 1599, 5) := ⟨_, rfl⟩
  rw [← ef2] at hP hD
  refine lv_aload_n hx hb d_Table_table2_33 rfl (lv_at hl 0 rfl) ?_
  refine zi_sipush hx hb d_Table_table2_34 (by decide) ?_
  refine zi_sipush hx hb d_Table_table2_37 (by decide) ?_
  refine zi_iconst hx hb d_Table_table2_40 ?_
  have hPc := hP.sub (ws' := [(tb, .inr (11, [.ref kq, .int (iI (bN utf)), .int (iI (bN ucp)), .int (iI la), .ref mq, .int (iI mz)])), (kq, .inl (E.2.1 0, 12544, .inl f2))]) [0, 1] rfl
  have hDc := hD.sub (ws' := [(tb, .inr (11, [.ref kq, .int (iI (bN utf)), .int (iI (bN ucp)), .int (iI la), .ref mq, .int (iI mz)])), (kq, .inl (E.2.1 0, 12544, .inl f2))]) [0, 1] (by decide) rfl
  have hFc := va_free (wc := [(tb, .inr (11, [.ref kq, .int (iI (bN utf)), .int (iI (bN ucp)), .int (iI la), .ref mq, .int (iI mz)])), (kq, .inl (E.2.1 0, 12544, .inl f2))]) hD hS hA [0, 1] rfl
  refine zcW (va_runV (As := [.int (iI 1601), .int (iI 1610), .int (iI 5)]) (rest := []) S (c_Table_kinds l E _ tb kq mq utf ucp la mz f2 1601 1610 5 (by decide) (by decide) (by decide)) ⟨zcwB (n := 3) S zw_883 zw_15 zw_880 (by decide +kernel) rfl rfl ⟨Nat.le_of_ble_eq_true rfl, Nat.le_of_ble_eq_true rfl⟩, S.2.2.2.2 _ zw_882, S.2.2.2.2 _ zs_26⟩ (zPreV hE (hP 0 _ rfl) rfl ⟨rfl, hPc, hDc.weaken (fun _ _ _ h => hA0 _ h), trivial⟩) rfl rfl hl.1 rfl (lv_room (Nat.le_of_ble_eq_true rfl)) d_Table_table2_41 ⟨by (try dsimp only); omega, by (try dsimp only); omega⟩) hS (fun q _ h => hFc q h) hFc (fun v H locs hq hz1 hk1 hS => ?_)
  obtain ⟨rfl, hP1, hD1⟩ := hq
  obtain ⟨hP, hD⟩ := va_join (wr := []) (w1 := [(tb, .inr (11, [.ref kq, .int (iI (bN utf)), .int (iI (bN ucp)), .int (iI la), .ref mq, .int (iI mz)])), (kq, .inl (E.2.1 0, 12544, .inl (rf_set f2 (1601, 1610, 5))))]) hP hD [0, 1] [] rfl rfl (by decide) (by decide) hk1 hFc hP1 hD1
  have hP : va_P E.1 zcl [(tb, .inr (11, [.ref kq, .int (iI (bN utf)), .int (iI (bN ucp)), .int (iI la), .ref mq, .int (iI mz)])), (kq, .inl (E.2.1 0, 12544, .inl (rf_set f2 (1601, 1610, 5))))] H := hP
  have hD : va_D A [(tb, .inr (11, [.ref kq, .int (iI (bN utf)), .int (iI (bN ucp)), .int (iI la), .ref mq, .int (iI mz)])), (kq, .inl (E.2.1 0, 12544, .inl (rf_set f2 (1601, 1610, 5))))] := hD
  have hE := hE0.at hS hA0
  obtain ⟨f3, ef3⟩ : ∃ x, x = rf_set f2 (1601, 1610, 5) := ⟨_, rfl⟩
  rw [← ef3] at hP hD
  refine lv_aload_n hx hb d_Table_table2_44 rfl (lv_at hl 0 rfl) ?_
  refine zi_sipush hx hb d_Table_table2_45 (by decide) ?_
  refine zi_sipush hx hb d_Table_table2_48 (by decide) ?_
  refine zi_iconst hx hb d_Table_table2_51 ?_
  have hPc := hP.sub (ws' := [(tb, .inr (11, [.ref kq, .int (iI (bN utf)), .int (iI (bN ucp)), .int (iI la), .ref mq, .int (iI mz)])), (kq, .inl (E.2.1 0, 12544, .inl f3))]) [0, 1] rfl
  have hDc := hD.sub (ws' := [(tb, .inr (11, [.ref kq, .int (iI (bN utf)), .int (iI (bN ucp)), .int (iI la), .ref mq, .int (iI mz)])), (kq, .inl (E.2.1 0, 12544, .inl f3))]) [0, 1] (by decide) rfl
  have hFc := va_free (wc := [(tb, .inr (11, [.ref kq, .int (iI (bN utf)), .int (iI (bN ucp)), .int (iI la), .ref mq, .int (iI mz)])), (kq, .inl (E.2.1 0, 12544, .inl f3))]) hD hS hA [0, 1] rfl
  refine zcW (va_runV (As := [.int (iI 12353), .int (iI 12438), .int (iI 5)]) (rest := []) S (c_Table_kinds l E _ tb kq mq utf ucp la mz f3 12353 12438 5 (by decide) (by decide) (by decide)) ⟨zcwB (n := 3) S zw_883 zw_15 zw_880 (by decide +kernel) rfl rfl ⟨Nat.le_of_ble_eq_true rfl, Nat.le_of_ble_eq_true rfl⟩, S.2.2.2.2 _ zw_882, S.2.2.2.2 _ zs_26⟩ (zPreV hE (hP 0 _ rfl) rfl ⟨rfl, hPc, hDc.weaken (fun _ _ _ h => hA0 _ h), trivial⟩) rfl rfl hl.1 rfl (lv_room (Nat.le_of_ble_eq_true rfl)) d_Table_table2_52 ⟨by (try dsimp only); omega, by (try dsimp only); omega⟩) hS (fun q _ h => hFc q h) hFc (fun v H locs hq hz1 hk1 hS => ?_)
  obtain ⟨rfl, hP1, hD1⟩ := hq
  obtain ⟨hP, hD⟩ := va_join (wr := []) (w1 := [(tb, .inr (11, [.ref kq, .int (iI (bN utf)), .int (iI (bN ucp)), .int (iI la), .ref mq, .int (iI mz)])), (kq, .inl (E.2.1 0, 12544, .inl (rf_set f3 (12353, 12438, 5))))]) hP hD [0, 1] [] rfl rfl (by decide) (by decide) hk1 hFc hP1 hD1
  have hP : va_P E.1 zcl [(tb, .inr (11, [.ref kq, .int (iI (bN utf)), .int (iI (bN ucp)), .int (iI la), .ref mq, .int (iI mz)])), (kq, .inl (E.2.1 0, 12544, .inl (rf_set f3 (12353, 12438, 5))))] H := hP
  have hD : va_D A [(tb, .inr (11, [.ref kq, .int (iI (bN utf)), .int (iI (bN ucp)), .int (iI la), .ref mq, .int (iI mz)])), (kq, .inl (E.2.1 0, 12544, .inl (rf_set f3 (12353, 12438, 5))))] := hD
  have hE := hE0.at hS hA0
  obtain ⟨f4, ef4⟩ : ∃ x, x = rf_set f3 (12353, 12438, 5) := ⟨_, rfl⟩
  rw [← ef4] at hP hD
  refine lv_aload_n hx hb d_Table_table2_55 rfl (lv_at hl 0 rfl) ?_
  refine zi_sipush hx hb d_Table_table2_56 (by decide) ?_
  refine zi_sipush hx hb d_Table_table2_59 (by decide) ?_
  refine zi_iconst hx hb d_Table_table2_62 ?_
  have hPc := hP.sub (ws' := [(tb, .inr (11, [.ref kq, .int (iI (bN utf)), .int (iI (bN ucp)), .int (iI la), .ref mq, .int (iI mz)])), (kq, .inl (E.2.1 0, 12544, .inl f4))]) [0, 1] rfl
  have hDc := hD.sub (ws' := [(tb, .inr (11, [.ref kq, .int (iI (bN utf)), .int (iI (bN ucp)), .int (iI la), .ref mq, .int (iI mz)])), (kq, .inl (E.2.1 0, 12544, .inl f4))]) [0, 1] (by decide) rfl
  have hFc := va_free (wc := [(tb, .inr (11, [.ref kq, .int (iI (bN utf)), .int (iI (bN ucp)), .int (iI la), .ref mq, .int (iI mz)])), (kq, .inl (E.2.1 0, 12544, .inl f4))]) hD hS hA [0, 1] rfl
  refine zcW (va_runV (As := [.int (iI 12449), .int (iI 12538), .int (iI 5)]) (rest := []) S (c_Table_kinds l E _ tb kq mq utf ucp la mz f4 12449 12538 5 (by decide) (by decide) (by decide)) ⟨zcwB (n := 3) S zw_883 zw_15 zw_880 (by decide +kernel) rfl rfl ⟨Nat.le_of_ble_eq_true rfl, Nat.le_of_ble_eq_true rfl⟩, S.2.2.2.2 _ zw_882, S.2.2.2.2 _ zs_26⟩ (zPreV hE (hP 0 _ rfl) rfl ⟨rfl, hPc, hDc.weaken (fun _ _ _ h => hA0 _ h), trivial⟩) rfl rfl hl.1 rfl (lv_room (Nat.le_of_ble_eq_true rfl)) d_Table_table2_63 ⟨by (try dsimp only); omega, by (try dsimp only); omega⟩) hS (fun q _ h => hFc q h) hFc (fun v H locs hq hz1 hk1 hS => ?_)
  obtain ⟨rfl, hP1, hD1⟩ := hq
  obtain ⟨hP, hD⟩ := va_join (wr := []) (w1 := [(tb, .inr (11, [.ref kq, .int (iI (bN utf)), .int (iI (bN ucp)), .int (iI la), .ref mq, .int (iI mz)])), (kq, .inl (E.2.1 0, 12544, .inl (rf_set f4 (12449, 12538, 5))))]) hP hD [0, 1] [] rfl rfl (by decide) (by decide) hk1 hFc hP1 hD1
  have hP : va_P E.1 zcl [(tb, .inr (11, [.ref kq, .int (iI (bN utf)), .int (iI (bN ucp)), .int (iI la), .ref mq, .int (iI mz)])), (kq, .inl (E.2.1 0, 12544, .inl (rf_set f4 (12449, 12538, 5))))] H := hP
  have hD : va_D A [(tb, .inr (11, [.ref kq, .int (iI (bN utf)), .int (iI (bN ucp)), .int (iI la), .ref mq, .int (iI mz)])), (kq, .inl (E.2.1 0, 12544, .inl (rf_set f4 (12449, 12538, 5))))] := hD
  have hE := hE0.at hS hA0
  obtain ⟨f5, ef5⟩ : ∃ x, x = rf_set f4 (12449, 12538, 5) := ⟨_, rfl⟩
  rw [← ef5] at hP hD
  refine lv_aload_n hx hb d_Table_table2_66 rfl (lv_at hl 0 rfl) ?_
  refine zi_sipush hx hb d_Table_table2_67 (by decide) ?_
  refine zi_sipush hx hb d_Table_table2_70 (by decide) ?_
  refine zi_bipush hx hb d_Table_table2_73 (by decide) ?_
  have hPc := hP.sub (ws' := [(tb, .inr (11, [.ref kq, .int (iI (bN utf)), .int (iI (bN ucp)), .int (iI la), .ref mq, .int (iI mz)])), (kq, .inl (E.2.1 0, 12544, .inl f5))]) [0, 1] rfl
  have hDc := hD.sub (ws' := [(tb, .inr (11, [.ref kq, .int (iI (bN utf)), .int (iI (bN ucp)), .int (iI la), .ref mq, .int (iI mz)])), (kq, .inl (E.2.1 0, 12544, .inl f5))]) [0, 1] (by decide) rfl
  have hFc := va_free (wc := [(tb, .inr (11, [.ref kq, .int (iI (bN utf)), .int (iI (bN ucp)), .int (iI la), .ref mq, .int (iI mz)])), (kq, .inl (E.2.1 0, 12544, .inl f5))]) hD hS hA [0, 1] rfl
  refine zcW (va_runV (As := [.int (iI 171), .int (iI 171), .int (iI 15)]) (rest := []) S (c_Table_kinds l E _ tb kq mq utf ucp la mz f5 171 171 15 (by decide) (by decide) (by decide)) ⟨zcwB (n := 3) S zw_883 zw_15 zw_880 (by decide +kernel) rfl rfl ⟨Nat.le_of_ble_eq_true rfl, Nat.le_of_ble_eq_true rfl⟩, S.2.2.2.2 _ zw_882, S.2.2.2.2 _ zs_26⟩ (zPreV hE (hP 0 _ rfl) rfl ⟨rfl, hPc, hDc.weaken (fun _ _ _ h => hA0 _ h), trivial⟩) rfl rfl hl.1 rfl (lv_room (Nat.le_of_ble_eq_true rfl)) d_Table_table2_75 ⟨by (try dsimp only); omega, by (try dsimp only); omega⟩) hS (fun q _ h => hFc q h) hFc (fun v H locs hq hz1 hk1 hS => ?_)
  obtain ⟨rfl, hP1, hD1⟩ := hq
  obtain ⟨hP, hD⟩ := va_join (wr := []) (w1 := [(tb, .inr (11, [.ref kq, .int (iI (bN utf)), .int (iI (bN ucp)), .int (iI la), .ref mq, .int (iI mz)])), (kq, .inl (E.2.1 0, 12544, .inl (rf_set f5 (171, 171, 15))))]) hP hD [0, 1] [] rfl rfl (by decide) (by decide) hk1 hFc hP1 hD1
  have hP : va_P E.1 zcl [(tb, .inr (11, [.ref kq, .int (iI (bN utf)), .int (iI (bN ucp)), .int (iI la), .ref mq, .int (iI mz)])), (kq, .inl (E.2.1 0, 12544, .inl (rf_set f5 (171, 171, 15))))] H := hP
  have hD : va_D A [(tb, .inr (11, [.ref kq, .int (iI (bN utf)), .int (iI (bN ucp)), .int (iI la), .ref mq, .int (iI mz)])), (kq, .inl (E.2.1 0, 12544, .inl (rf_set f5 (171, 171, 15))))] := hD
  have hE := hE0.at hS hA0
  obtain ⟨f6, ef6⟩ : ∃ x, x = rf_set f5 (171, 171, 15) := ⟨_, rfl⟩
  rw [← ef6] at hP hD
  refine lv_aload_n hx hb d_Table_table2_78 rfl (lv_at hl 0 rfl) ?_
  refine zi_sipush hx hb d_Table_table2_79 (by decide) ?_
  refine zi_sipush hx hb d_Table_table2_82 (by decide) ?_
  refine zi_bipush hx hb d_Table_table2_85 (by decide) ?_
  have hPc := hP.sub (ws' := [(tb, .inr (11, [.ref kq, .int (iI (bN utf)), .int (iI (bN ucp)), .int (iI la), .ref mq, .int (iI mz)])), (kq, .inl (E.2.1 0, 12544, .inl f6))]) [0, 1] rfl
  have hDc := hD.sub (ws' := [(tb, .inr (11, [.ref kq, .int (iI (bN utf)), .int (iI (bN ucp)), .int (iI la), .ref mq, .int (iI mz)])), (kq, .inl (E.2.1 0, 12544, .inl f6))]) [0, 1] (by decide) rfl
  have hFc := va_free (wc := [(tb, .inr (11, [.ref kq, .int (iI (bN utf)), .int (iI (bN ucp)), .int (iI la), .ref mq, .int (iI mz)])), (kq, .inl (E.2.1 0, 12544, .inl f6))]) hD hS hA [0, 1] rfl
  refine zcW (va_runV (As := [.int (iI 8216), .int (iI 8216), .int (iI 15)]) (rest := []) S (c_Table_kinds l E _ tb kq mq utf ucp la mz f6 8216 8216 15 (by decide) (by decide) (by decide)) ⟨zcwB (n := 3) S zw_883 zw_15 zw_880 (by decide +kernel) rfl rfl ⟨Nat.le_of_ble_eq_true rfl, Nat.le_of_ble_eq_true rfl⟩, S.2.2.2.2 _ zw_882, S.2.2.2.2 _ zs_26⟩ (zPreV hE (hP 0 _ rfl) rfl ⟨rfl, hPc, hDc.weaken (fun _ _ _ h => hA0 _ h), trivial⟩) rfl rfl hl.1 rfl (lv_room (Nat.le_of_ble_eq_true rfl)) d_Table_table2_87 ⟨by (try dsimp only); omega, by (try dsimp only); omega⟩) hS (fun q _ h => hFc q h) hFc (fun v H locs hq hz1 hk1 hS => ?_)
  obtain ⟨rfl, hP1, hD1⟩ := hq
  obtain ⟨hP, hD⟩ := va_join (wr := []) (w1 := [(tb, .inr (11, [.ref kq, .int (iI (bN utf)), .int (iI (bN ucp)), .int (iI la), .ref mq, .int (iI mz)])), (kq, .inl (E.2.1 0, 12544, .inl (rf_set f6 (8216, 8216, 15))))]) hP hD [0, 1] [] rfl rfl (by decide) (by decide) hk1 hFc hP1 hD1
  have hP : va_P E.1 zcl [(tb, .inr (11, [.ref kq, .int (iI (bN utf)), .int (iI (bN ucp)), .int (iI la), .ref mq, .int (iI mz)])), (kq, .inl (E.2.1 0, 12544, .inl (rf_set f6 (8216, 8216, 15))))] H := hP
  have hD : va_D A [(tb, .inr (11, [.ref kq, .int (iI (bN utf)), .int (iI (bN ucp)), .int (iI la), .ref mq, .int (iI mz)])), (kq, .inl (E.2.1 0, 12544, .inl (rf_set f6 (8216, 8216, 15))))] := hD
  have hE := hE0.at hS hA0
  obtain ⟨f7, ef7⟩ : ∃ x, x = rf_set f6 (8216, 8216, 15) := ⟨_, rfl⟩
  rw [← ef7] at hP hD
  refine lv_aload_n hx hb d_Table_table2_90 rfl (lv_at hl 0 rfl) ?_
  refine zi_sipush hx hb d_Table_table2_91 (by decide) ?_
  refine zi_sipush hx hb d_Table_table2_94 (by decide) ?_
  refine zi_bipush hx hb d_Table_table2_97 (by decide) ?_
  have hPc := hP.sub (ws' := [(tb, .inr (11, [.ref kq, .int (iI (bN utf)), .int (iI (bN ucp)), .int (iI la), .ref mq, .int (iI mz)])), (kq, .inl (E.2.1 0, 12544, .inl f7))]) [0, 1] rfl
  have hDc := hD.sub (ws' := [(tb, .inr (11, [.ref kq, .int (iI (bN utf)), .int (iI (bN ucp)), .int (iI la), .ref mq, .int (iI mz)])), (kq, .inl (E.2.1 0, 12544, .inl f7))]) [0, 1] (by decide) rfl
  have hFc := va_free (wc := [(tb, .inr (11, [.ref kq, .int (iI (bN utf)), .int (iI (bN ucp)), .int (iI la), .ref mq, .int (iI mz)])), (kq, .inl (E.2.1 0, 12544, .inl f7))]) hD hS hA [0, 1] rfl
  refine zcW (va_runV (As := [.int (iI 8219), .int (iI 8220), .int (iI 15)]) (rest := []) S (c_Table_kinds l E _ tb kq mq utf ucp la mz f7 8219 8220 15 (by decide) (by decide) (by decide)) ⟨zcwB (n := 3) S zw_883 zw_15 zw_880 (by decide +kernel) rfl rfl ⟨Nat.le_of_ble_eq_true rfl, Nat.le_of_ble_eq_true rfl⟩, S.2.2.2.2 _ zw_882, S.2.2.2.2 _ zs_26⟩ (zPreV hE (hP 0 _ rfl) rfl ⟨rfl, hPc, hDc.weaken (fun _ _ _ h => hA0 _ h), trivial⟩) rfl rfl hl.1 rfl (lv_room (Nat.le_of_ble_eq_true rfl)) d_Table_table2_99 ⟨by (try dsimp only); omega, by (try dsimp only); omega⟩) hS (fun q _ h => hFc q h) hFc (fun v H locs hq hz1 hk1 hS => ?_)
  obtain ⟨rfl, hP1, hD1⟩ := hq
  obtain ⟨hP, hD⟩ := va_join (wr := []) (w1 := [(tb, .inr (11, [.ref kq, .int (iI (bN utf)), .int (iI (bN ucp)), .int (iI la), .ref mq, .int (iI mz)])), (kq, .inl (E.2.1 0, 12544, .inl (rf_set f7 (8219, 8220, 15))))]) hP hD [0, 1] [] rfl rfl (by decide) (by decide) hk1 hFc hP1 hD1
  have hP : va_P E.1 zcl [(tb, .inr (11, [.ref kq, .int (iI (bN utf)), .int (iI (bN ucp)), .int (iI la), .ref mq, .int (iI mz)])), (kq, .inl (E.2.1 0, 12544, .inl (rf_set f7 (8219, 8220, 15))))] H := hP
  have hD : va_D A [(tb, .inr (11, [.ref kq, .int (iI (bN utf)), .int (iI (bN ucp)), .int (iI la), .ref mq, .int (iI mz)])), (kq, .inl (E.2.1 0, 12544, .inl (rf_set f7 (8219, 8220, 15))))] := hD
  have hE := hE0.at hS hA0
  obtain ⟨f8, ef8⟩ : ∃ x, x = rf_set f7 (8219, 8220, 15) := ⟨_, rfl⟩
  rw [← ef8] at hP hD
  refine lv_aload_n hx hb d_Table_table2_102 rfl (lv_at hl 0 rfl) ?_
  refine zi_sipush hx hb d_Table_table2_103 (by decide) ?_
  refine zi_sipush hx hb d_Table_table2_106 (by decide) ?_
  refine zi_bipush hx hb d_Table_table2_109 (by decide) ?_
  have hPc := hP.sub (ws' := [(tb, .inr (11, [.ref kq, .int (iI (bN utf)), .int (iI (bN ucp)), .int (iI la), .ref mq, .int (iI mz)])), (kq, .inl (E.2.1 0, 12544, .inl f8))]) [0, 1] rfl
  have hDc := hD.sub (ws' := [(tb, .inr (11, [.ref kq, .int (iI (bN utf)), .int (iI (bN ucp)), .int (iI la), .ref mq, .int (iI mz)])), (kq, .inl (E.2.1 0, 12544, .inl f8))]) [0, 1] (by decide) rfl
  have hFc := va_free (wc := [(tb, .inr (11, [.ref kq, .int (iI (bN utf)), .int (iI (bN ucp)), .int (iI la), .ref mq, .int (iI mz)])), (kq, .inl (E.2.1 0, 12544, .inl f8))]) hD hS hA [0, 1] rfl
  refine zcW (va_runV (As := [.int (iI 8223), .int (iI 8223), .int (iI 15)]) (rest := []) S (c_Table_kinds l E _ tb kq mq utf ucp la mz f8 8223 8223 15 (by decide) (by decide) (by decide)) ⟨zcwB (n := 3) S zw_883 zw_15 zw_880 (by decide +kernel) rfl rfl ⟨Nat.le_of_ble_eq_true rfl, Nat.le_of_ble_eq_true rfl⟩, S.2.2.2.2 _ zw_882, S.2.2.2.2 _ zs_26⟩ (zPreV hE (hP 0 _ rfl) rfl ⟨rfl, hPc, hDc.weaken (fun _ _ _ h => hA0 _ h), trivial⟩) rfl rfl hl.1 rfl (lv_room (Nat.le_of_ble_eq_true rfl)) d_Table_table2_111 ⟨by (try dsimp only); omega, by (try dsimp only); omega⟩) hS (fun q _ h => hFc q h) hFc (fun v H locs hq hz1 hk1 hS => ?_)
  obtain ⟨rfl, hP1, hD1⟩ := hq
  obtain ⟨hP, hD⟩ := va_join (wr := []) (w1 := [(tb, .inr (11, [.ref kq, .int (iI (bN utf)), .int (iI (bN ucp)), .int (iI la), .ref mq, .int (iI mz)])), (kq, .inl (E.2.1 0, 12544, .inl (rf_set f8 (8223, 8223, 15))))]) hP hD [0, 1] [] rfl rfl (by decide) (by decide) hk1 hFc hP1 hD1
  have hP : va_P E.1 zcl [(tb, .inr (11, [.ref kq, .int (iI (bN utf)), .int (iI (bN ucp)), .int (iI la), .ref mq, .int (iI mz)])), (kq, .inl (E.2.1 0, 12544, .inl (rf_set f8 (8223, 8223, 15))))] H := hP
  have hD : va_D A [(tb, .inr (11, [.ref kq, .int (iI (bN utf)), .int (iI (bN ucp)), .int (iI la), .ref mq, .int (iI mz)])), (kq, .inl (E.2.1 0, 12544, .inl (rf_set f8 (8223, 8223, 15))))] := hD
  have hE := hE0.at hS hA0
  obtain ⟨f9, ef9⟩ : ∃ x, x = rf_set f8 (8223, 8223, 15) := ⟨_, rfl⟩
  rw [← ef9] at hP hD
  refine lv_aload_n hx hb d_Table_table2_114 rfl (lv_at hl 0 rfl) ?_
  refine zi_sipush hx hb d_Table_table2_115 (by decide) ?_
  refine zi_sipush hx hb d_Table_table2_118 (by decide) ?_
  refine zi_bipush hx hb d_Table_table2_121 (by decide) ?_
  have hPc := hP.sub (ws' := [(tb, .inr (11, [.ref kq, .int (iI (bN utf)), .int (iI (bN ucp)), .int (iI la), .ref mq, .int (iI mz)])), (kq, .inl (E.2.1 0, 12544, .inl f9))]) [0, 1] rfl
  have hDc := hD.sub (ws' := [(tb, .inr (11, [.ref kq, .int (iI (bN utf)), .int (iI (bN ucp)), .int (iI la), .ref mq, .int (iI mz)])), (kq, .inl (E.2.1 0, 12544, .inl f9))]) [0, 1] (by decide) rfl
  have hFc := va_free (wc := [(tb, .inr (11, [.ref kq, .int (iI (bN utf)), .int (iI (bN ucp)), .int (iI la), .ref mq, .int (iI mz)])), (kq, .inl (E.2.1 0, 12544, .inl f9))]) hD hS hA [0, 1] rfl
  refine zcW (va_runV (As := [.int (iI 187), .int (iI 187), .int (iI 14)]) (rest := []) S (c_Table_kinds l E _ tb kq mq utf ucp la mz f9 187 187 14 (by decide) (by decide) (by decide)) ⟨zcwB (n := 3) S zw_883 zw_15 zw_880 (by decide +kernel) rfl rfl ⟨Nat.le_of_ble_eq_true rfl, Nat.le_of_ble_eq_true rfl⟩, S.2.2.2.2 _ zw_882, S.2.2.2.2 _ zs_26⟩ (zPreV hE (hP 0 _ rfl) rfl ⟨rfl, hPc, hDc.weaken (fun _ _ _ h => hA0 _ h), trivial⟩) rfl rfl hl.1 rfl (lv_room (Nat.le_of_ble_eq_true rfl)) d_Table_table2_123 ⟨by (try dsimp only); omega, by (try dsimp only); omega⟩) hS (fun q _ h => hFc q h) hFc (fun v H locs hq hz1 hk1 hS => ?_)
  obtain ⟨rfl, hP1, hD1⟩ := hq
  obtain ⟨hP, hD⟩ := va_join (wr := []) (w1 := [(tb, .inr (11, [.ref kq, .int (iI (bN utf)), .int (iI (bN ucp)), .int (iI la), .ref mq, .int (iI mz)])), (kq, .inl (E.2.1 0, 12544, .inl (rf_set f9 (187, 187, 14))))]) hP hD [0, 1] [] rfl rfl (by decide) (by decide) hk1 hFc hP1 hD1
  have hP : va_P E.1 zcl [(tb, .inr (11, [.ref kq, .int (iI (bN utf)), .int (iI (bN ucp)), .int (iI la), .ref mq, .int (iI mz)])), (kq, .inl (E.2.1 0, 12544, .inl (rf_set f9 (187, 187, 14))))] H := hP
  have hD : va_D A [(tb, .inr (11, [.ref kq, .int (iI (bN utf)), .int (iI (bN ucp)), .int (iI la), .ref mq, .int (iI mz)])), (kq, .inl (E.2.1 0, 12544, .inl (rf_set f9 (187, 187, 14))))] := hD
  have hE := hE0.at hS hA0
  obtain ⟨f10, ef10⟩ : ∃ x, x = rf_set f9 (187, 187, 14) := ⟨_, rfl⟩
  rw [← ef10] at hP hD
  refine lv_aload_n hx hb d_Table_table2_126 rfl (lv_at hl 0 rfl) ?_
  refine zi_sipush hx hb d_Table_table2_127 (by decide) ?_
  refine zi_sipush hx hb d_Table_table2_130 (by decide) ?_
  refine zi_bipush hx hb d_Table_table2_133 (by decide) ?_
  have hPc := hP.sub (ws' := [(tb, .inr (11, [.ref kq, .int (iI (bN utf)), .int (iI (bN ucp)), .int (iI la), .ref mq, .int (iI mz)])), (kq, .inl (E.2.1 0, 12544, .inl f10))]) [0, 1] rfl
  have hDc := hD.sub (ws' := [(tb, .inr (11, [.ref kq, .int (iI (bN utf)), .int (iI (bN ucp)), .int (iI la), .ref mq, .int (iI mz)])), (kq, .inl (E.2.1 0, 12544, .inl f10))]) [0, 1] (by decide) rfl
  have hFc := va_free (wc := [(tb, .inr (11, [.ref kq, .int (iI (bN utf)), .int (iI (bN ucp)), .int (iI la), .ref mq, .int (iI mz)])), (kq, .inl (E.2.1 0, 12544, .inl f10))]) hD hS hA [0, 1] rfl
  refine zcW (va_runV (As := [.int (iI 8217), .int (iI 8217), .int (iI 14)]) (rest := []) S (c_Table_kinds l E _ tb kq mq utf ucp la mz f10 8217 8217 14 (by decide) (by decide) (by decide)) ⟨zcwB (n := 3) S zw_883 zw_15 zw_880 (by decide +kernel) rfl rfl ⟨Nat.le_of_ble_eq_true rfl, Nat.le_of_ble_eq_true rfl⟩, S.2.2.2.2 _ zw_882, S.2.2.2.2 _ zs_26⟩ (zPreV hE (hP 0 _ rfl) rfl ⟨rfl, hPc, hDc.weaken (fun _ _ _ h => hA0 _ h), trivial⟩) rfl rfl hl.1 rfl (lv_room (Nat.le_of_ble_eq_true rfl)) d_Table_table2_135 ⟨by (try dsimp only); omega, by (try dsimp only); omega⟩) hS (fun q _ h => hFc q h) hFc (fun v H locs hq hz1 hk1 hS => ?_)
  obtain ⟨rfl, hP1, hD1⟩ := hq
  obtain ⟨hP, hD⟩ := va_join (wr := []) (w1 := [(tb, .inr (11, [.ref kq, .int (iI (bN utf)), .int (iI (bN ucp)), .int (iI la), .ref mq, .int (iI mz)])), (kq, .inl (E.2.1 0, 12544, .inl (rf_set f10 (8217, 8217, 14))))]) hP hD [0, 1] [] rfl rfl (by decide) (by decide) hk1 hFc hP1 hD1
  have hP : va_P E.1 zcl [(tb, .inr (11, [.ref kq, .int (iI (bN utf)), .int (iI (bN ucp)), .int (iI la), .ref mq, .int (iI mz)])), (kq, .inl (E.2.1 0, 12544, .inl (rf_set f10 (8217, 8217, 14))))] H := hP
  have hD : va_D A [(tb, .inr (11, [.ref kq, .int (iI (bN utf)), .int (iI (bN ucp)), .int (iI la), .ref mq, .int (iI mz)])), (kq, .inl (E.2.1 0, 12544, .inl (rf_set f10 (8217, 8217, 14))))] := hD
  have hE := hE0.at hS hA0
  obtain ⟨f11, ef11⟩ : ∃ x, x = rf_set f10 (8217, 8217, 14) := ⟨_, rfl⟩
  rw [← ef11] at hP hD
  refine lv_aload_n hx hb d_Table_table2_138 rfl (lv_at hl 0 rfl) ?_
  refine zi_sipush hx hb d_Table_table2_139 (by decide) ?_
  refine zi_sipush hx hb d_Table_table2_142 (by decide) ?_
  refine zi_bipush hx hb d_Table_table2_145 (by decide) ?_
  have hPc := hP.sub (ws' := [(tb, .inr (11, [.ref kq, .int (iI (bN utf)), .int (iI (bN ucp)), .int (iI la), .ref mq, .int (iI mz)])), (kq, .inl (E.2.1 0, 12544, .inl f11))]) [0, 1] rfl
  have hDc := hD.sub (ws' := [(tb, .inr (11, [.ref kq, .int (iI (bN utf)), .int (iI (bN ucp)), .int (iI la), .ref mq, .int (iI mz)])), (kq, .inl (E.2.1 0, 12544, .inl f11))]) [0, 1] (by decide) rfl
  have hFc := va_free (wc := [(tb, .inr (11, [.ref kq, .int (iI (bN utf)), .int (iI (bN ucp)), .int (iI la), .ref mq, .int (iI mz)])), (kq, .inl (E.2.1 0, 12544, .inl f11))]) hD hS hA [0, 1] rfl
  refine zcW (va_runV (As := [.int (iI 8221), .int (iI 8221), .int (iI 14)]) (rest := []) S (c_Table_kinds l E _ tb kq mq utf ucp la mz f11 8221 8221 14 (by decide) (by decide) (by decide)) ⟨zcwB (n := 3) S zw_883 zw_15 zw_880 (by decide +kernel) rfl rfl ⟨Nat.le_of_ble_eq_true rfl, Nat.le_of_ble_eq_true rfl⟩, S.2.2.2.2 _ zw_882, S.2.2.2.2 _ zs_26⟩ (zPreV hE (hP 0 _ rfl) rfl ⟨rfl, hPc, hDc.weaken (fun _ _ _ h => hA0 _ h), trivial⟩) rfl rfl hl.1 rfl (lv_room (Nat.le_of_ble_eq_true rfl)) d_Table_table2_147 ⟨by (try dsimp only); omega, by (try dsimp only); omega⟩) hS (fun q _ h => hFc q h) hFc (fun v H locs hq hz1 hk1 hS => ?_)
  obtain ⟨rfl, hP1, hD1⟩ := hq
  obtain ⟨hP, hD⟩ := va_join (wr := []) (w1 := [(tb, .inr (11, [.ref kq, .int (iI (bN utf)), .int (iI (bN ucp)), .int (iI la), .ref mq, .int (iI mz)])), (kq, .inl (E.2.1 0, 12544, .inl (rf_set f11 (8221, 8221, 14))))]) hP hD [0, 1] [] rfl rfl (by decide) (by decide) hk1 hFc hP1 hD1
  have hP : va_P E.1 zcl [(tb, .inr (11, [.ref kq, .int (iI (bN utf)), .int (iI (bN ucp)), .int (iI la), .ref mq, .int (iI mz)])), (kq, .inl (E.2.1 0, 12544, .inl (rf_set f11 (8221, 8221, 14))))] H := hP
  have hD : va_D A [(tb, .inr (11, [.ref kq, .int (iI (bN utf)), .int (iI (bN ucp)), .int (iI la), .ref mq, .int (iI mz)])), (kq, .inl (E.2.1 0, 12544, .inl (rf_set f11 (8221, 8221, 14))))] := hD
  have hE := hE0.at hS hA0
  obtain ⟨f12, ef12⟩ : ∃ x, x = rf_set f11 (8221, 8221, 14) := ⟨_, rfl⟩
  rw [← ef12] at hP hD
  refine lv_aload_n hx hb d_Table_table2_150 rfl (lv_at hl 0 rfl) ?_
  refine zi_sipush hx hb d_Table_table2_151 (by decide) ?_
  refine zi_sipush hx hb d_Table_table2_154 (by decide) ?_
  refine zi_iconst hx hb d_Table_table2_157 ?_
  have hPc := hP.sub (ws' := [(tb, .inr (11, [.ref kq, .int (iI (bN utf)), .int (iI (bN ucp)), .int (iI la), .ref mq, .int (iI mz)])), (kq, .inl (E.2.1 0, 12544, .inl f12))]) [0, 1] rfl
  have hDc := hD.sub (ws' := [(tb, .inr (11, [.ref kq, .int (iI (bN utf)), .int (iI (bN ucp)), .int (iI la), .ref mq, .int (iI mz)])), (kq, .inl (E.2.1 0, 12544, .inl f12))]) [0, 1] (by decide) rfl
  have hFc := va_free (wc := [(tb, .inr (11, [.ref kq, .int (iI (bN utf)), .int (iI (bN ucp)), .int (iI la), .ref mq, .int (iI mz)])), (kq, .inl (E.2.1 0, 12544, .inl f12))]) hD hS hA [0, 1] rfl
  refine zcW (va_runV (As := [.int (iI 173), .int (iI 173), .int (iI 2)]) (rest := []) S (c_Table_kinds l E _ tb kq mq utf ucp la mz f12 173 173 2 (by decide) (by decide) (by decide)) ⟨zcwB (n := 3) S zw_883 zw_15 zw_880 (by decide +kernel) rfl rfl ⟨Nat.le_of_ble_eq_true rfl, Nat.le_of_ble_eq_true rfl⟩, S.2.2.2.2 _ zw_882, S.2.2.2.2 _ zs_26⟩ (zPreV hE (hP 0 _ rfl) rfl ⟨rfl, hPc, hDc.weaken (fun _ _ _ h => hA0 _ h), trivial⟩) rfl rfl hl.1 rfl (lv_room (Nat.le_of_ble_eq_true rfl)) d_Table_table2_158 ⟨by (try dsimp only); omega, by (try dsimp only); omega⟩) hS (fun q _ h => hFc q h) hFc (fun v H locs hq hz1 hk1 hS => ?_)
  obtain ⟨rfl, hP1, hD1⟩ := hq
  obtain ⟨hP, hD⟩ := va_join (wr := []) (w1 := [(tb, .inr (11, [.ref kq, .int (iI (bN utf)), .int (iI (bN ucp)), .int (iI la), .ref mq, .int (iI mz)])), (kq, .inl (E.2.1 0, 12544, .inl (rf_set f12 (173, 173, 2))))]) hP hD [0, 1] [] rfl rfl (by decide) (by decide) hk1 hFc hP1 hD1
  have hP : va_P E.1 zcl [(tb, .inr (11, [.ref kq, .int (iI (bN utf)), .int (iI (bN ucp)), .int (iI la), .ref mq, .int (iI mz)])), (kq, .inl (E.2.1 0, 12544, .inl (rf_set f12 (173, 173, 2))))] H := hP
  have hD : va_D A [(tb, .inr (11, [.ref kq, .int (iI (bN utf)), .int (iI (bN ucp)), .int (iI la), .ref mq, .int (iI mz)])), (kq, .inl (E.2.1 0, 12544, .inl (rf_set f12 (173, 173, 2))))] := hD
  have hE := hE0.at hS hA0
  obtain ⟨f13, ef13⟩ : ∃ x, x = rf_set f12 (173, 173, 2) := ⟨_, rfl⟩
  rw [← ef13] at hP hD
  refine lv_aload_n hx hb d_Table_table2_161 rfl (lv_at hl 0 rfl) ?_
  refine zi_sipush hx hb d_Table_table2_162 (by decide) ?_
  refine zi_sipush hx hb d_Table_table2_165 (by decide) ?_
  refine zi_iconst hx hb d_Table_table2_168 ?_
  have hPc := hP.sub (ws' := [(tb, .inr (11, [.ref kq, .int (iI (bN utf)), .int (iI (bN ucp)), .int (iI la), .ref mq, .int (iI mz)])), (kq, .inl (E.2.1 0, 12544, .inl f13))]) [0, 1] rfl
  have hDc := hD.sub (ws' := [(tb, .inr (11, [.ref kq, .int (iI (bN utf)), .int (iI (bN ucp)), .int (iI la), .ref mq, .int (iI mz)])), (kq, .inl (E.2.1 0, 12544, .inl f13))]) [0, 1] (by decide) rfl
  have hFc := va_free (wc := [(tb, .inr (11, [.ref kq, .int (iI (bN utf)), .int (iI (bN ucp)), .int (iI la), .ref mq, .int (iI mz)])), (kq, .inl (E.2.1 0, 12544, .inl f13))]) hD hS hA [0, 1] rfl
  refine zcW (va_runV (As := [.int (iI 8203), .int (iI 8207), .int (iI 2)]) (rest := []) S (c_Table_kinds l E _ tb kq mq utf ucp la mz f13 8203 8207 2 (by decide) (by decide) (by decide)) ⟨zcwB (n := 3) S zw_883 zw_15 zw_880 (by decide +kernel) rfl rfl ⟨Nat.le_of_ble_eq_true rfl, Nat.le_of_ble_eq_true rfl⟩, S.2.2.2.2 _ zw_882, S.2.2.2.2 _ zs_26⟩ (zPreV hE (hP 0 _ rfl) rfl ⟨rfl, hPc, hDc.weaken (fun _ _ _ h => hA0 _ h), trivial⟩) rfl rfl hl.1 rfl (lv_room (Nat.le_of_ble_eq_true rfl)) d_Table_table2_169 ⟨by (try dsimp only); omega, by (try dsimp only); omega⟩) hS (fun q _ h => hFc q h) hFc (fun v H locs hq hz1 hk1 hS => ?_)
  obtain ⟨rfl, hP1, hD1⟩ := hq
  obtain ⟨hP, hD⟩ := va_join (wr := []) (w1 := [(tb, .inr (11, [.ref kq, .int (iI (bN utf)), .int (iI (bN ucp)), .int (iI la), .ref mq, .int (iI mz)])), (kq, .inl (E.2.1 0, 12544, .inl (rf_set f13 (8203, 8207, 2))))]) hP hD [0, 1] [] rfl rfl (by decide) (by decide) hk1 hFc hP1 hD1
  have hP : va_P E.1 zcl [(tb, .inr (11, [.ref kq, .int (iI (bN utf)), .int (iI (bN ucp)), .int (iI la), .ref mq, .int (iI mz)])), (kq, .inl (E.2.1 0, 12544, .inl (rf_set f13 (8203, 8207, 2))))] H := hP
  have hD : va_D A [(tb, .inr (11, [.ref kq, .int (iI (bN utf)), .int (iI (bN ucp)), .int (iI la), .ref mq, .int (iI mz)])), (kq, .inl (E.2.1 0, 12544, .inl (rf_set f13 (8203, 8207, 2))))] := hD
  have hE := hE0.at hS hA0
  obtain ⟨f14, ef14⟩ : ∃ x, x = rf_set f13 (8203, 8207, 2) := ⟨_, rfl⟩
  rw [← ef14] at hP hD
  refine lv_aload_n hx hb d_Table_table2_172 rfl (lv_at hl 0 rfl) ?_
  refine zi_sipush hx hb d_Table_table2_173 (by decide) ?_
  refine zi_sipush hx hb d_Table_table2_176 (by decide) ?_
  refine zi_bipush hx hb d_Table_table2_179 (by decide) ?_
  have hPc := hP.sub (ws' := [(tb, .inr (11, [.ref kq, .int (iI (bN utf)), .int (iI (bN ucp)), .int (iI la), .ref mq, .int (iI mz)])), (kq, .inl (E.2.1 0, 12544, .inl f14))]) [0, 1] rfl
  have hDc := hD.sub (ws' := [(tb, .inr (11, [.ref kq, .int (iI (bN utf)), .int (iI (bN ucp)), .int (iI la), .ref mq, .int (iI mz)])), (kq, .inl (E.2.1 0, 12544, .inl f14))]) [0, 1] (by decide) rfl
  have hFc := va_free (wc := [(tb, .inr (11, [.ref kq, .int (iI (bN utf)), .int (iI (bN ucp)), .int (iI la), .ref mq, .int (iI mz)])), (kq, .inl (E.2.1 0, 12544, .inl f14))]) hD hS hA [0, 1] rfl
  refine zcW (va_runV (As := [.int (iI 178), .int (iI 179), .int (iI 10)]) (rest := []) S (c_Table_kinds l E _ tb kq mq utf ucp la mz f14 178 179 10 (by decide) (by decide) (by decide)) ⟨zcwB (n := 3) S zw_883 zw_15 zw_880 (by decide +kernel) rfl rfl ⟨Nat.le_of_ble_eq_true rfl, Nat.le_of_ble_eq_true rfl⟩, S.2.2.2.2 _ zw_882, S.2.2.2.2 _ zs_26⟩ (zPreV hE (hP 0 _ rfl) rfl ⟨rfl, hPc, hDc.weaken (fun _ _ _ h => hA0 _ h), trivial⟩) rfl rfl hl.1 rfl (lv_room (Nat.le_of_ble_eq_true rfl)) d_Table_table2_181 ⟨by (try dsimp only); omega, by (try dsimp only); omega⟩) hS (fun q _ h => hFc q h) hFc (fun v H locs hq hz1 hk1 hS => ?_)
  obtain ⟨rfl, hP1, hD1⟩ := hq
  obtain ⟨hP, hD⟩ := va_join (wr := []) (w1 := [(tb, .inr (11, [.ref kq, .int (iI (bN utf)), .int (iI (bN ucp)), .int (iI la), .ref mq, .int (iI mz)])), (kq, .inl (E.2.1 0, 12544, .inl (rf_set f14 (178, 179, 10))))]) hP hD [0, 1] [] rfl rfl (by decide) (by decide) hk1 hFc hP1 hD1
  have hP : va_P E.1 zcl [(tb, .inr (11, [.ref kq, .int (iI (bN utf)), .int (iI (bN ucp)), .int (iI la), .ref mq, .int (iI mz)])), (kq, .inl (E.2.1 0, 12544, .inl (rf_set f14 (178, 179, 10))))] H := hP
  have hD : va_D A [(tb, .inr (11, [.ref kq, .int (iI (bN utf)), .int (iI (bN ucp)), .int (iI la), .ref mq, .int (iI mz)])), (kq, .inl (E.2.1 0, 12544, .inl (rf_set f14 (178, 179, 10))))] := hD
  have hE := hE0.at hS hA0
  obtain ⟨f15, ef15⟩ : ∃ x, x = rf_set f14 (178, 179, 10) := ⟨_, rfl⟩
  rw [← ef15] at hP hD
  refine lv_aload_n hx hb d_Table_table2_184 rfl (lv_at hl 0 rfl) ?_
  refine zi_sipush hx hb d_Table_table2_185 (by decide) ?_
  refine zi_sipush hx hb d_Table_table2_188 (by decide) ?_
  refine zi_bipush hx hb d_Table_table2_191 (by decide) ?_
  have hPc := hP.sub (ws' := [(tb, .inr (11, [.ref kq, .int (iI (bN utf)), .int (iI (bN ucp)), .int (iI la), .ref mq, .int (iI mz)])), (kq, .inl (E.2.1 0, 12544, .inl f15))]) [0, 1] rfl
  have hDc := hD.sub (ws' := [(tb, .inr (11, [.ref kq, .int (iI (bN utf)), .int (iI (bN ucp)), .int (iI la), .ref mq, .int (iI mz)])), (kq, .inl (E.2.1 0, 12544, .inl f15))]) [0, 1] (by decide) rfl
  have hFc := va_free (wc := [(tb, .inr (11, [.ref kq, .int (iI (bN utf)), .int (iI (bN ucp)), .int (iI la), .ref mq, .int (iI mz)])), (kq, .inl (E.2.1 0, 12544, .inl f15))]) hD hS hA [0, 1] rfl
  refine zcW (va_runV (As := [.int (iI 185), .int (iI 185), .int (iI 10)]) (rest := []) S (c_Table_kinds l E _ tb kq mq utf ucp la mz f15 185 185 10 (by decide) (by decide) (by decide)) ⟨zcwB (n := 3) S zw_883 zw_15 zw_880 (by decide +kernel) rfl rfl ⟨Nat.le_of_ble_eq_true rfl, Nat.le_of_ble_eq_true rfl⟩, S.2.2.2.2 _ zw_882, S.2.2.2.2 _ zs_26⟩ (zPreV hE (hP 0 _ rfl) rfl ⟨rfl, hPc, hDc.weaken (fun _ _ _ h => hA0 _ h), trivial⟩) rfl rfl hl.1 rfl (lv_room (Nat.le_of_ble_eq_true rfl)) d_Table_table2_193 ⟨by (try dsimp only); omega, by (try dsimp only); omega⟩) hS (fun q _ h => hFc q h) hFc (fun v H locs hq hz1 hk1 hS => ?_)
  obtain ⟨rfl, hP1, hD1⟩ := hq
  obtain ⟨hP, hD⟩ := va_join (wr := []) (w1 := [(tb, .inr (11, [.ref kq, .int (iI (bN utf)), .int (iI (bN ucp)), .int (iI la), .ref mq, .int (iI mz)])), (kq, .inl (E.2.1 0, 12544, .inl (rf_set f15 (185, 185, 10))))]) hP hD [0, 1] [] rfl rfl (by decide) (by decide) hk1 hFc hP1 hD1
  have hP : va_P E.1 zcl [(tb, .inr (11, [.ref kq, .int (iI (bN utf)), .int (iI (bN ucp)), .int (iI la), .ref mq, .int (iI mz)])), (kq, .inl (E.2.1 0, 12544, .inl (rf_set f15 (185, 185, 10))))] H := hP
  have hD : va_D A [(tb, .inr (11, [.ref kq, .int (iI (bN utf)), .int (iI (bN ucp)), .int (iI la), .ref mq, .int (iI mz)])), (kq, .inl (E.2.1 0, 12544, .inl (rf_set f15 (185, 185, 10))))] := hD
  have hE := hE0.at hS hA0
  obtain ⟨f16, ef16⟩ : ∃ x, x = rf_set f15 (185, 185, 10) := ⟨_, rfl⟩
  rw [← ef16] at hP hD
  refine lv_aload_n hx hb d_Table_table2_196 rfl (lv_at hl 0 rfl) ?_
  refine zi_sipush hx hb d_Table_table2_197 (by decide) ?_
  refine zi_sipush hx hb d_Table_table2_200 (by decide) ?_
  refine zi_bipush hx hb d_Table_table2_203 (by decide) ?_
  have hPc := hP.sub (ws' := [(tb, .inr (11, [.ref kq, .int (iI (bN utf)), .int (iI (bN ucp)), .int (iI la), .ref mq, .int (iI mz)])), (kq, .inl (E.2.1 0, 12544, .inl f16))]) [0, 1] rfl
  have hDc := hD.sub (ws' := [(tb, .inr (11, [.ref kq, .int (iI (bN utf)), .int (iI (bN ucp)), .int (iI la), .ref mq, .int (iI mz)])), (kq, .inl (E.2.1 0, 12544, .inl f16))]) [0, 1] (by decide) rfl
  have hFc := va_free (wc := [(tb, .inr (11, [.ref kq, .int (iI (bN utf)), .int (iI (bN ucp)), .int (iI la), .ref mq, .int (iI mz)])), (kq, .inl (E.2.1 0, 12544, .inl f16))]) hD hS hA [0, 1] rfl
  refine zcW (va_runV (As := [.int (iI 188), .int (iI 190), .int (iI 10)]) (rest := []) S (c_Table_kinds l E _ tb kq mq utf ucp la mz f16 188 190 10 (by decide) (by decide) (by decide)) ⟨zcwB (n := 3) S zw_883 zw_15 zw_880 (by decide +kernel) rfl rfl ⟨Nat.le_of_ble_eq_true rfl, Nat.le_of_ble_eq_true rfl⟩, S.2.2.2.2 _ zw_882, S.2.2.2.2 _ zs_26⟩ (zPreV hE (hP 0 _ rfl) rfl ⟨rfl, hPc, hDc.weaken (fun _ _ _ h => hA0 _ h), trivial⟩) rfl rfl hl.1 rfl (lv_room (Nat.le_of_ble_eq_true rfl)) d_Table_table2_205 ⟨by (try dsimp only); omega, by (try dsimp only); omega⟩) hS (fun q _ h => hFc q h) hFc (fun v H locs hq hz1 hk1 hS => ?_)
  obtain ⟨rfl, hP1, hD1⟩ := hq
  obtain ⟨hP, hD⟩ := va_join (wr := []) (w1 := [(tb, .inr (11, [.ref kq, .int (iI (bN utf)), .int (iI (bN ucp)), .int (iI la), .ref mq, .int (iI mz)])), (kq, .inl (E.2.1 0, 12544, .inl (rf_set f16 (188, 190, 10))))]) hP hD [0, 1] [] rfl rfl (by decide) (by decide) hk1 hFc hP1 hD1
  have hP : va_P E.1 zcl [(tb, .inr (11, [.ref kq, .int (iI (bN utf)), .int (iI (bN ucp)), .int (iI la), .ref mq, .int (iI mz)])), (kq, .inl (E.2.1 0, 12544, .inl (rf_set f16 (188, 190, 10))))] H := hP
  have hD : va_D A [(tb, .inr (11, [.ref kq, .int (iI (bN utf)), .int (iI (bN ucp)), .int (iI la), .ref mq, .int (iI mz)])), (kq, .inl (E.2.1 0, 12544, .inl (rf_set f16 (188, 190, 10))))] := hD
  have hE := hE0.at hS hA0
  obtain ⟨f17, ef17⟩ : ∃ x, x = rf_set f16 (188, 190, 10) := ⟨_, rfl⟩
  rw [← ef17] at hP hD
  refine lv_aload_n hx hb d_Table_table2_208 rfl (lv_at hl 0 rfl) ?_
  refine zi_sipush hx hb d_Table_table2_209 (by decide) ?_
  refine zi_sipush hx hb d_Table_table2_212 (by decide) ?_
  refine zi_bipush hx hb d_Table_table2_215 (by decide) ?_
  have hPc := hP.sub (ws' := [(tb, .inr (11, [.ref kq, .int (iI (bN utf)), .int (iI (bN ucp)), .int (iI la), .ref mq, .int (iI mz)])), (kq, .inl (E.2.1 0, 12544, .inl f17))]) [0, 1] rfl
  have hDc := hD.sub (ws' := [(tb, .inr (11, [.ref kq, .int (iI (bN utf)), .int (iI (bN ucp)), .int (iI la), .ref mq, .int (iI mz)])), (kq, .inl (E.2.1 0, 12544, .inl f17))]) [0, 1] (by decide) rfl
  have hFc := va_free (wc := [(tb, .inr (11, [.ref kq, .int (iI (bN utf)), .int (iI (bN ucp)), .int (iI la), .ref mq, .int (iI mz)])), (kq, .inl (E.2.1 0, 12544, .inl f17))]) hD hS hA [0, 1] rfl
  refine zcW (va_runV (As := [.int (iI 8544), .int (iI 8559), .int (iI 9)]) (rest := []) S (c_Table_kinds l E _ tb kq mq utf ucp la mz f17 8544 8559 9 (by decide) (by decide) (by decide)) ⟨zcwB (n := 3) S zw_883 zw_15 zw_880 (by decide +kernel) rfl rfl ⟨Nat.le_of_ble_eq_true rfl, Nat.le_of_ble_eq_true rfl⟩, S.2.2.2.2 _ zw_882, S.2.2.2.2 _ zs_26⟩ (zPreV hE (hP 0 _ rfl) rfl ⟨rfl, hPc, hDc.weaken (fun _ _ _ h => hA0 _ h), trivial⟩) rfl rfl hl.1 rfl (lv_room (Nat.le_of_ble_eq_true rfl)) d_Table_table2_217 ⟨by (try dsimp only); omega, by (try dsimp only); omega⟩) hS (fun q _ h => hFc q h) hFc (fun v H locs hq hz1 hk1 hS => ?_)
  obtain ⟨rfl, hP1, hD1⟩ := hq
  obtain ⟨hP, hD⟩ := va_join (wr := []) (w1 := [(tb, .inr (11, [.ref kq, .int (iI (bN utf)), .int (iI (bN ucp)), .int (iI la), .ref mq, .int (iI mz)])), (kq, .inl (E.2.1 0, 12544, .inl (rf_set f17 (8544, 8559, 9))))]) hP hD [0, 1] [] rfl rfl (by decide) (by decide) hk1 hFc hP1 hD1
  have hP : va_P E.1 zcl [(tb, .inr (11, [.ref kq, .int (iI (bN utf)), .int (iI (bN ucp)), .int (iI la), .ref mq, .int (iI mz)])), (kq, .inl (E.2.1 0, 12544, .inl (rf_set f17 (8544, 8559, 9))))] H := hP
  have hD : va_D A [(tb, .inr (11, [.ref kq, .int (iI (bN utf)), .int (iI (bN ucp)), .int (iI la), .ref mq, .int (iI mz)])), (kq, .inl (E.2.1 0, 12544, .inl (rf_set f17 (8544, 8559, 9))))] := hD
  have hE := hE0.at hS hA0
  obtain ⟨f18, ef18⟩ : ∃ x, x = rf_set f17 (8544, 8559, 9) := ⟨_, rfl⟩
  rw [← ef18] at hP hD
  refine lv_aload_n hx hb d_Table_table2_220 rfl (lv_at hl 0 rfl) ?_
  refine zi_sipush hx hb d_Table_table2_221 (by decide) ?_
  refine zi_sipush hx hb d_Table_table2_224 (by decide) ?_
  refine zi_bipush hx hb d_Table_table2_227 (by decide) ?_
  have hPc := hP.sub (ws' := [(tb, .inr (11, [.ref kq, .int (iI (bN utf)), .int (iI (bN ucp)), .int (iI la), .ref mq, .int (iI mz)])), (kq, .inl (E.2.1 0, 12544, .inl f18))]) [0, 1] rfl
  have hDc := hD.sub (ws' := [(tb, .inr (11, [.ref kq, .int (iI (bN utf)), .int (iI (bN ucp)), .int (iI la), .ref mq, .int (iI mz)])), (kq, .inl (E.2.1 0, 12544, .inl f18))]) [0, 1] (by decide) rfl
  have hFc := va_free (wc := [(tb, .inr (11, [.ref kq, .int (iI (bN utf)), .int (iI (bN ucp)), .int (iI la), .ref mq, .int (iI mz)])), (kq, .inl (E.2.1 0, 12544, .inl f18))]) hD hS hA [0, 1] rfl
  refine zcW (va_runV (As := [.int (iI 768), .int (iI 879), .int (iI 7)]) (rest := []) S (c_Table_kinds l E _ tb kq mq utf ucp la mz f18 768 879 7 (by decide) (by decide) (by decide)) ⟨zcwB (n := 3) S zw_883 zw_15 zw_880 (by decide +kernel) rfl rfl ⟨Nat.le_of_ble_eq_true rfl, Nat.le_of_ble_eq_true rfl⟩, S.2.2.2.2 _ zw_882, S.2.2.2.2 _ zs_26⟩ (zPreV hE (hP 0 _ rfl) rfl ⟨rfl, hPc, hDc.weaken (fun _ _ _ h => hA0 _ h), trivial⟩) rfl rfl hl.1 rfl (lv_room (Nat.le_of_ble_eq_true rfl)) d_Table_table2_229 ⟨by (try dsimp only); omega, by (try dsimp only); omega⟩) hS (fun q _ h => hFc q h) hFc (fun v H locs hq hz1 hk1 hS => ?_)
  obtain ⟨rfl, hP1, hD1⟩ := hq
  obtain ⟨hP, hD⟩ := va_join (wr := []) (w1 := [(tb, .inr (11, [.ref kq, .int (iI (bN utf)), .int (iI (bN ucp)), .int (iI la), .ref mq, .int (iI mz)])), (kq, .inl (E.2.1 0, 12544, .inl (rf_set f18 (768, 879, 7))))]) hP hD [0, 1] [] rfl rfl (by decide) (by decide) hk1 hFc hP1 hD1
  have hP : va_P E.1 zcl [(tb, .inr (11, [.ref kq, .int (iI (bN utf)), .int (iI (bN ucp)), .int (iI la), .ref mq, .int (iI mz)])), (kq, .inl (E.2.1 0, 12544, .inl (rf_set f18 (768, 879, 7))))] H := hP
  have hD : va_D A [(tb, .inr (11, [.ref kq, .int (iI (bN utf)), .int (iI (bN ucp)), .int (iI la), .ref mq, .int (iI mz)])), (kq, .inl (E.2.1 0, 12544, .inl (rf_set f18 (768, 879, 7))))] := hD
  have hE := hE0.at hS hA0
  obtain ⟨f19, ef19⟩ : ∃ x, x = rf_set f18 (768, 879, 7) := ⟨_, rfl⟩
  rw [← ef19] at hP hD
  refine lv_aload_n hx hb d_Table_table2_232 rfl (lv_at hl 0 rfl) ?_
  refine zi_bipush hx hb d_Table_table2_233 (by decide) ?_
  refine zi_bipush hx hb d_Table_table2_235 (by decide) ?_
  refine zi_iconst hx hb d_Table_table2_237 ?_
  have hPc := hP.sub (ws' := [(tb, .inr (11, [.ref kq, .int (iI (bN utf)), .int (iI (bN ucp)), .int (iI la), .ref mq, .int (iI mz)])), (kq, .inl (E.2.1 0, 12544, .inl f19))]) [0, 1] rfl
  have hDc := hD.sub (ws' := [(tb, .inr (11, [.ref kq, .int (iI (bN utf)), .int (iI (bN ucp)), .int (iI la), .ref mq, .int (iI mz)])), (kq, .inl (E.2.1 0, 12544, .inl f19))]) [0, 1] (by decide) rfl
  have hFc := va_free (wc := [(tb, .inr (11, [.ref kq, .int (iI (bN utf)), .int (iI (bN ucp)), .int (iI la), .ref mq, .int (iI mz)])), (kq, .inl (E.2.1 0, 12544, .inl f19))]) hD hS hA [0, 1] rfl
  refine zcW (va_runV (As := [.int (iI 97), .int (iI 122), .int (iI 4)]) (rest := []) S (c_Table_kinds l E _ tb kq mq utf ucp la mz f19 97 122 4 (by decide) (by decide) (by decide)) ⟨zcwB (n := 3) S zw_883 zw_15 zw_880 (by decide +kernel) rfl rfl ⟨Nat.le_of_ble_eq_true rfl, Nat.le_of_ble_eq_true rfl⟩, S.2.2.2.2 _ zw_882, S.2.2.2.2 _ zs_26⟩ (zPreV hE (hP 0 _ rfl) rfl ⟨rfl, hPc, hDc.weaken (fun _ _ _ h => hA0 _ h), trivial⟩) rfl rfl hl.1 rfl (lv_room (Nat.le_of_ble_eq_true rfl)) d_Table_table2_238 ⟨by (try dsimp only); omega, by (try dsimp only); omega⟩) hS (fun q _ h => hFc q h) hFc (fun v H locs hq hz1 hk1 hS => ?_)
  obtain ⟨rfl, hP1, hD1⟩ := hq
  obtain ⟨hP, hD⟩ := va_join (wr := []) (w1 := [(tb, .inr (11, [.ref kq, .int (iI (bN utf)), .int (iI (bN ucp)), .int (iI la), .ref mq, .int (iI mz)])), (kq, .inl (E.2.1 0, 12544, .inl (rf_set f19 (97, 122, 4))))]) hP hD [0, 1] [] rfl rfl (by decide) (by decide) hk1 hFc hP1 hD1
  have hP : va_P E.1 zcl [(tb, .inr (11, [.ref kq, .int (iI (bN utf)), .int (iI (bN ucp)), .int (iI la), .ref mq, .int (iI mz)])), (kq, .inl (E.2.1 0, 12544, .inl (rf_set f19 (97, 122, 4))))] H := hP
  have hD : va_D A [(tb, .inr (11, [.ref kq, .int (iI (bN utf)), .int (iI (bN ucp)), .int (iI la), .ref mq, .int (iI mz)])), (kq, .inl (E.2.1 0, 12544, .inl (rf_set f19 (97, 122, 4))))] := hD
  have hE := hE0.at hS hA0
  obtain ⟨f20, ef20⟩ : ∃ x, x = rf_set f19 (97, 122, 4) := ⟨_, rfl⟩
  rw [← ef20] at hP hD
  refine lv_aload_n hx hb d_Table_table2_241 rfl (lv_at hl 0 rfl) ?_
  refine zi_sipush hx hb d_Table_table2_242 (by decide) ?_
  refine zi_sipush hx hb d_Table_table2_245 (by decide) ?_
  refine zi_iconst hx hb d_Table_table2_248 ?_
  have hPc := hP.sub (ws' := [(tb, .inr (11, [.ref kq, .int (iI (bN utf)), .int (iI (bN ucp)), .int (iI la), .ref mq, .int (iI mz)])), (kq, .inl (E.2.1 0, 12544, .inl f20))]) [0, 1] rfl
  have hDc := hD.sub (ws' := [(tb, .inr (11, [.ref kq, .int (iI (bN utf)), .int (iI (bN ucp)), .int (iI la), .ref mq, .int (iI mz)])), (kq, .inl (E.2.1 0, 12544, .inl f20))]) [0, 1] (by decide) rfl
  have hFc := va_free (wc := [(tb, .inr (11, [.ref kq, .int (iI (bN utf)), .int (iI (bN ucp)), .int (iI la), .ref mq, .int (iI mz)])), (kq, .inl (E.2.1 0, 12544, .inl f20))]) hD hS hA [0, 1] rfl
  refine zcW (va_runV (As := [.int (iI 181), .int (iI 181), .int (iI 4)]) (rest := []) S (c_Table_kinds l E _ tb kq mq utf ucp la mz f20 181 181 4 (by decide) (by decide) (by decide)) ⟨zcwB (n := 3) S zw_883 zw_15 zw_880 (by decide +kernel) rfl rfl ⟨Nat.le_of_ble_eq_true rfl, Nat.le_of_ble_eq_true rfl⟩, S.2.2.2.2 _ zw_882, S.2.2.2.2 _ zs_26⟩ (zPreV hE (hP 0 _ rfl) rfl ⟨rfl, hPc, hDc.weaken (fun _ _ _ h => hA0 _ h), trivial⟩) rfl rfl hl.1 rfl (lv_room (Nat.le_of_ble_eq_true rfl)) d_Table_table2_249 ⟨by (try dsimp only); omega, by (try dsimp only); omega⟩) hS (fun q _ h => hFc q h) hFc (fun v H locs hq hz1 hk1 hS => ?_)
  obtain ⟨rfl, hP1, hD1⟩ := hq
  obtain ⟨hP, hD⟩ := va_join (wr := []) (w1 := [(tb, .inr (11, [.ref kq, .int (iI (bN utf)), .int (iI (bN ucp)), .int (iI la), .ref mq, .int (iI mz)])), (kq, .inl (E.2.1 0, 12544, .inl (rf_set f20 (181, 181, 4))))]) hP hD [0, 1] [] rfl rfl (by decide) (by decide) hk1 hFc hP1 hD1
  have hP : va_P E.1 zcl [(tb, .inr (11, [.ref kq, .int (iI (bN utf)), .int (iI (bN ucp)), .int (iI la), .ref mq, .int (iI mz)])), (kq, .inl (E.2.1 0, 12544, .inl (rf_set f20 (181, 181, 4))))] H := hP
  have hD : va_D A [(tb, .inr (11, [.ref kq, .int (iI (bN utf)), .int (iI (bN ucp)), .int (iI la), .ref mq, .int (iI mz)])), (kq, .inl (E.2.1 0, 12544, .inl (rf_set f20 (181, 181, 4))))] := hD
  have hE := hE0.at hS hA0
  obtain ⟨f21, ef21⟩ : ∃ x, x = rf_set f20 (181, 181, 4) := ⟨_, rfl⟩
  rw [← ef21] at hP hD
  refine lv_aload_n hx hb d_Table_table2_252 rfl (lv_at hl 0 rfl) ?_
  refine zi_sipush hx hb d_Table_table2_253 (by decide) ?_
  refine zi_sipush hx hb d_Table_table2_256 (by decide) ?_
  refine zi_iconst hx hb d_Table_table2_259 ?_
  have hPc := hP.sub (ws' := [(tb, .inr (11, [.ref kq, .int (iI (bN utf)), .int (iI (bN ucp)), .int (iI la), .ref mq, .int (iI mz)])), (kq, .inl (E.2.1 0, 12544, .inl f21))]) [0, 1] rfl
  have hDc := hD.sub (ws' := [(tb, .inr (11, [.ref kq, .int (iI (bN utf)), .int (iI (bN ucp)), .int (iI la), .ref mq, .int (iI mz)])), (kq, .inl (E.2.1 0, 12544, .inl f21))]) [0, 1] (by decide) rfl
  have hFc := va_free (wc := [(tb, .inr (11, [.ref kq, .int (iI (bN utf)), .int (iI (bN ucp)), .int (iI la), .ref mq, .int (iI mz)])), (kq, .inl (E.2.1 0, 12544, .inl f21))]) hD hS hA [0, 1] rfl
  refine zcW (va_runV (As := [.int (iI 223), .int (iI 246), .int (iI 4)]) (rest := []) S (c_Table_kinds l E _ tb kq mq utf ucp la mz f21 223 246 4 (by decide) (by decide) (by decide)) ⟨zcwB (n := 3) S zw_883 zw_15 zw_880 (by decide +kernel) rfl rfl ⟨Nat.le_of_ble_eq_true rfl, Nat.le_of_ble_eq_true rfl⟩, S.2.2.2.2 _ zw_882, S.2.2.2.2 _ zs_26⟩ (zPreV hE (hP 0 _ rfl) rfl ⟨rfl, hPc, hDc.weaken (fun _ _ _ h => hA0 _ h), trivial⟩) rfl rfl hl.1 rfl (lv_room (Nat.le_of_ble_eq_true rfl)) d_Table_table2_260 ⟨by (try dsimp only); omega, by (try dsimp only); omega⟩) hS (fun q _ h => hFc q h) hFc (fun v H locs hq hz1 hk1 hS => ?_)
  obtain ⟨rfl, hP1, hD1⟩ := hq
  obtain ⟨hP, hD⟩ := va_join (wr := []) (w1 := [(tb, .inr (11, [.ref kq, .int (iI (bN utf)), .int (iI (bN ucp)), .int (iI la), .ref mq, .int (iI mz)])), (kq, .inl (E.2.1 0, 12544, .inl (rf_set f21 (223, 246, 4))))]) hP hD [0, 1] [] rfl rfl (by decide) (by decide) hk1 hFc hP1 hD1
  have hP : va_P E.1 zcl [(tb, .inr (11, [.ref kq, .int (iI (bN utf)), .int (iI (bN ucp)), .int (iI la), .ref mq, .int (iI mz)])), (kq, .inl (E.2.1 0, 12544, .inl (rf_set f21 (223, 246, 4))))] H := hP
  have hD : va_D A [(tb, .inr (11, [.ref kq, .int (iI (bN utf)), .int (iI (bN ucp)), .int (iI la), .ref mq, .int (iI mz)])), (kq, .inl (E.2.1 0, 12544, .inl (rf_set f21 (223, 246, 4))))] := hD
  have hE := hE0.at hS hA0
  obtain ⟨f22, ef22⟩ : ∃ x, x = rf_set f21 (223, 246, 4) := ⟨_, rfl⟩
  rw [← ef22] at hP hD
  refine lv_aload_n hx hb d_Table_table2_263 rfl (lv_at hl 0 rfl) ?_
  refine zi_sipush hx hb d_Table_table2_264 (by decide) ?_
  refine zi_sipush hx hb d_Table_table2_267 (by decide) ?_
  refine zi_iconst hx hb d_Table_table2_270 ?_
  have hPc := hP.sub (ws' := [(tb, .inr (11, [.ref kq, .int (iI (bN utf)), .int (iI (bN ucp)), .int (iI la), .ref mq, .int (iI mz)])), (kq, .inl (E.2.1 0, 12544, .inl f22))]) [0, 1] rfl
  have hDc := hD.sub (ws' := [(tb, .inr (11, [.ref kq, .int (iI (bN utf)), .int (iI (bN ucp)), .int (iI la), .ref mq, .int (iI mz)])), (kq, .inl (E.2.1 0, 12544, .inl f22))]) [0, 1] (by decide) rfl
  have hFc := va_free (wc := [(tb, .inr (11, [.ref kq, .int (iI (bN utf)), .int (iI (bN ucp)), .int (iI la), .ref mq, .int (iI mz)])), (kq, .inl (E.2.1 0, 12544, .inl f22))]) hD hS hA [0, 1] rfl
  refine zcW (va_runV (As := [.int (iI 248), .int (iI 255), .int (iI 4)]) (rest := []) S (c_Table_kinds l E _ tb kq mq utf ucp la mz f22 248 255 4 (by decide) (by decide) (by decide)) ⟨zcwB (n := 3) S zw_883 zw_15 zw_880 (by decide +kernel) rfl rfl ⟨Nat.le_of_ble_eq_true rfl, Nat.le_of_ble_eq_true rfl⟩, S.2.2.2.2 _ zw_882, S.2.2.2.2 _ zs_26⟩ (zPreV hE (hP 0 _ rfl) rfl ⟨rfl, hPc, hDc.weaken (fun _ _ _ h => hA0 _ h), trivial⟩) rfl rfl hl.1 rfl (lv_room (Nat.le_of_ble_eq_true rfl)) d_Table_table2_271 ⟨by (try dsimp only); omega, by (try dsimp only); omega⟩) hS (fun q _ h => hFc q h) hFc (fun v H locs hq hz1 hk1 hS => ?_)
  obtain ⟨rfl, hP1, hD1⟩ := hq
  obtain ⟨hP, hD⟩ := va_join (wr := []) (w1 := [(tb, .inr (11, [.ref kq, .int (iI (bN utf)), .int (iI (bN ucp)), .int (iI la), .ref mq, .int (iI mz)])), (kq, .inl (E.2.1 0, 12544, .inl (rf_set f22 (248, 255, 4))))]) hP hD [0, 1] [] rfl rfl (by decide) (by decide) hk1 hFc hP1 hD1
  have hP : va_P E.1 zcl [(tb, .inr (11, [.ref kq, .int (iI (bN utf)), .int (iI (bN ucp)), .int (iI la), .ref mq, .int (iI mz)])), (kq, .inl (E.2.1 0, 12544, .inl (rf_set f22 (248, 255, 4))))] H := hP
  have hD : va_D A [(tb, .inr (11, [.ref kq, .int (iI (bN utf)), .int (iI (bN ucp)), .int (iI la), .ref mq, .int (iI mz)])), (kq, .inl (E.2.1 0, 12544, .inl (rf_set f22 (248, 255, 4))))] := hD
  have hE := hE0.at hS hA0
  obtain ⟨f23, ef23⟩ : ∃ x, x = rf_set f22 (248, 255, 4) := ⟨_, rfl⟩
  rw [← ef23] at hP hD
  refine lv_aload_n hx hb d_Table_table2_274 rfl (lv_at hl 0 rfl) ?_
  refine zi_sipush hx hb d_Table_table2_275 (by decide) ?_
  refine zi_sipush hx hb d_Table_table2_278 (by decide) ?_
  refine zi_iconst hx hb d_Table_table2_281 ?_
  have hPc := hP.sub (ws' := [(tb, .inr (11, [.ref kq, .int (iI (bN utf)), .int (iI (bN ucp)), .int (iI la), .ref mq, .int (iI mz)])), (kq, .inl (E.2.1 0, 12544, .inl f23))]) [0, 1] rfl
  have hDc := hD.sub (ws' := [(tb, .inr (11, [.ref kq, .int (iI (bN utf)), .int (iI (bN ucp)), .int (iI la), .ref mq, .int (iI mz)])), (kq, .inl (E.2.1 0, 12544, .inl f23))]) [0, 1] (by decide) rfl
  have hFc := va_free (wc := [(tb, .inr (11, [.ref kq, .int (iI (bN utf)), .int (iI (bN ucp)), .int (iI la), .ref mq, .int (iI mz)])), (kq, .inl (E.2.1 0, 12544, .inl f23))]) hD hS hA [0, 1] rfl
  refine zcW (va_runV (As := [.int (iI 945), .int (iI 969), .int (iI 4)]) (rest := []) S (c_Table_kinds l E _ tb kq mq utf ucp la mz f23 945 969 4 (by decide) (by decide) (by decide)) ⟨zcwB (n := 3) S zw_883 zw_15 zw_880 (by decide +kernel) rfl rfl ⟨Nat.le_of_ble_eq_true rfl, Nat.le_of_ble_eq_true rfl⟩, S.2.2.2.2 _ zw_882, S.2.2.2.2 _ zs_26⟩ (zPreV hE (hP 0 _ rfl) rfl ⟨rfl, hPc, hDc.weaken (fun _ _ _ h => hA0 _ h), trivial⟩) rfl rfl hl.1 rfl (lv_room (Nat.le_of_ble_eq_true rfl)) d_Table_table2_282 ⟨by (try dsimp only); omega, by (try dsimp only); omega⟩) hS (fun q _ h => hFc q h) hFc (fun v H locs hq hz1 hk1 hS => ?_)
  obtain ⟨rfl, hP1, hD1⟩ := hq
  obtain ⟨hP, hD⟩ := va_join (wr := []) (w1 := [(tb, .inr (11, [.ref kq, .int (iI (bN utf)), .int (iI (bN ucp)), .int (iI la), .ref mq, .int (iI mz)])), (kq, .inl (E.2.1 0, 12544, .inl (rf_set f23 (945, 969, 4))))]) hP hD [0, 1] [] rfl rfl (by decide) (by decide) hk1 hFc hP1 hD1
  have hP : va_P E.1 zcl [(tb, .inr (11, [.ref kq, .int (iI (bN utf)), .int (iI (bN ucp)), .int (iI la), .ref mq, .int (iI mz)])), (kq, .inl (E.2.1 0, 12544, .inl (rf_set f23 (945, 969, 4))))] H := hP
  have hD : va_D A [(tb, .inr (11, [.ref kq, .int (iI (bN utf)), .int (iI (bN ucp)), .int (iI la), .ref mq, .int (iI mz)])), (kq, .inl (E.2.1 0, 12544, .inl (rf_set f23 (945, 969, 4))))] := hD
  have hE := hE0.at hS hA0
  obtain ⟨f24, ef24⟩ : ∃ x, x = rf_set f23 (945, 969, 4) := ⟨_, rfl⟩
  rw [← ef24] at hP hD
  refine lv_aload_n hx hb d_Table_table2_285 rfl (lv_at hl 0 rfl) ?_
  refine zi_sipush hx hb d_Table_table2_286 (by decide) ?_
  refine zi_sipush hx hb d_Table_table2_289 (by decide) ?_
  refine zi_iconst hx hb d_Table_table2_292 ?_
  have hPc := hP.sub (ws' := [(tb, .inr (11, [.ref kq, .int (iI (bN utf)), .int (iI (bN ucp)), .int (iI la), .ref mq, .int (iI mz)])), (kq, .inl (E.2.1 0, 12544, .inl f24))]) [0, 1] rfl
  have hDc := hD.sub (ws' := [(tb, .inr (11, [.ref kq, .int (iI (bN utf)), .int (iI (bN ucp)), .int (iI la), .ref mq, .int (iI mz)])), (kq, .inl (E.2.1 0, 12544, .inl f24))]) [0, 1] (by decide) rfl
  have hFc := va_free (wc := [(tb, .inr (11, [.ref kq, .int (iI (bN utf)), .int (iI (bN ucp)), .int (iI la), .ref mq, .int (iI mz)])), (kq, .inl (E.2.1 0, 12544, .inl f24))]) hD hS hA [0, 1] rfl
  refine zcW (va_runV (As := [.int (iI 1072), .int (iI 1119), .int (iI 4)]) (rest := []) S (c_Table_kinds l E _ tb kq mq utf ucp la mz f24 1072 1119 4 (by decide) (by decide) (by decide)) ⟨zcwB (n := 3) S zw_883 zw_15 zw_880 (by decide +kernel) rfl rfl ⟨Nat.le_of_ble_eq_true rfl, Nat.le_of_ble_eq_true rfl⟩, S.2.2.2.2 _ zw_882, S.2.2.2.2 _ zs_26⟩ (zPreV hE (hP 0 _ rfl) rfl ⟨rfl, hPc, hDc.weaken (fun _ _ _ h => hA0 _ h), trivial⟩) rfl rfl hl.1 rfl (lv_room (Nat.le_of_ble_eq_true rfl)) d_Table_table2_293 ⟨by (try dsimp only); omega, by (try dsimp only); omega⟩) hS (fun q _ h => hFc q h) hFc (fun v H locs hq hz1 hk1 hS => ?_)
  obtain ⟨rfl, hP1, hD1⟩ := hq
  obtain ⟨hP, hD⟩ := va_join (wr := []) (w1 := [(tb, .inr (11, [.ref kq, .int (iI (bN utf)), .int (iI (bN ucp)), .int (iI la), .ref mq, .int (iI mz)])), (kq, .inl (E.2.1 0, 12544, .inl (rf_set f24 (1072, 1119, 4))))]) hP hD [0, 1] [] rfl rfl (by decide) (by decide) hk1 hFc hP1 hD1
  have hP : va_P E.1 zcl [(tb, .inr (11, [.ref kq, .int (iI (bN utf)), .int (iI (bN ucp)), .int (iI la), .ref mq, .int (iI mz)])), (kq, .inl (E.2.1 0, 12544, .inl (rf_set f24 (1072, 1119, 4))))] H := hP
  have hD : va_D A [(tb, .inr (11, [.ref kq, .int (iI (bN utf)), .int (iI (bN ucp)), .int (iI la), .ref mq, .int (iI mz)])), (kq, .inl (E.2.1 0, 12544, .inl (rf_set f24 (1072, 1119, 4))))] := hD
  have hE := hE0.at hS hA0
  obtain ⟨f25, ef25⟩ : ∃ x, x = rf_set f24 (1072, 1119, 4) := ⟨_, rfl⟩
  rw [← ef25] at hP hD
  refine lv_aload_n hx hb d_Table_table2_296 rfl (lv_at hl 0 rfl) ?_
  refine zi_sipush hx hb d_Table_table2_297 (by decide) ?_
  refine zi_sipush hx hb d_Table_table2_300 (by decide) ?_
  refine zi_iconst hx hb d_Table_table2_303 ?_
  have hPc := hP.sub (ws' := [(tb, .inr (11, [.ref kq, .int (iI (bN utf)), .int (iI (bN ucp)), .int (iI la), .ref mq, .int (iI mz)])), (kq, .inl (E.2.1 0, 12544, .inl f25))]) [0, 1] rfl
  have hDc := hD.sub (ws' := [(tb, .inr (11, [.ref kq, .int (iI (bN utf)), .int (iI (bN ucp)), .int (iI la), .ref mq, .int (iI mz)])), (kq, .inl (E.2.1 0, 12544, .inl f25))]) [0, 1] (by decide) rfl
  have hFc := va_free (wc := [(tb, .inr (11, [.ref kq, .int (iI (bN utf)), .int (iI (bN ucp)), .int (iI la), .ref mq, .int (iI mz)])), (kq, .inl (E.2.1 0, 12544, .inl f25))]) hD hS hA [0, 1] rfl
  refine zcW (va_runV (As := [.int (iI 256), .int (iI 383), .int (iI 4)]) (rest := []) S (c_Table_kinds l E _ tb kq mq utf ucp la mz f25 256 383 4 (by decide) (by decide) (by decide)) ⟨zcwB (n := 3) S zw_883 zw_15 zw_880 (by decide +kernel) rfl rfl ⟨Nat.le_of_ble_eq_true rfl, Nat.le_of_ble_eq_true rfl⟩, S.2.2.2.2 _ zw_882, S.2.2.2.2 _ zs_26⟩ (zPreV hE (hP 0 _ rfl) rfl ⟨rfl, hPc, hDc.weaken (fun _ _ _ h => hA0 _ h), trivial⟩) rfl rfl hl.1 rfl (lv_room (Nat.le_of_ble_eq_true rfl)) d_Table_table2_304 ⟨by (try dsimp only); omega, by (try dsimp only); omega⟩) hS (fun q _ h => hFc q h) hFc (fun v H locs hq hz1 hk1 hS => ?_)
  obtain ⟨rfl, hP1, hD1⟩ := hq
  obtain ⟨hP, hD⟩ := va_join (wr := []) (w1 := [(tb, .inr (11, [.ref kq, .int (iI (bN utf)), .int (iI (bN ucp)), .int (iI la), .ref mq, .int (iI mz)])), (kq, .inl (E.2.1 0, 12544, .inl (rf_set f25 (256, 383, 4))))]) hP hD [0, 1] [] rfl rfl (by decide) (by decide) hk1 hFc hP1 hD1
  have hP : va_P E.1 zcl [(tb, .inr (11, [.ref kq, .int (iI (bN utf)), .int (iI (bN ucp)), .int (iI la), .ref mq, .int (iI mz)])), (kq, .inl (E.2.1 0, 12544, .inl (rf_set f25 (256, 383, 4))))] H := hP
  have hD : va_D A [(tb, .inr (11, [.ref kq, .int (iI (bN utf)), .int (iI (bN ucp)), .int (iI la), .ref mq, .int (iI mz)])), (kq, .inl (E.2.1 0, 12544, .inl (rf_set f25 (256, 383, 4))))] := hD
  have hE := hE0.at hS hA0
  obtain ⟨f26, ef26⟩ : ∃ x, x = rf_set f25 (256, 383, 4) := ⟨_, rfl⟩
  rw [← ef26] at hP hD
  refine lv_aload_n hx hb d_Table_table2_307 rfl (lv_at hl 0 rfl) ?_
  refine zi_bipush hx hb d_Table_table2_308 (by decide) ?_
  refine zi_bipush hx hb d_Table_table2_310 (by decide) ?_
  refine zi_bipush hx hb d_Table_table2_312 (by decide) ?_
  have hPc := hP.sub (ws' := [(tb, .inr (11, [.ref kq, .int (iI (bN utf)), .int (iI (bN ucp)), .int (iI la), .ref mq, .int (iI mz)])), (kq, .inl (E.2.1 0, 12544, .inl f26))]) [0, 1] rfl
  have hDc := hD.sub (ws' := [(tb, .inr (11, [.ref kq, .int (iI (bN utf)), .int (iI (bN ucp)), .int (iI la), .ref mq, .int (iI mz)])), (kq, .inl (E.2.1 0, 12544, .inl f26))]) [0, 1] (by decide) rfl
  have hFc := va_free (wc := [(tb, .inr (11, [.ref kq, .int (iI (bN utf)), .int (iI (bN ucp)), .int (iI la), .ref mq, .int (iI mz)])), (kq, .inl (E.2.1 0, 12544, .inl f26))]) hD hS hA [0, 1] rfl
  refine zcW (va_runV (As := [.int (iI 65), .int (iI 90), .int (iI 6)]) (rest := []) S (c_Table_kinds l E _ tb kq mq utf ucp la mz f26 65 90 6 (by decide) (by decide) (by decide)) ⟨zcwB (n := 3) S zw_883 zw_15 zw_880 (by decide +kernel) rfl rfl ⟨Nat.le_of_ble_eq_true rfl, Nat.le_of_ble_eq_true rfl⟩, S.2.2.2.2 _ zw_882, S.2.2.2.2 _ zs_26⟩ (zPreV hE (hP 0 _ rfl) rfl ⟨rfl, hPc, hDc.weaken (fun _ _ _ h => hA0 _ h), trivial⟩) rfl rfl hl.1 rfl (lv_room (Nat.le_of_ble_eq_true rfl)) d_Table_table2_314 ⟨by (try dsimp only); omega, by (try dsimp only); omega⟩) hS (fun q _ h => hFc q h) hFc (fun v H locs hq hz1 hk1 hS => ?_)
  obtain ⟨rfl, hP1, hD1⟩ := hq
  obtain ⟨hP, hD⟩ := va_join (wr := []) (w1 := [(tb, .inr (11, [.ref kq, .int (iI (bN utf)), .int (iI (bN ucp)), .int (iI la), .ref mq, .int (iI mz)])), (kq, .inl (E.2.1 0, 12544, .inl (rf_set f26 (65, 90, 6))))]) hP hD [0, 1] [] rfl rfl (by decide) (by decide) hk1 hFc hP1 hD1
  have hP : va_P E.1 zcl [(tb, .inr (11, [.ref kq, .int (iI (bN utf)), .int (iI (bN ucp)), .int (iI la), .ref mq, .int (iI mz)])), (kq, .inl (E.2.1 0, 12544, .inl (rf_set f26 (65, 90, 6))))] H := hP
  have hD : va_D A [(tb, .inr (11, [.ref kq, .int (iI (bN utf)), .int (iI (bN ucp)), .int (iI la), .ref mq, .int (iI mz)])), (kq, .inl (E.2.1 0, 12544, .inl (rf_set f26 (65, 90, 6))))] := hD
  have hE := hE0.at hS hA0
  obtain ⟨f27, ef27⟩ : ∃ x, x = rf_set f26 (65, 90, 6) := ⟨_, rfl⟩
  rw [← ef27] at hP hD
  refine lv_aload_n hx hb d_Table_table2_317 rfl (lv_at hl 0 rfl) ?_
  refine zi_sipush hx hb d_Table_table2_318 (by decide) ?_
  refine zi_sipush hx hb d_Table_table2_321 (by decide) ?_
  refine zi_bipush hx hb d_Table_table2_324 (by decide) ?_
  have hPc := hP.sub (ws' := [(tb, .inr (11, [.ref kq, .int (iI (bN utf)), .int (iI (bN ucp)), .int (iI la), .ref mq, .int (iI mz)])), (kq, .inl (E.2.1 0, 12544, .inl f27))]) [0, 1] rfl
  have hDc := hD.sub (ws' := [(tb, .inr (11, [.ref kq, .int (iI (bN utf)), .int (iI (bN ucp)), .int (iI la), .ref mq, .int (iI mz)])), (kq, .inl (E.2.1 0, 12544, .inl f27))]) [0, 1] (by decide) rfl
  have hFc := va_free (wc := [(tb, .inr (11, [.ref kq, .int (iI (bN utf)), .int (iI (bN ucp)), .int (iI la), .ref mq, .int (iI mz)])), (kq, .inl (E.2.1 0, 12544, .inl f27))]) hD hS hA [0, 1] rfl
  refine zcW (va_runV (As := [.int (iI 192), .int (iI 214), .int (iI 6)]) (rest := []) S (c_Table_kinds l E _ tb kq mq utf ucp la mz f27 192 214 6 (by decide) (by decide) (by decide)) ⟨zcwB (n := 3) S zw_883 zw_15 zw_880 (by decide +kernel) rfl rfl ⟨Nat.le_of_ble_eq_true rfl, Nat.le_of_ble_eq_true rfl⟩, S.2.2.2.2 _ zw_882, S.2.2.2.2 _ zs_26⟩ (zPreV hE (hP 0 _ rfl) rfl ⟨rfl, hPc, hDc.weaken (fun _ _ _ h => hA0 _ h), trivial⟩) rfl rfl hl.1 rfl (lv_room (Nat.le_of_ble_eq_true rfl)) d_Table_table2_326 ⟨by (try dsimp only); omega, by (try dsimp only); omega⟩) hS (fun q _ h => hFc q h) hFc (fun v H locs hq hz1 hk1 hS => ?_)
  obtain ⟨rfl, hP1, hD1⟩ := hq
  obtain ⟨hP, hD⟩ := va_join (wr := []) (w1 := [(tb, .inr (11, [.ref kq, .int (iI (bN utf)), .int (iI (bN ucp)), .int (iI la), .ref mq, .int (iI mz)])), (kq, .inl (E.2.1 0, 12544, .inl (rf_set f27 (192, 214, 6))))]) hP hD [0, 1] [] rfl rfl (by decide) (by decide) hk1 hFc hP1 hD1
  have hP : va_P E.1 zcl [(tb, .inr (11, [.ref kq, .int (iI (bN utf)), .int (iI (bN ucp)), .int (iI la), .ref mq, .int (iI mz)])), (kq, .inl (E.2.1 0, 12544, .inl (rf_set f27 (192, 214, 6))))] H := hP
  have hD : va_D A [(tb, .inr (11, [.ref kq, .int (iI (bN utf)), .int (iI (bN ucp)), .int (iI la), .ref mq, .int (iI mz)])), (kq, .inl (E.2.1 0, 12544, .inl (rf_set f27 (192, 214, 6))))] := hD
  have hE := hE0.at hS hA0
  obtain ⟨f28, ef28⟩ : ∃ x, x = rf_set f27 (192, 214, 6) := ⟨_, rfl⟩
  rw [← ef28] at hP hD
  refine lv_aload_n hx hb d_Table_table2_329 rfl (lv_at hl 0 rfl) ?_
  refine zi_sipush hx hb d_Table_table2_330 (by decide) ?_
  refine zi_sipush hx hb d_Table_table2_333 (by decide) ?_
  refine zi_bipush hx hb d_Table_table2_336 (by decide) ?_
  have hPc := hP.sub (ws' := [(tb, .inr (11, [.ref kq, .int (iI (bN utf)), .int (iI (bN ucp)), .int (iI la), .ref mq, .int (iI mz)])), (kq, .inl (E.2.1 0, 12544, .inl f28))]) [0, 1] rfl
  have hDc := hD.sub (ws' := [(tb, .inr (11, [.ref kq, .int (iI (bN utf)), .int (iI (bN ucp)), .int (iI la), .ref mq, .int (iI mz)])), (kq, .inl (E.2.1 0, 12544, .inl f28))]) [0, 1] (by decide) rfl
  have hFc := va_free (wc := [(tb, .inr (11, [.ref kq, .int (iI (bN utf)), .int (iI (bN ucp)), .int (iI la), .ref mq, .int (iI mz)])), (kq, .inl (E.2.1 0, 12544, .inl f28))]) hD hS hA [0, 1] rfl
  refine zcW (va_runV (As := [.int (iI 216), .int (iI 222), .int (iI 6)]) (rest := []) S (c_Table_kinds l E _ tb kq mq utf ucp la mz f28 216 222 6 (by decide) (by decide) (by decide)) ⟨zcwB (n := 3) S zw_883 zw_15 zw_880 (by decide +kernel) rfl rfl ⟨Nat.le_of_ble_eq_true rfl, Nat.le_of_ble_eq_true rfl⟩, S.2.2.2.2 _ zw_882, S.2.2.2.2 _ zs_26⟩ (zPreV hE (hP 0 _ rfl) rfl ⟨rfl, hPc, hDc.weaken (fun _ _ _ h => hA0 _ h), trivial⟩) rfl rfl hl.1 rfl (lv_room (Nat.le_of_ble_eq_true rfl)) d_Table_table2_338 ⟨by (try dsimp only); omega, by (try dsimp only); omega⟩) hS (fun q _ h => hFc q h) hFc (fun v H locs hq hz1 hk1 hS => ?_)
  obtain ⟨rfl, hP1, hD1⟩ := hq
  obtain ⟨hP, hD⟩ := va_join (wr := []) (w1 := [(tb, .inr (11, [.ref kq, .int (iI (bN utf)), .int (iI (bN ucp)), .int (iI la), .ref mq, .int (iI mz)])), (kq, .inl (E.2.1 0, 12544, .inl (rf_set f28 (216, 222, 6))))]) hP hD [0, 1] [] rfl rfl (by decide) (by decide) hk1 hFc hP1 hD1
  have hP : va_P E.1 zcl [(tb, .inr (11, [.ref kq, .int (iI (bN utf)), .int (iI (bN ucp)), .int (iI la), .ref mq, .int (iI mz)])), (kq, .inl (E.2.1 0, 12544, .inl (rf_set f28 (216, 222, 6))))] H := hP
  have hD : va_D A [(tb, .inr (11, [.ref kq, .int (iI (bN utf)), .int (iI (bN ucp)), .int (iI la), .ref mq, .int (iI mz)])), (kq, .inl (E.2.1 0, 12544, .inl (rf_set f28 (216, 222, 6))))] := hD
  have hE := hE0.at hS hA0
  obtain ⟨f29, ef29⟩ : ∃ x, x = rf_set f28 (216, 222, 6) := ⟨_, rfl⟩
  rw [← ef29] at hP hD
  have hfin : f29 = rf_l2.foldl rf_set f := by simp only [rf_l2, List.foldl, ef29, ef28, ef27, ef26, ef25, ef24, ef23, ef22, ef21, ef20, ef19, ef18, ef17, ef16, ef15, ef14, ef13, ef12, ef11, ef10, ef9, ef8, ef7, ef6, ef5, ef4, ef3, ef2, ef1, ef0]
  rw [hfin] at hP hD
  exact zwv S hr hlk hS (⟨rfl, hP, hD⟩) (by (try dsimp only); omega) (by (try dsimp only); omega) d_Table_table2_341

def rf_l3 : List (Nat × Nat × Nat) := [(913, 929, 6), (931, 937, 6), (1024, 1071, 6), (376, 376, 6), (8490, 8490, 6), (8491, 8491, 6)]
set_option maxRecDepth 100000 in
set_option maxHeartbeats 4000000 in
theorem c_Table_table3 (l : Launch) (E : zP) (sz : Nat) (tb kq mq : Nat) (utf ucp : Bool) (la mz : Int) (f : Nat → Int32) : Met l y_Table_table3 (.code y_Table_table3 b_Table_table3 1 ( Option.none : Option FieldType ) :: zw) { frames := 1, cells := (0), slots := (0), locals := 24 } (zPc E [.ref tb] (fun H => H.size = sz ∧ va_P E.1 zcl [(tb, .inr (11, [.ref kq, .int (iI (bN utf)), .int (iI (bN ucp)), .int (iI la), .ref mq, .int (iI mz)])), (kq, .inl (E.2.1 0, 12544, .inl f))] H ∧ va_D (zOld E) [(tb, .inr (11, [.ref kq, .int (iI (bN utf)), .int (iI (bN ucp)), .int (iI la), .ref mq, .int (iI mz)])), (kq, .inl (E.2.1 0, 12544, .inl f))] ∧ (True))) (zW (fun v H => v = none ∧ va_P E.1 zcl [(tb, .inr (11, [.ref kq, .int (iI (bN utf)), .int (iI (bN ucp)), .int (iI la), .ref mq, .int (iI mz)])), (kq, .inl (E.2.1 0, 12544, .inl (rf_l3.foldl rf_set f)))] H ∧ va_D (va_A [(tb, .inr (11, [.ref kq, .int (iI (bN utf)), .int (iI (bN ucp)), .int (iI la), .ref mq, .int (iI mz)])), (kq, .inl (E.2.1 0, 12544, .inl f))] sz) [(tb, .inr (11, [.ref kq, .int (iI (bN utf)), .int (iI (bN ucp)), .int (iI la), .ref mq, .int (iI mz)])), (kq, .inl (E.2.1 0, 12544, .inl (rf_l3.foldl rf_set f)))]) (va_A [(tb, .inr (11, [.ref kq, .int (iI (bN utf)), .int (iI (bN ucp)), .int (iI la), .ref mq, .int (iI mz)])), (kq, .inl (E.2.1 0, 12544, .inl f))] sz)) (0) (0) (va_A [(tb, .inr (11, [.ref kq, .int (iI (bN utf)), .int (iI (bN ucp)), .int (iI la), .ref mq, .int (iI mz)])), (kq, .inl (E.2.1 0, 12544, .inl f))] sz) := by
  refine zMet (by decide) (Nat.le_of_ble_eq_true rfl) ?_
  intro p e s m below meth c ls S hr hlk hnm hE ⟨hsz, hP, hDo, hX⟩ hl
  have hx := S.1
  have hb := S.2.1
  have hE0 := hE
  have hl : lv_has ls 1 [(0, .ref tb)] := hl
  subst hsz
  have hD := hDo.self (sz := s.heap.size)
  generalize hAe : va_A [(tb, .inr (11, [.ref kq, .int (iI (bN utf)), .int (iI (bN ucp)), .int (iI la), .ref mq, .int (iI mz)])), (kq, .inl (E.2.1 0, 12544, .inl f))] s.heap.size = A at hD ⊢
  have hA : ∀ q : Nat, s.heap.size ≤ q → A q := fun q h => by rw [← hAe]; exact Or.inr h
  have hA0 := zA0 hE hDo hAe
  have hS : va_S A s.heap s.heap [] := va_S.rf
  refine lv_aload_n hx hb d_Table_table3_0 rfl (lv_at hl 0 rfl) ?_
  refine zi_sipush hx hb d_Table_table3_1 (by decide) ?_
  refine zi_sipush hx hb d_Table_table3_4 (by decide) ?_
  refine zi_bipush hx hb d_Table_table3_7 (by decide) ?_
  have hPc := hP.sub (ws' := [(tb, .inr (11, [.ref kq, .int (iI (bN utf)), .int (iI (bN ucp)), .int (iI la), .ref mq, .int (iI mz)])), (kq, .inl (E.2.1 0, 12544, .inl f))]) [0, 1] rfl
  have hDc := hD.sub (ws' := [(tb, .inr (11, [.ref kq, .int (iI (bN utf)), .int (iI (bN ucp)), .int (iI la), .ref mq, .int (iI mz)])), (kq, .inl (E.2.1 0, 12544, .inl f))]) [0, 1] (by decide) rfl
  have hFc := va_free (wc := [(tb, .inr (11, [.ref kq, .int (iI (bN utf)), .int (iI (bN ucp)), .int (iI la), .ref mq, .int (iI mz)])), (kq, .inl (E.2.1 0, 12544, .inl f))]) hD hS hA [0, 1] rfl
  refine zcW (va_runV (As := [.int (iI 913), .int (iI 929), .int (iI 6)]) (rest := []) S (c_Table_kinds l E _ tb kq mq utf ucp la mz f 913 929 6 (by decide) (by decide) (by decide)) ⟨zcwB (n := 3) S zw_883 zw_15 zw_880 (by decide +kernel) rfl rfl ⟨Nat.le_of_ble_eq_true rfl, Nat.le_of_ble_eq_true rfl⟩, S.2.2.2.2 _ zw_882, S.2.2.2.2 _ zs_26⟩ (zPreV hE (hP 0 _ rfl) rfl ⟨rfl, hPc, hDc.weaken (fun _ _ _ h => hA0 _ h), trivial⟩) rfl rfl hl.1 rfl (lv_room (Nat.le_of_ble_eq_true rfl)) d_Table_table3_9 ⟨by (try dsimp only); omega, by (try dsimp only); omega⟩) hS (fun q _ h => hFc q h) hFc (fun v H locs hq hz1 hk1 hS => ?_)
  obtain ⟨rfl, hP1, hD1⟩ := hq
  obtain ⟨hP, hD⟩ := va_join (wr := []) (w1 := [(tb, .inr (11, [.ref kq, .int (iI (bN utf)), .int (iI (bN ucp)), .int (iI la), .ref mq, .int (iI mz)])), (kq, .inl (E.2.1 0, 12544, .inl (rf_set f (913, 929, 6))))]) hP hD [0, 1] [] rfl rfl (by decide) (by decide) hk1 hFc hP1 hD1
  have hP : va_P E.1 zcl [(tb, .inr (11, [.ref kq, .int (iI (bN utf)), .int (iI (bN ucp)), .int (iI la), .ref mq, .int (iI mz)])), (kq, .inl (E.2.1 0, 12544, .inl (rf_set f (913, 929, 6))))] H := hP
  have hD : va_D A [(tb, .inr (11, [.ref kq, .int (iI (bN utf)), .int (iI (bN ucp)), .int (iI la), .ref mq, .int (iI mz)])), (kq, .inl (E.2.1 0, 12544, .inl (rf_set f (913, 929, 6))))] := hD
  have hE := hE0.at hS hA0
  obtain ⟨f0, ef0⟩ : ∃ x, x = rf_set f (913, 929, 6) := ⟨_, rfl⟩
  rw [← ef0] at hP hD
  refine lv_aload_n hx hb d_Table_table3_12 rfl (lv_at hl 0 rfl) ?_
  refine zi_sipush hx hb d_Table_table3_13 (by decide) ?_
  refine zi_sipush hx hb d_Table_table3_16 (by decide) ?_
  refine zi_bipush hx hb d_Table_table3_19 (by decide) ?_
  have hPc := hP.sub (ws' := [(tb, .inr (11, [.ref kq, .int (iI (bN utf)), .int (iI (bN ucp)), .int (iI la), .ref mq, .int (iI mz)])), (kq, .inl (E.2.1 0, 12544, .inl f0))]) [0, 1] rfl
  have hDc := hD.sub (ws' := [(tb, .inr (11, [.ref kq, .int (iI (bN utf)), .int (iI (bN ucp)), .int (iI la), .ref mq, .int (iI mz)])), (kq, .inl (E.2.1 0, 12544, .inl f0))]) [0, 1] (by decide) rfl
  have hFc := va_free (wc := [(tb, .inr (11, [.ref kq, .int (iI (bN utf)), .int (iI (bN ucp)), .int (iI la), .ref mq, .int (iI mz)])), (kq, .inl (E.2.1 0, 12544, .inl f0))]) hD hS hA [0, 1] rfl
  refine zcW (va_runV (As := [.int (iI 931), .int (iI 937), .int (iI 6)]) (rest := []) S (c_Table_kinds l E _ tb kq mq utf ucp la mz f0 931 937 6 (by decide) (by decide) (by decide)) ⟨zcwB (n := 3) S zw_883 zw_15 zw_880 (by decide +kernel) rfl rfl ⟨Nat.le_of_ble_eq_true rfl, Nat.le_of_ble_eq_true rfl⟩, S.2.2.2.2 _ zw_882, S.2.2.2.2 _ zs_26⟩ (zPreV hE (hP 0 _ rfl) rfl ⟨rfl, hPc, hDc.weaken (fun _ _ _ h => hA0 _ h), trivial⟩) rfl rfl hl.1 rfl (lv_room (Nat.le_of_ble_eq_true rfl)) d_Table_table3_21 ⟨by (try dsimp only); omega, by (try dsimp only); omega⟩) hS (fun q _ h => hFc q h) hFc (fun v H locs hq hz1 hk1 hS => ?_)
  obtain ⟨rfl, hP1, hD1⟩ := hq
  obtain ⟨hP, hD⟩ := va_join (wr := []) (w1 := [(tb, .inr (11, [.ref kq, .int (iI (bN utf)), .int (iI (bN ucp)), .int (iI la), .ref mq, .int (iI mz)])), (kq, .inl (E.2.1 0, 12544, .inl (rf_set f0 (931, 937, 6))))]) hP hD [0, 1] [] rfl rfl (by decide) (by decide) hk1 hFc hP1 hD1
  have hP : va_P E.1 zcl [(tb, .inr (11, [.ref kq, .int (iI (bN utf)), .int (iI (bN ucp)), .int (iI la), .ref mq, .int (iI mz)])), (kq, .inl (E.2.1 0, 12544, .inl (rf_set f0 (931, 937, 6))))] H := hP
  have hD : va_D A [(tb, .inr (11, [.ref kq, .int (iI (bN utf)), .int (iI (bN ucp)), .int (iI la), .ref mq, .int (iI mz)])), (kq, .inl (E.2.1 0, 12544, .inl (rf_set f0 (931, 937, 6))))] := hD
  have hE := hE0.at hS hA0
  obtain ⟨f1, ef1⟩ : ∃ x, x = rf_set f0 (931, 937, 6) := ⟨_, rfl⟩
  rw [← ef1] at hP hD
  refine lv_aload_n hx hb d_Table_table3_24 rfl (lv_at hl 0 rfl) ?_
  refine zi_sipush hx hb d_Table_table3_25 (by decide) ?_
  refine zi_sipush hx hb d_Table_table3_28 (by decide) ?_
  refine zi_bipush hx hb d_Table_table3_31 (by decide) ?_
  have hPc := hP.sub (ws' := [(tb, .inr (11, [.ref kq, .int (iI (bN utf)), .int (iI (bN ucp)), .int (iI la), .ref mq, .int (iI mz)])), (kq, .inl (E.2.1 0, 12544, .inl f1))]) [0, 1] rfl
  have hDc := hD.sub (ws' := [(tb, .inr (11, [.ref kq, .int (iI (bN utf)), .int (iI (bN ucp)), .int (iI la), .ref mq, .int (iI mz)])), (kq, .inl (E.2.1 0, 12544, .inl f1))]) [0, 1] (by decide) rfl
  have hFc := va_free (wc := [(tb, .inr (11, [.ref kq, .int (iI (bN utf)), .int (iI (bN ucp)), .int (iI la), .ref mq, .int (iI mz)])), (kq, .inl (E.2.1 0, 12544, .inl f1))]) hD hS hA [0, 1] rfl
  refine zcW (va_runV (As := [.int (iI 1024), .int (iI 1071), .int (iI 6)]) (rest := []) S (c_Table_kinds l E _ tb kq mq utf ucp la mz f1 1024 1071 6 (by decide) (by decide) (by decide)) ⟨zcwB (n := 3) S zw_883 zw_15 zw_880 (by decide +kernel) rfl rfl ⟨Nat.le_of_ble_eq_true rfl, Nat.le_of_ble_eq_true rfl⟩, S.2.2.2.2 _ zw_882, S.2.2.2.2 _ zs_26⟩ (zPreV hE (hP 0 _ rfl) rfl ⟨rfl, hPc, hDc.weaken (fun _ _ _ h => hA0 _ h), trivial⟩) rfl rfl hl.1 rfl (lv_room (Nat.le_of_ble_eq_true rfl)) d_Table_table3_33 ⟨by (try dsimp only); omega, by (try dsimp only); omega⟩) hS (fun q _ h => hFc q h) hFc (fun v H locs hq hz1 hk1 hS => ?_)
  obtain ⟨rfl, hP1, hD1⟩ := hq
  obtain ⟨hP, hD⟩ := va_join (wr := []) (w1 := [(tb, .inr (11, [.ref kq, .int (iI (bN utf)), .int (iI (bN ucp)), .int (iI la), .ref mq, .int (iI mz)])), (kq, .inl (E.2.1 0, 12544, .inl (rf_set f1 (1024, 1071, 6))))]) hP hD [0, 1] [] rfl rfl (by decide) (by decide) hk1 hFc hP1 hD1
  have hP : va_P E.1 zcl [(tb, .inr (11, [.ref kq, .int (iI (bN utf)), .int (iI (bN ucp)), .int (iI la), .ref mq, .int (iI mz)])), (kq, .inl (E.2.1 0, 12544, .inl (rf_set f1 (1024, 1071, 6))))] H := hP
  have hD : va_D A [(tb, .inr (11, [.ref kq, .int (iI (bN utf)), .int (iI (bN ucp)), .int (iI la), .ref mq, .int (iI mz)])), (kq, .inl (E.2.1 0, 12544, .inl (rf_set f1 (1024, 1071, 6))))] := hD
  have hE := hE0.at hS hA0
  obtain ⟨f2, ef2⟩ : ∃ x, x = rf_set f1 (1024, 1071, 6) := ⟨_, rfl⟩
  rw [← ef2] at hP hD
  refine lv_aload_n hx hb d_Table_table3_36 rfl (lv_at hl 0 rfl) ?_
  refine zi_sipush hx hb d_Table_table3_37 (by decide) ?_
  refine zi_sipush hx hb d_Table_table3_40 (by decide) ?_
  refine zi_bipush hx hb d_Table_table3_43 (by decide) ?_
  have hPc := hP.sub (ws' := [(tb, .inr (11, [.ref kq, .int (iI (bN utf)), .int (iI (bN ucp)), .int (iI la), .ref mq, .int (iI mz)])), (kq, .inl (E.2.1 0, 12544, .inl f2))]) [0, 1] rfl
  have hDc := hD.sub (ws' := [(tb, .inr (11, [.ref kq, .int (iI (bN utf)), .int (iI (bN ucp)), .int (iI la), .ref mq, .int (iI mz)])), (kq, .inl (E.2.1 0, 12544, .inl f2))]) [0, 1] (by decide) rfl
  have hFc := va_free (wc := [(tb, .inr (11, [.ref kq, .int (iI (bN utf)), .int (iI (bN ucp)), .int (iI la), .ref mq, .int (iI mz)])), (kq, .inl (E.2.1 0, 12544, .inl f2))]) hD hS hA [0, 1] rfl
  refine zcW (va_runV (As := [.int (iI 376), .int (iI 376), .int (iI 6)]) (rest := []) S (c_Table_kinds l E _ tb kq mq utf ucp la mz f2 376 376 6 (by decide) (by decide) (by decide)) ⟨zcwB (n := 3) S zw_883 zw_15 zw_880 (by decide +kernel) rfl rfl ⟨Nat.le_of_ble_eq_true rfl, Nat.le_of_ble_eq_true rfl⟩, S.2.2.2.2 _ zw_882, S.2.2.2.2 _ zs_26⟩ (zPreV hE (hP 0 _ rfl) rfl ⟨rfl, hPc, hDc.weaken (fun _ _ _ h => hA0 _ h), trivial⟩) rfl rfl hl.1 rfl (lv_room (Nat.le_of_ble_eq_true rfl)) d_Table_table3_45 ⟨by (try dsimp only); omega, by (try dsimp only); omega⟩) hS (fun q _ h => hFc q h) hFc (fun v H locs hq hz1 hk1 hS => ?_)
  obtain ⟨rfl, hP1, hD1⟩ := hq
  obtain ⟨hP, hD⟩ := va_join (wr := []) (w1 := [(tb, .inr (11, [.ref kq, .int (iI (bN utf)), .int (iI (bN ucp)), .int (iI la), .ref mq, .int (iI mz)])), (kq, .inl (E.2.1 0, 12544, .inl (rf_set f2 (376, 376, 6))))]) hP hD [0, 1] [] rfl rfl (by decide) (by decide) hk1 hFc hP1 hD1
  have hP : va_P E.1 zcl [(tb, .inr (11, [.ref kq, .int (iI (bN utf)), .int (iI (bN ucp)), .int (iI la), .ref mq, .int (iI mz)])), (kq, .inl (E.2.1 0, 12544, .inl (rf_set f2 (376, 376, 6))))] H := hP
  have hD : va_D A [(tb, .inr (11, [.ref kq, .int (iI (bN utf)), .int (iI (bN ucp)), .int (iI la), .ref mq, .int (iI mz)])), (kq, .inl (E.2.1 0, 12544, .inl (rf_set f2 (376, 376, 6))))] := hD
  have hE := hE0.at hS hA0
  obtain ⟨f3, ef3⟩ : ∃ x, x = rf_set f2 (376, 376, 6) := ⟨_, rfl⟩
  rw [← ef3] at hP hD
  refine lv_aload_n hx hb d_Table_table3_48 rfl (lv_at hl 0 rfl) ?_
  refine zi_sipush hx hb d_Table_table3_49 (by decide) ?_
  refine zi_sipush hx hb d_Table_table3_52 (by decide) ?_
  refine zi_bipush hx hb d_Table_table3_55 (by decide) ?_
  have hPc := hP.sub (ws' := [(tb, .inr (11, [.ref kq, .int (iI (bN utf)), .int (iI (bN ucp)), .int (iI la), .ref mq, .int (iI mz)])), (kq, .inl (E.2.1 0, 12544, .inl f3))]) [0, 1] rfl
  have hDc := hD.sub (ws' := [(tb, .inr (11, [.ref kq, .int (iI (bN utf)), .int (iI (bN ucp)), .int (iI la), .ref mq, .int (iI mz)])), (kq, .inl (E.2.1 0, 12544, .inl f3))]) [0, 1] (by decide) rfl
  have hFc := va_free (wc := [(tb, .inr (11, [.ref kq, .int (iI (bN utf)), .int (iI (bN ucp)), .int (iI la), .ref mq, .int (iI mz)])), (kq, .inl (E.2.1 0, 12544, .inl f3))]) hD hS hA [0, 1] rfl
  refine zcW (va_runV (As := [.int (iI 8490), .int (iI 8490), .int (iI 6)]) (rest := []) S (c_Table_kinds l E _ tb kq mq utf ucp la mz f3 8490 8490 6 (by decide) (by decide) (by decide)) ⟨zcwB (n := 3) S zw_883 zw_15 zw_880 (by decide +kernel) rfl rfl ⟨Nat.le_of_ble_eq_true rfl, Nat.le_of_ble_eq_true rfl⟩, S.2.2.2.2 _ zw_882, S.2.2.2.2 _ zs_26⟩ (zPreV hE (hP 0 _ rfl) rfl ⟨rfl, hPc, hDc.weaken (fun _ _ _ h => hA0 _ h), trivial⟩) rfl rfl hl.1 rfl (lv_room (Nat.le_of_ble_eq_true rfl)) d_Table_table3_57 ⟨by (try dsimp only); omega, by (try dsimp only); omega⟩) hS (fun q _ h => hFc q h) hFc (fun v H locs hq hz1 hk1 hS => ?_)
  obtain ⟨rfl, hP1, hD1⟩ := hq
  obtain ⟨hP, hD⟩ := va_join (wr := []) (w1 := [(tb, .inr (11, [.ref kq, .int (iI (bN utf)), .int (iI (bN ucp)), .int (iI la), .ref mq, .int (iI mz)])), (kq, .inl (E.2.1 0, 12544, .inl (rf_set f3 (8490, 8490, 6))))]) hP hD [0, 1] [] rfl rfl (by decide) (by decide) hk1 hFc hP1 hD1
  have hP : va_P E.1 zcl [(tb, .inr (11, [.ref kq, .int (iI (bN utf)), .int (iI (bN ucp)), .int (iI la), .ref mq, .int (iI mz)])), (kq, .inl (E.2.1 0, 12544, .inl (rf_set f3 (8490, 8490, 6))))] H := hP
  have hD : va_D A [(tb, .inr (11, [.ref kq, .int (iI (bN utf)), .int (iI (bN ucp)), .int (iI la), .ref mq, .int (iI mz)])), (kq, .inl (E.2.1 0, 12544, .inl (rf_set f3 (8490, 8490, 6))))] := hD
  have hE := hE0.at hS hA0
  obtain ⟨f4, ef4⟩ : ∃ x, x = rf_set f3 (8490, 8490, 6) := ⟨_, rfl⟩
  rw [← ef4] at hP hD
  refine lv_aload_n hx hb d_Table_table3_60 rfl (lv_at hl 0 rfl) ?_
  refine zi_sipush hx hb d_Table_table3_61 (by decide) ?_
  refine zi_sipush hx hb d_Table_table3_64 (by decide) ?_
  refine zi_bipush hx hb d_Table_table3_67 (by decide) ?_
  have hPc := hP.sub (ws' := [(tb, .inr (11, [.ref kq, .int (iI (bN utf)), .int (iI (bN ucp)), .int (iI la), .ref mq, .int (iI mz)])), (kq, .inl (E.2.1 0, 12544, .inl f4))]) [0, 1] rfl
  have hDc := hD.sub (ws' := [(tb, .inr (11, [.ref kq, .int (iI (bN utf)), .int (iI (bN ucp)), .int (iI la), .ref mq, .int (iI mz)])), (kq, .inl (E.2.1 0, 12544, .inl f4))]) [0, 1] (by decide) rfl
  have hFc := va_free (wc := [(tb, .inr (11, [.ref kq, .int (iI (bN utf)), .int (iI (bN ucp)), .int (iI la), .ref mq, .int (iI mz)])), (kq, .inl (E.2.1 0, 12544, .inl f4))]) hD hS hA [0, 1] rfl
  refine zcW (va_runV (As := [.int (iI 8491), .int (iI 8491), .int (iI 6)]) (rest := []) S (c_Table_kinds l E _ tb kq mq utf ucp la mz f4 8491 8491 6 (by decide) (by decide) (by decide)) ⟨zcwB (n := 3) S zw_883 zw_15 zw_880 (by decide +kernel) rfl rfl ⟨Nat.le_of_ble_eq_true rfl, Nat.le_of_ble_eq_true rfl⟩, S.2.2.2.2 _ zw_882, S.2.2.2.2 _ zs_26⟩ (zPreV hE (hP 0 _ rfl) rfl ⟨rfl, hPc, hDc.weaken (fun _ _ _ h => hA0 _ h), trivial⟩) rfl rfl hl.1 rfl (lv_room (Nat.le_of_ble_eq_true rfl)) d_Table_table3_69 ⟨by (try dsimp only); omega, by (try dsimp only); omega⟩) hS (fun q _ h => hFc q h) hFc (fun v H locs hq hz1 hk1 hS => ?_)
  obtain ⟨rfl, hP1, hD1⟩ := hq
  obtain ⟨hP, hD⟩ := va_join (wr := []) (w1 := [(tb, .inr (11, [.ref kq, .int (iI (bN utf)), .int (iI (bN ucp)), .int (iI la), .ref mq, .int (iI mz)])), (kq, .inl (E.2.1 0, 12544, .inl (rf_set f4 (8491, 8491, 6))))]) hP hD [0, 1] [] rfl rfl (by decide) (by decide) hk1 hFc hP1 hD1
  have hP : va_P E.1 zcl [(tb, .inr (11, [.ref kq, .int (iI (bN utf)), .int (iI (bN ucp)), .int (iI la), .ref mq, .int (iI mz)])), (kq, .inl (E.2.1 0, 12544, .inl (rf_set f4 (8491, 8491, 6))))] H := hP
  have hD : va_D A [(tb, .inr (11, [.ref kq, .int (iI (bN utf)), .int (iI (bN ucp)), .int (iI la), .ref mq, .int (iI mz)])), (kq, .inl (E.2.1 0, 12544, .inl (rf_set f4 (8491, 8491, 6))))] := hD
  have hE := hE0.at hS hA0
  obtain ⟨f5, ef5⟩ : ∃ x, x = rf_set f4 (8491, 8491, 6) := ⟨_, rfl⟩
  rw [← ef5] at hP hD
  have hfin : f5 = rf_l3.foldl rf_set f := by simp only [rf_l3, List.foldl, ef5, ef4, ef3, ef2, ef1, ef0]
  rw [hfin] at hP hD
  exact zwv S hr hlk hS (⟨rfl, hP, hD⟩) (by (try dsimp only); omega) (by (try dsimp only); omega) d_Table_table3_72
