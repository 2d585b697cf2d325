set_option maxRecDepth 100000 in
set_option maxHeartbeats 4000000 in
theorem c_ArrayList_size (l : Launch) (E : zP) (Z : Nat → Prop) (h : Nat) (x : List Nat) : Met l y_ArrayList_size (.code y_ArrayList_size b_ArrayList_size 1 ( some FieldType.int ) :: zw) { frames := 0, cells := 0, slots := 0, locals := 0 } (zPc E [.ref h] (zlist E Z h x)) (zR (some (.int (iI ((x.length : Nat) : Int))))) 0 0 (fun _ => False) := by
  refine zMetF (by decide +kernel) (Nat.le_of_ble_eq_true rfl) ?_
  intro p e s m below meth c ls S hr hlk hnm hE ⟨ea, cap, md, f, z1, z2, hO, hQ, hl1, hl2, hf⟩ hl
  have hx := S.1
  have hb := S.2.1
  have hl : lv_has ls 1 [(0, .ref h)] := hl
  refine lv_aload_n hx hb d_ArrayList_size_0 rfl (lv_at hl 0 rfl) ?_
  refine zgf S hE (ci := 9) rfl i_ArrayList hO 1 (by decide) zw_88 rfl d_ArrayList_size_1 ?_
  exact zretI S hr hlk d_ArrayList_size_4 (rfl)

set_option maxRecDepth 100000 in
set_option maxHeartbeats 4000000 in
theorem c_ArrayList_elementData (l : Launch) (E : zP) (Z : Nat → Prop) (h k : Nat) (x : List Nat) (hk : k < x.length) : Met l y_ArrayList_elementData (.code y_ArrayList_elementData b_ArrayList_elementData 2 ( some ( FieldType.object "java/lang/Object" ) ) :: zw) { frames := 0, cells := 0, slots := 0, locals := 0 } (zPc E [.ref h, .int (iI ((k : Nat) : Int))] (zlist E Z h x)) (zR (some (.ref (x.getD k 0)))) 0 0 (fun _ => False) := by
  refine zMetF (by decide +kernel) (Nat.le_of_ble_eq_true rfl) ?_
  intro p e s m below meth c ls S hr hlk hnm hE ⟨ea, cap, md, f, z1, z2, hO, hQ, hl1, hl2, hf⟩ hl
  have hx := S.1
  have hb := S.2.1
  have hl : lv_has ls 2 [(0, .ref h), (1, .int (iI ((k : Nat) : Int)))] := hl
  refine lv_aload_n hx hb d_ArrayList_elementData_0 rfl (lv_at hl 0 rfl) ?_
  refine zgf S hE (ci := 9) rfl i_ArrayList hO 0 (by decide) zw_87 rfl d_ArrayList_elementData_1 ?_
  refine lv_iload_n hx hb d_ArrayList_elementData_4 rfl (lv_at hl 1 rfl) ?_
  refine zaald (y := x.getD k 0) hx hb hE 5 rfl (hQ (fun e9 => by rw [e9] at hk; exact absurd hk (Nat.not_lt_zero _))) (by omega) (by omega) (by omega) (by rw [Int.toNat_natCast]; exact hf k hk) d_ArrayList_elementData_5 ?_
  exact zretA S hr (Or.inl ⟨_, rfl⟩) hlk d_ArrayList_elementData_6 rfl

set_option maxRecDepth 100000 in
set_option maxHeartbeats 4000000 in
theorem c_Preconditions_checkIndex (l : Launch) (E : zP) (k n : Nat) (hk : k < n) (hn : n < 2147483648) : Met l y_Preconditions_checkIndex (.code y_Preconditions_checkIndex b_Preconditions_checkIndex 3 ( some FieldType.int ) :: zw) { frames := 0, cells := 0, slots := 0, locals := 0 } (zPc E [.int (iI ((k : Nat) : Int)), .int (iI ((n : Nat) : Int)), .null] (fun _ => True)) (zR (some (.int (iI ((k : Nat) : Int))))) 0 0 (fun _ => False) := by
  refine zMetF (by decide +kernel) (Nat.le_of_ble_eq_true rfl) ?_
  intro p e s m below meth c ls S hr hlk hnm hE hp hl
  have hx := S.1
  have hb := S.2.1
  have hl : lv_has ls 3 [(0, .int (iI ((k : Nat) : Int))), (1, .int (iI ((n : Nat) : Int))), (2, .null)] := hl
  refine lv_iload_n hx hb d_Preconditions_checkIndex_0 rfl (lv_at hl 0 rfl) ?_
  refine zi_if_lt hx hb d_Preconditions_checkIndex_1 rfl (by omega) (fun h => absurd h (by omega)) (fun _ => ?_)
  refine lv_iload_n hx hb d_Preconditions_checkIndex_4 rfl (lv_at hl 0 rfl) ?_
  refine lv_iload_n hx hb d_Preconditions_checkIndex_5 rfl (lv_at hl 1 rfl) ?_
  refine zi_icmp_lt hx hb d_Preconditions_checkIndex_6 rfl (by omega) (by omega) (fun _ => ?_) (fun h => absurd h (by omega))
  refine lv_iload_n hx hb d_Preconditions_checkIndex_16 rfl (lv_at hl 0 rfl) ?_
  exact zretI S hr hlk d_Preconditions_checkIndex_17 (rfl)

set_option maxRecDepth 100000 in
set_option maxHeartbeats 4000000 in
theorem c_Objects_checkIndex (l : Launch) (E : zP) (k n : Nat) (hk : k < n) (hn : n < 2147483648) : Met l y_Objects_checkIndex (.code y_Objects_checkIndex b_Objects_checkIndex 2 ( some FieldType.int ) :: zw) { frames := 1, cells := 0, slots := 0, locals := 22 } (zPc E [.int (iI ((k : Nat) : Int)), .int (iI ((n : Nat) : Int))] (fun _ => True)) (zR (some (.int (iI ((k : Nat) : Int))))) 0 0 (fun _ => False) := by
  refine zMetF (by decide +kernel) (Nat.le_of_ble_eq_true rfl) ?_
  intro p e s m below meth c ls S hr hlk hnm hE hp hl
  have hx := S.1
  have hb := S.2.1
  have hl : lv_has ls 2 [(0, .int (iI ((k : Nat) : Int))), (1, .int (iI ((n : Nat) : Int)))] := hl
  refine lv_iload_n hx hb d_Objects_checkIndex_0 rfl (lv_at hl 0 rfl) ?_
  refine lv_iload_n hx hb d_Objects_checkIndex_1 rfl (lv_at hl 1 rfl) ?_
  refine lv_null hx hb d_Objects_checkIndex_2 ?_
  refine zcR (va_runS (As := [.int (iI ((k : Nat) : Int)), .int (iI ((n : Nat) : Int)), .null]) (rest := []) S (c_Preconditions_checkIndex l E k n (by omega) (by omega)) ⟨zcwB (n := 3) S zw_544 zw_29 zw_542 (by decide +kernel) rfl rfl ⟨Nat.le_of_ble_eq_true rfl, Nat.le_of_ble_eq_true rfl⟩, S.2.2.2.2 _ zw_543⟩ (zPreS hE trivial) rfl rfl hl.1 rfl (lv_room (Nat.le_of_ble_eq_true rfl)) d_Objects_checkIndex_3 ⟨Nat.zero_le _, Nat.zero_le _⟩) ?_
  exact zretI S hr hlk d_Objects_checkIndex_6 (rfl)

set_option maxRecDepth 100000 in
set_option maxHeartbeats 4000000 in
theorem c_ArrayList_get (l : Launch) (E : zP) (Z : Nat → Prop) (h k : Nat) (x : List Nat) (hk : k < x.length) : Met l y_ArrayList_get (.code y_ArrayList_get b_ArrayList_get 2 ( some ( FieldType.object "java/lang/Object" ) ) :: zw) { frames := 2, cells := 0, slots := 0, locals := 43 } (zPc E [.ref h, .int (iI ((k : Nat) : Int))] (zlist E Z h x)) (zR (some (.ref (x.getD k 0)))) 0 0 (fun _ => False) := by
  refine zMetF (by decide +kernel) (Nat.le_of_ble_eq_true rfl) ?_
  intro p e s m below meth c ls S hr hlk hnm hE hL hl
  have hx := S.1
  have hb := S.2.1
  have hl : lv_has ls 2 [(0, .ref h), (1, .int (iI ((k : Nat) : Int)))] := hl
  obtain ⟨ea, cap, md, f, z1, z2, hO, hQ, hl1, hl2, hf⟩ := hL
  have hL : zlist E Z h x s.heap := ⟨ea, cap, md, f, z1, z2, hO, hQ, hl1, hl2, hf⟩
  refine lv_iload_n hx hb d_ArrayList_get_0 rfl (lv_at hl 1 rfl) ?_
  refine lv_aload_n hx hb d_ArrayList_get_1 rfl (lv_at hl 0 rfl) ?_
  refine zgf S hE (ci := 9) rfl i_ArrayList hO 1 (by decide) zw_88 rfl d_ArrayList_get_2 ?_
  refine zcR (va_runS (As := [.int (iI ((k : Nat) : Int)), .int (iI ((x.length : Nat) : Int))]) (rest := []) S (c_Objects_checkIndex l E k x.length (by omega) (by omega)) ⟨zcwB (n := 2) S zw_541 zw_28 zw_539 (by decide +kernel) rfl rfl ⟨Nat.le_of_ble_eq_true rfl, Nat.le_of_ble_eq_true rfl⟩, S.2.2.2.2 _ zw_540⟩ (zPreS hE trivial) rfl rfl hl.1 rfl (lv_room (Nat.le_of_ble_eq_true rfl)) d_ArrayList_get_5 ⟨Nat.zero_le _, Nat.zero_le _⟩) ?_
  refine lv_pop hx hb d_ArrayList_get_8 rfl ?_
  refine lv_aload_n hx hb d_ArrayList_get_9 rfl (lv_at hl 0 rfl) ?_
  refine lv_iload_n hx hb d_ArrayList_get_10 rfl (lv_at hl 1 rfl) ?_
  refine zcR (va_runV (As := [.int (iI ((k : Nat) : Int))]) (rest := []) S (c_ArrayList_elementData l E Z h k x hk) ⟨zcwB (n := 1) S zw_548 zw_6 zw_545 (by decide +kernel) rfl rfl ⟨Nat.le_of_ble_eq_true rfl, Nat.le_of_ble_eq_true rfl⟩, S.2.2.2.2 _ zw_546, S.2.2.2.2 _ zw_547⟩ (zPreV hE hO rfl hL) rfl rfl hl.1 rfl (lv_room (Nat.le_of_ble_eq_true rfl)) d_ArrayList_get_11 ⟨Nat.zero_le _, Nat.zero_le _⟩) ?_
  exact zretA S hr (Or.inl ⟨_, rfl⟩) hlk d_ArrayList_get_14 rfl

set_option maxRecDepth 100000 in
set_option maxHeartbeats 4000000 in
theorem c_Name_stands (l : Launch) (E : zP) (Z : Nat → Prop) (h r k0 k1 g : Nat) (w b : List Nat) (h01 : k0 ≤ k1) (h1b : k1 ≤ b.length) : Met l y_Name_stands (.code y_Name_stands b_Name_stands 5 ( some FieldType.boolean ) :: zw) { frames := 1, cells := 0, slots := 0, locals := 21 } (zPc E [.ref h, .ref r, .int (iI ((k0 : Nat) : Int)), .int (iI ((k1 : Nat) : Int))] (fun H => zname E Z h w g H ∧ zrow E r b H)) (zR (some (.int (iI (bN (decide (k1 - k0 = w.length) && sp_same b k0 w)))))) 0 0 (fun _ => False) := by
  refine zMet (by decide) (Nat.le_of_ble_eq_true rfl) ?_
  intro p e s m below meth c ls S hr hlk hnm hE ⟨⟨q, f, z1, z2, hO, hA, hf, h128, hw32, hg⟩, hrow⟩ hl
  have hx := S.1
  have hb := S.2.1
  have hl : lv_has ls 5 [(0, .ref h), (1, .ref r), (2, .int (iI ((k0 : Nat) : Int))), (3, .int (iI ((k1 : Nat) : Int)))] := hl
  have hbl := zrow.len hrow
  refine lv_iload_n hx hb d_Name_stands_0 rfl (lv_at hl 3 rfl) ?_
  refine lv_iload_n hx hb d_Name_stands_1 rfl (lv_at hl 2 rfl) ?_
  refine zi_isub hx hb d_Name_stands_2 ?_
  refine lv_aload_n hx hb d_Name_stands_3 rfl (lv_at hl 0 rfl) ?_
  refine zgf S hE (ci := 4) rfl i_Name hO 0 (by decide) zw_564 rfl d_Name_stands_4 ?_
  refine zalen hx hb hE 0 (by decide) hA rfl d_Name_stands_7 ?_
  refine zi_icmp_eq hx hb d_Name_stands_8 rfl (by omega) (by omega) (fun h8 => ?_) (fun h8 => ?_)
  · refine zi_iconst hx hb d_Name_stands_13 ?_
    refine lv_istore (lv' := [(4, .int (iI 0)), (0, .ref h), (1, .ref r), (2, .int (iI ((k0 : Nat) : Int))), (3, .int (iI ((k1 : Nat) : Int)))]) hx hb d_Name_stands_14 hl (by decide) rfl (fun ls hl => ?_)
    have key : ∃ (k : Nat), (k ≤ w.length ∧ ∀ m, m < k → sp_b b (k0 + m) = w.getD m 0) ∧ lv_has ls 5 [(4, .int (iI ((k : Nat) : Int))), (0, .ref h), (1, .ref r), (2, .int (iI ((k0 : Nat) : Int))), (3, .int (iI ((k1 : Nat) : Int)))] := ⟨0, ⟨by omega, fun m hm => by omega⟩, hl⟩
    clear hl
    obtain ⟨k, hinv, hl⟩ := key
    obtain ⟨n, hn⟩ : ∃ n : Nat, w.length - k < n := ⟨_, Nat.lt_succ_self _⟩
    induction n generalizing k ls with
    | zero => exact absurd hn (Nat.not_lt_zero _)
    | succ n ih =>
      obtain ⟨h1, h2⟩ := hinv
      refine lv_iload hx hb d_Name_stands_16 (lv_at hl 0 rfl) ?_
      refine lv_aload_n hx hb d_Name_stands_18 rfl (lv_at hl 1 rfl) ?_
      refine zgf S hE (ci := 4) rfl i_Name hO 0 (by decide) zw_564 rfl d_Name_stands_19 ?_
      refine zalen hx hb hE 0 (by decide) hA rfl d_Name_stands_22 ?_
      refine zi_icmp_ge hx hb d_Name_stands_23 rfl (by omega) (by omega) (fun h23 => ?_) (fun h23 => ?_)
      · refine zi_iconst hx hb d_Name_stands_52 ?_
        exact zretZ (b := true) S hr hlk d_Name_stands_53 (by rw [sp_same_t (fun m hm => h2 m (by omega)), show decide (k1 - k0 = w.length) = true from decide_eq_true (by omega)]; rfl)
      · refine lv_aload_n hx hb d_Name_stands_26 rfl (lv_at hl 2 rfl) ?_
        refine lv_iload_n hx hb d_Name_stands_27 rfl (lv_at hl 3 rfl) ?_
        refine lv_iload hx hb d_Name_stands_28 (lv_at hl 0 rfl) ?_
        refine zi_iadd hx hb d_Name_stands_30 ?_
        refine zcR (va_runV (As := [.int (iI (((k0 : Nat) : Int) + ((k : Nat) : Int)))]) (rest := []) S (c_Row_at l E r b (((k0 : Nat) : Int) + ((k : Nat) : Int)) (by omega)) ⟨zcwB (n := 1) S zw_437 zw_2 zw_554 (by decide +kernel) rfl rfl ⟨Nat.le_of_ble_eq_true rfl, Nat.le_of_ble_eq_true rfl⟩, S.2.2.2.2 _ zw_435, S.2.2.2.2 _ zw_436⟩ (zPreVrow hE hrow hrow) rfl rfl hl.1 rfl (lv_room (Nat.le_of_ble_eq_true rfl)) d_Name_stands_31 ⟨Nat.zero_le _, Nat.zero_le _⟩) ?_
        rw [sp_at_in (n := k0 + k) (by omega) (by omega)]
        have hb31 := sp_b_lt (zrow.lt hrow) (k0 + k)
        refine lv_aload_n hx hb d_Name_stands_34 rfl (lv_at hl 1 rfl) ?_
        refine zgf S hE (ci := 4) rfl i_Name hO 0 (by decide) zw_564 rfl d_Name_stands_35 ?_
        refine lv_iload hx hb d_Name_stands_38 (lv_at hl 0 rfl) ?_
        refine zbald hx hb hE hA (by omega) (by omega) (by omega) d_Name_stands_40 ?_
        have hw8 : w.getD k 0 < 128 := getD_lt h128 (by omega)
        rw [Int.toNat_natCast, hf k (by omega), sb_pos ⟨w.getD k 0, hw8⟩]
        dsimp only
        refine zi_icmp_eq hx hb d_Name_stands_41 rfl (by omega) (by omega) (fun h41 => ?_) (fun h41 => ?_)
        · refine lv_iinc (k := 0) (v := (iI (((k : Nat) : Int) + 1))) (lv' := [(4, .int (iI (((k : Nat) : Int) + 1))), (0, .ref h), (1, .ref r), (2, .int (iI ((k0 : Nat) : Int))), (3, .int (iI ((k1 : Nat) : Int)))]) hx hb d_Name_stands_46 hl rfl (iI_add _ _) (by decide) rfl (fun ls hl => ?_)
          refine lv_goto hx hb d_Name_stands_49 rfl ?_
          exact ih ls (k + 1) (⟨by omega, fun m hm => by rcases Nat.lt_or_ge m k with z | z; exact h2 m z; rw [show m = k by omega]; omega⟩) (lv_sub hl [0, 1, 2, 3, 4] rfl) (by omega)
        · refine zi_iconst hx hb d_Name_stands_44 ?_
          exact zretZ (b := false) S hr hlk d_Name_stands_45 (by rw [sp_same_f (m := k) (by omega) (by omega), Bool.and_false])
  · refine zi_iconst hx hb d_Name_stands_11 ?_
    exact zretZ (b := false) S hr hlk d_Name_stands_12 (by rw [show decide (k1 - k0 = w.length) = false from decide_eq_false (by omega)]; rfl)
