set_option maxRecDepth 100000 in
set_option maxHeartbeats 4000000 in
theorem c_Escape_digitsEnd (l : Launch) (E : zP) (h tx en i j : Nat) (ch nx : Int) (utf : Bool) (t : List Nat) (mm r0 : Nat) (r : Int) (hr0 : r = (r0 : Int)) (hr1 : r0 = 8 ∨ r0 = 16) (hm : mm ≤ 8) (hie : i ≤ j) (he : j ≤ t.length) : Met l y_Escape_digitsEnd (.code y_Escape_digitsEnd b_Escape_digitsEnd 5 ( some FieldType.int ) :: zw) { frames := 1, cells := 0, slots := 0, locals := 22 } (zPc E [.ref h, .int (iI ((sp_off utf t i : Nat) : Int)), .int (iI (min ((sp_off utf t j : Nat) : Int) (((sp_off utf t i : Nat) : Int) + ((mm : Nat) : Int)))), .int (iI r)] (fun H => zO E 7 h [.ref tx, .ref en, .int (iI ch), .int (iI nx)] H ∧ zrow E tx (sp_encs utf t) H)) (zR (some (.int (iI ((sp_off utf t (sp_digs r0 t i (min j (i + mm))) : Nat) : Int))))) 0 0 (fun _ => False) := by
  refine zMet (by decide) (Nat.le_of_ble_eq_true rfl) ?_
  intro p e s m below meth c ls S hr hlk hnm hE ⟨hp, hrow⟩ hl
  have hx := S.1
  have hb := S.2.1
  have hl : lv_has ls 5 [(0, .ref h), (1, .int (iI ((sp_off utf t i : Nat) : Int))), (2, .int (iI (min ((sp_off utf t j : Nat) : Int) (((sp_off utf t i : Nat) : Int) + ((mm : Nat) : Int))))), (3, .int (iI r))] := hl
  have hbl := zrow.len hrow
  have hbe := sp_off_le_len utf he
  have hbi := sp_off_le_len utf (t := t) (i := i) (by omega)
  have hmn := sp_off_mono utf hie he
  refine lv_iload_n hx hb d_Escape_digitsEnd_0 rfl (lv_at hl 1 rfl) ?_
  refine lv_istore (lv' := [(4, .int (iI ((sp_off utf t i : Nat) : Int))), (0, .ref h), (1, .int (iI ((sp_off utf t i : Nat) : Int))), (2, .int (iI (min ((sp_off utf t j : Nat) : Int) (((sp_off utf t i : Nat) : Int) + ((mm : Nat) : Int))))), (3, .int (iI r))]) hx hb d_Escape_digitsEnd_1 hl (by decide) rfl (fun ls hl => ?_)
  have key : ∃ (k : Nat), (i ≤ k ∧ k ≤ min j (i + mm) ∧ sp_off utf t k = sp_off utf t i + (k - i) ∧ sp_digs r0 t k (min j (i + mm)) = sp_digs r0 t i (min j (i + mm))) ∧ lv_has ls 5 [(4, .int (iI ((sp_off utf t k : Nat) : Int))), (0, .ref h), (1, .int (iI ((sp_off utf t i : Nat) : Int))), (2, .int (iI (min ((sp_off utf t j : Nat) : Int) (((sp_off utf t i : Nat) : Int) + ((mm : Nat) : Int))))), (3, .int (iI r))] := ⟨i, ⟨by omega, by omega, by omega, rfl⟩, hl⟩
  clear hl
  obtain ⟨k, hinv, hl⟩ := key
  obtain ⟨n, hn⟩ : ∃ n : Nat, j - k < n := ⟨_, Nat.lt_succ_self _⟩
  induction n generalizing k ls with
  | zero => exact absurd hn (Nat.not_lt_zero _)
  | succ n ih =>
    obtain ⟨h1, h2, h3, h4⟩ := hinv
    have hke := sp_off_lt utf (t := t) (i := k) (j := j) (by omega) (by omega); have hbk := sp_off_le_len utf (t := t) (i := k) (by omega)
    refine lv_iload hx hb d_Escape_digitsEnd_3 (lv_at hl 0 rfl) ?_
    refine lv_iload_n hx hb d_Escape_digitsEnd_5 rfl (lv_at hl 3 rfl) ?_
    refine zi_icmp_ge hx hb d_Escape_digitsEnd_6 rfl (by omega) (by omega) (fun h6 => ?_) (fun h6 => ?_)
    · refine lv_iload hx hb d_Escape_digitsEnd_31 (lv_at hl 0 rfl) ?_
      exact zretI S hr hlk d_Escape_digitsEnd_33 (congrArg iI (by rw [← h4]; first | rw [show sp_digs r0 t k (min j (i + mm)) = k from sp_to_end (by omega)] | rw [show sp_digs r0 t k (min j (i + mm)) = k from sp_to_stop (decide_eq_false (by omega))]))
    · refine lv_aload_n hx hb d_Escape_digitsEnd_9 rfl (lv_at hl 1 rfl) ?_
      refine zgf S hE (ci := 7) rfl i_Escape hp 0 (by decide) zw_185 rfl d_Escape_digitsEnd_10 ?_
      refine lv_iload hx hb d_Escape_digitsEnd_13 (lv_at hl 0 rfl) ?_
      refine zcR (va_runV (As := [.int (iI ((sp_off utf t k : Nat) : Int))]) (rest := []) S (c_Row_at l E tx (sp_encs utf t) ((sp_off utf t k : Nat) : Int) (by omega)) ⟨zcwB (n := 1) S zw_437 zw_2 zw_782 (by decide +kernel) rfl rfl ⟨Nat.le_of_ble_eq_true rfl, Nat.le_of_ble_eq_true rfl⟩, S.2.2.2.2 _ zw_435, S.2.2.2.2 _ zw_436⟩ (zPreVrow hE hrow hrow) rfl rfl hl.1 rfl (lv_room (Nat.le_of_ble_eq_true rfl)) d_Escape_digitsEnd_15 ⟨Nat.zero_le _, Nat.zero_le _⟩) ?_
      rw [sp_at_in (n := sp_off utf t k) (by omega) (sp_off_lt_len (by omega))]
      have hb15 := sp_b_lt (zrow.lt hrow) (sp_off utf t k)
      have hasc := sp_off_b (utf := utf) (t := t) (i := k) (by omega)
      have hva : sp_val ((sp_b (sp_encs utf t) (sp_off utf t k) : Nat) : Int) = sp_val ((t.getD k 0 : Nat) : Int) := sp_val_asc (by omega)
      refine lv_iload_n hx hb d_Escape_digitsEnd_18 rfl (lv_at hl 4 rfl) ?_
      refine zcR (va_runS (As := [.int (iI ((sp_b (sp_encs utf t) (sp_off utf t k) : Nat) : Int)), .int (iI r)]) (rest := []) S (c_Ascii_digit l E ((sp_b (sp_encs utf t) (sp_off utf t k) : Nat) : Int) r (by omega) (by omega) (by omega)) ⟨zcwB (n := 2) S zw_802 zw_27 zw_800 (by decide +kernel) rfl rfl ⟨Nat.le_of_ble_eq_true rfl, Nat.le_of_ble_eq_true rfl⟩, S.2.2.2.2 _ zw_801⟩ (zPreS hE trivial) rfl rfl hl.1 rfl (lv_room (Nat.le_of_ble_eq_true rfl)) d_Escape_digitsEnd_19 ⟨Nat.zero_le _, Nat.zero_le _⟩) ?_
      have hvr := sp_val_r ((t.getD k 0 : Nat) : Int)
      rw [hva]
      refine zi_if_lt hx hb d_Escape_digitsEnd_22 rfl (by omega) (fun h22 => ?_) (fun h22 => ?_)
      · refine lv_iload hx hb d_Escape_digitsEnd_31 (lv_at hl 0 rfl) ?_
        exact zretI S hr hlk d_Escape_digitsEnd_33 (congrArg iI (by rw [← h4]; first | rw [show sp_digs r0 t k (min j (i + mm)) = k from sp_to_end (by omega)] | rw [show sp_digs r0 t k (min j (i + mm)) = k from sp_to_stop (decide_eq_false (by omega))]))
      · have hv9 : sp_val ((t.getD k 0 : Nat) : Int) < r := by omega
        have hlt9 := sp_val_lt (z := ((t.getD k 0 : Nat) : Int)) (by omega)
        have hsc : sp_off utf t (k + 1) = sp_off utf t k + 1 := sp_off_asc utf (by omega) (by omega)
        refine lv_iinc (k := 0) (v := iI ((sp_off utf t (k + 1) : Nat) : Int)) (lv' := [(4, .int (iI ((sp_off utf t (k + 1) : Nat) : Int))), (0, .ref h), (1, .int (iI ((sp_off utf t i : Nat) : Int))), (2, .int (iI (min ((sp_off utf t j : Nat) : Int) (((sp_off utf t i : Nat) : Int) + ((mm : Nat) : Int))))), (3, .int (iI r))]) hx hb d_Escape_digitsEnd_25 hl rfl (by rw [show Int32.ofInt 1 = iI 1 from rfl, iI_add]; congr 1; omega) (by decide) rfl (fun ls hl => ?_)
        refine lv_goto hx hb d_Escape_digitsEnd_28 rfl ?_
        exact ih ls (k + 1) (⟨by omega, by omega, by omega, by rw [← h4]; exact (sp_to_go (by omega) (decide_eq_true (by omega))).symm⟩) (lv_sub hl [0, 1, 2, 3, 4] rfl) (by omega)

section ZRL
variable {p : Program} {l : Launch} {e : Env} {R : Room} {s : State} {m : MethodId} {args : Array Value} {below : List Frame} {meth : Method} {c : Code} {cells slots : Nat} {cc : ByteArray} {pc nL : Nat} {ls : Array Slot} {own : String} {Ts : List Cond}
theorem zretL {v r : Int64} {free : Addr → Prop} (S : CallFix p m c cc nL s args Ts own) (hr : meth.sig.returnType = some .long) (hlk : meth.locks = false) (hd : decode cc pc = .ok (.lreturn, 1)) (hv : v = r) : W p l e R s m args below meth c s.heap [] cells slots (MQ below (zR (some (.long r))) args s cells slots free) (F0 m pc ls [.long v]) := by
  subst hv
  exact W.lret S.1 S.2.1 hr (fun t ht _ => ⟨rfl, ht⟩) (fun _ h => nomatch h) hd (hlocks := hlk)
end ZRL

set_option maxRecDepth 100000 in
set_option maxHeartbeats 4000000 in
theorem c_Escape_valueOf (l : Launch) (E : zP) (h tx en i j : Nat) (ch nx : Int) (utf : Bool) (t : List Nat) (r0 : Nat) (r : Int) (hr0 : r = (r0 : Int)) (hr1 : r0 = 8 ∨ r0 = 16) (hie : i ≤ j) (he : j ≤ t.length) (hdig : ∀ k, i ≤ k → k < j → sp_val ((t.getD k 0 : Nat) : Int) < r) : Met l y_Escape_valueOf (.code y_Escape_valueOf b_Escape_valueOf 7 ( some FieldType.long ) :: zw) { frames := 1, cells := 0, slots := 0, locals := 22 } (zPc E [.ref h, .int (iI ((sp_off utf t i : Nat) : Int)), .int (iI ((sp_off utf t j : Nat) : Int)), .int (iI r)] (fun H => zO E 7 h [.ref tx, .ref en, .int (iI ch), .int (iI nx)] H ∧ zrow E tx (sp_encs utf t) H)) (zR (some (.long (jL ((sp_worth r0 t (j - i) i 0 : Nat) : Int))))) 0 0 (fun _ => False) := by
  refine zMet (by decide) (Nat.le_of_ble_eq_true rfl) ?_
  intro p e s m below meth c ls S hr hlk hnm hE ⟨hp, hrow⟩ hl
  have hx := S.1
  have hb := S.2.1
  have hl : lv_has ls 7 [(0, .ref h), (1, .int (iI ((sp_off utf t i : Nat) : Int))), (2, .int (iI ((sp_off utf t j : Nat) : Int))), (3, .int (iI r))] := hl
  have hbl := zrow.len hrow
  have hbe := sp_off_le_len utf he
  have hbi := sp_off_le_len utf (t := t) (i := i) (by omega)
  have hmn := sp_off_mono utf hie he
  refine zl_lconst (a := 0) hx hb d_Escape_valueOf_0 (by decide) ?_
  refine lv_lstore (lv' := [(4, .long (jL 0)), (0, .ref h), (1, .int (iI ((sp_off utf t i : Nat) : Int))), (2, .int (iI ((sp_off utf t j : Nat) : Int))), (3, .int (iI r))]) hx hb d_Escape_valueOf_1 hl (by decide) rfl (fun ls hl => ?_)
  refine lv_iload_n hx hb d_Escape_valueOf_3 rfl (lv_at hl 2 rfl) ?_
  refine lv_istore (lv' := [(6, .int (iI ((sp_off utf t i : Nat) : Int))), (4, .long (jL 0)), (0, .ref h), (1, .int (iI ((sp_off utf t i : Nat) : Int))), (2, .int (iI ((sp_off utf t j : Nat) : Int))), (3, .int (iI r))]) hx hb d_Escape_valueOf_4 hl (by decide) rfl (fun ls hl => ?_)
  have key : ∃ (k : Nat) (w : Nat), (i ≤ k ∧ k ≤ j ∧ sp_worth r0 t (j - k) k w = sp_worth r0 t (j - i) i 0) ∧ lv_has ls 7 [(6, .int (iI ((sp_off utf t k : Nat) : Int))), (4, .long (jL ((w : Nat) : Int))), (0, .ref h), (1, .int (iI ((sp_off utf t i : Nat) : Int))), (2, .int (iI ((sp_off utf t j : Nat) : Int))), (3, .int (iI r))] := ⟨i, 0, ⟨by omega, by omega, rfl⟩, hl⟩
  clear hl
  obtain ⟨k, w, hinv, hl⟩ := key
  obtain ⟨n, hn⟩ : ∃ n : Nat, j - k < n := ⟨_, Nat.lt_succ_self _⟩
  induction n generalizing k w ls with
  | zero => exact absurd hn (Nat.not_lt_zero _)
  | succ n ih =>
    obtain ⟨h1, h2, h3⟩ := hinv
    have hke := sp_off_lt utf (t := t) (i := k) (j := j) (by omega) (by omega); have hbk := sp_off_le_len utf (t := t) (i := k) (by omega)
    refine lv_iload hx hb d_Escape_valueOf_6 (lv_at hl 0 rfl) ?_
    refine lv_iload_n hx hb d_Escape_valueOf_8 rfl (lv_at hl 4 rfl) ?_
    refine zi_icmp_ge hx hb d_Escape_valueOf_9 rfl (by omega) (by omega) (fun h9 => ?_) (fun h9 => ?_)
    · refine lv_lload hx hb d_Escape_valueOf_40 (lv_at hl 1 rfl) ?_
      exact zretL S hr hlk d_Escape_valueOf_42 (congrArg jL (by rw [← h3, sp_worth_end (by omega)]))
    · refine lv_lload hx hb d_Escape_valueOf_12 (lv_at hl 1 rfl) ?_
      refine lv_iload_n hx hb d_Escape_valueOf_14 rfl (lv_at hl 5 rfl) ?_
      refine zl_i2l hx hb d_Escape_valueOf_15 (by omega) ?_
      refine zl_lmul hx hb d_Escape_valueOf_16 ?_
      refine lv_aload_n hx hb d_Escape_valueOf_17 rfl (lv_at hl 2 rfl) ?_
      refine zgf S hE (ci := 7) rfl i_Escape hp 0 (by decide) zw_185 rfl d_Escape_valueOf_18 ?_
      refine lv_iload hx hb d_Escape_valueOf_21 (lv_at hl 0 rfl) ?_
      refine zcR (va_runV (As := [.int (iI ((sp_off utf t k : Nat) : Int))]) (rest := [.long (jL (((w : Nat) : Int) * r))]) S (c_Row_at l E tx (sp_encs utf t) ((sp_off utf t k : Nat) : Int) (by omega)) ⟨zcwB (n := 1) S zw_437 zw_2 zw_782 (by decide +kernel) rfl rfl ⟨Nat.le_of_ble_eq_true rfl, Nat.le_of_ble_eq_true rfl⟩, S.2.2.2.2 _ zw_435, S.2.2.2.2 _ zw_436⟩ (zPreVrow hE hrow hrow) rfl rfl hl.1 rfl (lv_room (Nat.le_of_ble_eq_true rfl)) d_Escape_valueOf_23 ⟨Nat.zero_le _, Nat.zero_le _⟩) ?_
      rw [sp_at_in (n := sp_off utf t k) (by omega) (sp_off_lt_len (by omega))]
      have hb23 := sp_b_lt (zrow.lt hrow) (sp_off utf t k)
      have hasc := sp_off_b (utf := utf) (t := t) (i := k) (by omega)
      have hva : sp_val ((sp_b (sp_encs utf t) (sp_off utf t k) : Nat) : Int) = sp_val ((t.getD k 0 : Nat) : Int) := sp_val_asc (by omega)
      refine lv_iload_n hx hb d_Escape_valueOf_26 rfl (lv_at hl 5 rfl) ?_
      refine zcR (va_runS (As := [.int (iI ((sp_b (sp_encs utf t) (sp_off utf t k) : Nat) : Int)), .int (iI r)]) (rest := [.long (jL (((w : Nat) : Int) * r))]) S (c_Ascii_digit l E ((sp_b (sp_encs utf t) (sp_off utf t k) : Nat) : Int) r (by omega) (by omega) (by omega)) ⟨zcwB (n := 2) S zw_802 zw_27 zw_800 (by decide +kernel) rfl rfl ⟨Nat.le_of_ble_eq_true rfl, Nat.le_of_ble_eq_true rfl⟩, S.2.2.2.2 _ zw_801⟩ (zPreS hE trivial) rfl rfl hl.1 rfl (lv_room (Nat.le_of_ble_eq_true rfl)) d_Escape_valueOf_27 ⟨Nat.zero_le _, Nat.zero_le _⟩) ?_
      have hvr := sp_val_r ((t.getD k 0 : Nat) : Int)
      rw [hva]
      have hv9 : sp_val ((t.getD k 0 : Nat) : Int) < r := by have := hdig k h1 (by omega); omega
      have hlt9 := sp_val_lt (z := ((t.getD k 0 : Nat) : Int)) (by omega)
      have hsc : sp_off utf t (k + 1) = sp_off utf t k + 1 := sp_off_asc utf (by omega) (by omega)
      refine zl_i2l hx hb d_Escape_valueOf_30 (by omega) ?_
      refine zl_ladd hx hb d_Escape_valueOf_31 ?_
      rw [if_pos hv9, show ((w : Nat) : Int) * r + sp_val ((t.getD k 0 : Nat) : Int) = ((w * r0 + (sp_val ((t.getD k 0 : Nat) : Int)).toNat : Nat) : Int) by rw [hr0]; push_cast; omega]
      refine lv_lstore (lv' := [(4, .long (jL ((w * r0 + (sp_val ((t.getD k 0 : Nat) : Int)).toNat : Nat) : Int))), (6, .int (iI ((sp_off utf t k : Nat) : Int))), (0, .ref h), (1, .int (iI ((sp_off utf t i : Nat) : Int))), (2, .int (iI ((sp_off utf t j : Nat) : Int))), (3, .int (iI r))]) hx hb d_Escape_valueOf_32 hl (by decide) rfl (fun ls hl => ?_)
      refine lv_iinc (k := 1) (v := iI ((sp_off utf t (k + 1) : Nat) : Int)) (lv' := [(6, .int (iI ((sp_off utf t (k + 1) : Nat) : Int))), (4, .long (jL ((w * r0 + (sp_val ((t.getD k 0 : Nat) : Int)).toNat : Nat) : Int))), (0, .ref h), (1, .int (iI ((sp_off utf t i : Nat) : Int))), (2, .int (iI ((sp_off utf t j : Nat) : Int))), (3, .int (iI r))]) hx hb d_Escape_valueOf_34 hl rfl (by rw [show Int32.ofInt 1 = iI 1 from rfl, iI_add]; congr 1; omega) (by decide) rfl (fun ls hl => ?_)
      refine lv_goto hx hb d_Escape_valueOf_37 rfl ?_
      exact ih ls (k + 1) (w * r0 + (sp_val ((t.getD k 0 : Nat) : Int)).toNat) (⟨by omega, by omega, by rw [← h3]; exact (sp_worth_step (by omega)).symm⟩) (lv_sub hl [0, 1, 2, 3, 4, 5] rfl) (by omega)

set_option maxRecDepth 100000 in
set_option maxHeartbeats 4000000 in
theorem c_Escape_found (l : Launch) (E : zP) (sz : Nat) (h tx en : Nat) (ch nx c1 n1 : Int) : Met l y_Escape_found (.code y_Escape_found b_Escape_found 3 ( some FieldType.boolean ) :: zw) { frames := 0, cells := (0), slots := (0), locals := 0 } (zPc E [.ref h, .int (iI c1), .int (iI n1)] (fun H => H.size = sz ∧ va_P E.1 zcl [(h, .inr (7, [.ref tx, .ref en, .int (iI ch), .int (iI nx)]))] H ∧ va_D (zOld E) [(h, .inr (7, [.ref tx, .ref en, .int (iI ch), .int (iI nx)]))] ∧ (True))) (zW (fun v H => v = some (.int (iI (bN true))) ∧ va_P E.1 zcl [(h, .inr (7, [.ref tx, .ref en, .int (iI c1), .int (iI n1)]))] H ∧ va_D (va_A [(h, .inr (7, [.ref tx, .ref en, .int (iI ch), .int (iI nx)]))] sz) [(h, .inr (7, [.ref tx, .ref en, .int (iI c1), .int (iI n1)]))]) (va_A [(h, .inr (7, [.ref tx, .ref en, .int (iI ch), .int (iI nx)]))] sz)) (0) (0) (va_A [(h, .inr (7, [.ref tx, .ref en, .int (iI ch), .int (iI nx)]))] sz) := by
  refine zMet (by decide) (Nat.le_of_ble_eq_true rfl) ?_
  intro p e s m below meth c ls S hr hlk hnm hE ⟨hsz, hP, hDo, hX⟩ hl
  have hx := S.1
  have hb := S.2.1
  have hE0 := hE
  have hl : lv_has ls 3 [(0, .ref h), (1, .int (iI c1)), (2, .int (iI n1))] := hl
  subst hsz
  have hD := hDo.self (sz := s.heap.size)
  generalize hAe : va_A [(h, .inr (7, [.ref tx, .ref en, .int (iI ch), .int (iI nx)]))] s.heap.size = A at hD ⊢
  have hA : ∀ q : Nat, s.heap.size ≤ q → A q := fun q h => by rw [← hAe]; exact Or.inr h
  have hA0 := zA0 hE hDo hAe
  have hS : va_S A s.heap s.heap [] := va_S.rf
  refine lv_aload_n hx hb d_Escape_found_0 rfl (lv_at hl 0 rfl) ?_
  refine lv_iload_n hx hb d_Escape_found_1 rfl (lv_at hl 1 rfl) ?_
  refine va_put (D := E.1) (ci := 7) (v := .int (iI c1)) (ty := .int) (C := "ReplacementWriter$Escape") (T := F_Escape) (N := 4) hx hb S.2.2.2.2 i_Escape t_Escape t_Escape_ok n_Escape S.2.2.2.1 hE.1 hP hD hS 0 rfl rfl 2 (by decide) (S.2.2.2.2 _ zw_187) (fun _ h9 => h9) rfl (by decide +kernel) rfl rfl (Nat.le_of_ble_eq_true rfl) d_Escape_found_2 (fun H locs hP hD hS => ?_)
  have hP : va_P E.1 zcl [(h, .inr (7, [.ref tx, .ref en, .int (iI c1), .int (iI nx)]))] H := hP
  have hD : va_D A [(h, .inr (7, [.ref tx, .ref en, .int (iI c1), .int (iI nx)]))] := hD
  have hE := hE0.at hS hA0
  refine lv_aload_n hx hb d_Escape_found_5 rfl (lv_at hl 0 rfl) ?_
  refine lv_iload_n hx hb d_Escape_found_6 rfl (lv_at hl 2 rfl) ?_
  refine va_put (D := E.1) (ci := 7) (v := .int (iI n1)) (ty := .int) (C := "ReplacementWriter$Escape") (T := F_Escape) (N := 4) hx hb S.2.2.2.2 i_Escape t_Escape t_Escape_ok n_Escape S.2.2.2.1 hE.1 hP hD hS 0 rfl rfl 3 (by decide) (S.2.2.2.2 _ zw_188) (fun _ h9 => h9) rfl (by decide +kernel) rfl rfl (Nat.le_of_ble_eq_true rfl) d_Escape_found_7 (fun H locs hP hD hS => ?_)
  have hP : va_P E.1 zcl [(h, .inr (7, [.ref tx, .ref en, .int (iI c1), .int (iI n1)]))] H := hP
  have hD : va_D A [(h, .inr (7, [.ref tx, .ref en, .int (iI c1), .int (iI n1)]))] := hD
  have hE := hE0.at hS hA0
  refine zi_iconst hx hb d_Escape_found_10 ?_
  exact zwz (b := true) S hr hlk hS (⟨rfl, hP, hD⟩) (by (try dsimp only); omega) (by (try dsimp only); omega) d_Escape_found_11
