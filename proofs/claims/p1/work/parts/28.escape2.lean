set_option maxRecDepth 100000 in
set_option maxHeartbeats 4000000 in
theorem c_Escape_readControl (l : Launch) (E : zP) (sz : Nat) (Z : Nat → Prop) (h tx en i j : Nat) (ch nx : Int) (utf : Bool) (t : List Nat) (hie : i ≤ j) (he : j ≤ t.length) (htl : (sp_encs utf t).length ≤ 65536) : Met l y_Escape_readControl (.code y_Escape_readControl b_Escape_readControl 5 ( some FieldType.boolean ) :: zw) { frames := 1, cells := (0), slots := (0), locals := 22 } (zPc E [.ref h, .int (iI ((sp_off utf t i : Nat) : Int)), .int (iI ((sp_off utf t j : Nat) : Int))] (fun H => H.size = sz ∧ va_P E.1 zcl [(h, .inr (7, [.ref tx, .ref en, .int (iI ch), .int (iI nx)]))] H ∧ va_D (fun x => zOld E x ∧ ¬ Z x) [(h, .inr (7, [.ref tx, .ref en, .int (iI ch), .int (iI nx)]))] ∧ (∀ q, Z q → q < sz) ∧ (Z tx ∧ Z en ∧ zO E 2 en [.int (iI (bN utf))] H ∧ zrowZ E Z tx (sp_encs utf t) H))) (zW (fun v H => (∃ (c1 n1 : Int), va_P E.1 zcl [(h, .inr (7, [.ref tx, .ref en, .int (iI c1), .int (iI n1)]))] H ∧ va_D (va_A [(h, .inr (7, [.ref tx, .ref en, .int (iI ch), .int (iI nx)]))] sz) [(h, .inr (7, [.ref tx, .ref en, .int (iI c1), .int (iI n1)]))] ∧ (match (if 32 ≤ sp_see t i j ∧ sp_see t i j ≤ 126 then some (sp_ctl (sp_see t i j), i + 1) else none) with | none => v = some (.int (iI (bN false))) | some (a, k) => v = some (.int (iI (bN true))) ∧ c1 = ((a : Nat) : Int) ∧ n1 = ((sp_off utf t k : Nat) : Int)))) (va_A [(h, .inr (7, [.ref tx, .ref en, .int (iI ch), .int (iI nx)]))] sz)) (0) (0) (va_A [(h, .inr (7, [.ref tx, .ref en, .int (iI ch), .int (iI nx)]))] sz) := by
  refine zMet (by decide) (Nat.le_of_ble_eq_true rfl) ?_
  intro p e s m below meth c ls S hr hlk hnm hE ⟨hsz, hP, hDo, hZb, hzt, hze, hen, hrowz⟩ hl
  have hx := S.1
  have hb := S.2.1
  have hE0 := hE
  have hl : lv_has ls 5 [(0, .ref h), (1, .int (iI ((sp_off utf t i : Nat) : Int))), (2, .int (iI ((sp_off utf t j : Nat) : Int)))] := hl
  subst hsz
  have hD := hDo.self (sz := s.heap.size)
  generalize hAe : va_A [(h, .inr (7, [.ref tx, .ref en, .int (iI ch), .int (iI nx)]))] s.heap.size = A at hD ⊢
  have hA : ∀ q : Nat, s.heap.size ≤ q → A q := fun q h => by rw [← hAe]; exact Or.inr h
  have hA1 := zAZ hE hDo hZb hAe
  have hA0 : ∀ q, A q → zOld E q := fun q h => (hA1 q h).1
  have hAZ : ∀ q, Z q → ¬ A q := fun q z h => (hA1 q h).2 z
  have hS : va_S A s.heap s.heap [] := va_S.rf
  have hbl := (zrowZ.row hrowz).len
  have hbe := sp_off_le_len utf he
  have hbi := sp_off_le_len utf (t := t) (i := i) (by omega)
  have hmn := sp_off_mono utf hie he
  have hlt := sp_off_lt utf (t := t) (i := i) (j := j) (by omega) he
  refine lv_iload_n hx hb d_Escape_readControl_0 rfl (lv_at hl 1 rfl) ?_
  refine lv_iload_n hx hb d_Escape_readControl_1 rfl (lv_at hl 2 rfl) ?_
  refine zi_icmp_ge hx hb d_Escape_readControl_2 rfl (by omega) (by omega) (fun h2 => ?_) (fun h2 => ?_)
  · refine zi_iconst hx hb d_Escape_readControl_16 ?_
    refine lv_istore_n (lv' := [(3, .int (iI (-1))), (0, .ref h), (1, .int (iI ((sp_off utf t i : Nat) : Int))), (2, .int (iI ((sp_off utf t j : Nat) : Int)))]) hx hb d_Escape_readControl_17 rfl hl (by decide) rfl (fun ls hl => ?_)
    refine lv_iload_n hx hb d_Escape_readControl_18 rfl (lv_at hl 0 rfl) ?_
    refine zi_bipush hx hb d_Escape_readControl_19 (by decide) ?_
    refine zi_icmp_lt hx hb d_Escape_readControl_21 rfl (by omega) (by omega) (fun h21 => ?_) (fun h => absurd h (by omega))
    refine zi_iconst hx hb d_Escape_readControl_30 ?_
    exact zwz (b := false) S hr hlk hS (⟨ch, nx, hP, hD, by rw [if_neg (by first | omega | (rw [hsee]; omega) | (rw [sp_see_out (by omega)]; omega))] <;> rfl⟩) (by (try dsimp only); omega) (by (try dsimp only); omega) d_Escape_readControl_31
  · refine lv_aload_n hx hb d_Escape_readControl_5 rfl (lv_at hl 0 rfl) ?_
    refine zgf S hE (ci := 7) rfl i_Escape (hP 0 _ rfl) 0 (by decide) zw_185 rfl d_Escape_readControl_6 ?_
    refine lv_iload_n hx hb d_Escape_readControl_9 rfl (lv_at hl 1 rfl) ?_
    refine zcR (va_runV (As := [.int (iI ((sp_off utf t i : Nat) : Int))]) (rest := []) S (c_Row_at l E tx (sp_encs utf t) ((sp_off utf t i : Nat) : Int) (by omega)) ⟨zcwB (n := 1) S zw_437 zw_2 zw_782 (by decide +kernel) rfl rfl ⟨Nat.le_of_ble_eq_true rfl, Nat.le_of_ble_eq_true rfl⟩, S.2.2.2.2 _ zw_435, S.2.2.2.2 _ zw_436⟩ (zPreVrow hE (zrowZ.row (zrowZ.fz hrowz hS hAZ)) (zrowZ.row (zrowZ.fz hrowz hS hAZ))) rfl rfl hl.1 rfl (lv_room (Nat.le_of_ble_eq_true rfl)) d_Escape_readControl_10 ⟨by (try dsimp only); omega, by (try dsimp only); omega⟩) ?_
    rw [sp_at_in (n := sp_off utf t i) (by omega) (sp_off_lt_len (by omega))]
    have hb10 := sp_b_lt (zrow.lt (zrowZ.row (zrowZ.fz hrowz hS hAZ))) (sp_off utf t i)
    have hasc := sp_off_b (utf := utf) (t := t) (i := i) (by omega)
    have hsee := sp_see_eq (t := t) (i := i) (e := j) (by omega)
    refine lv_goto hx hb d_Escape_readControl_13 rfl ?_
    refine lv_istore_n (lv' := [(3, .int (iI ((sp_b (sp_encs utf t) (sp_off utf t i) : Nat) : Int))), (0, .ref h), (1, .int (iI ((sp_off utf t i : Nat) : Int))), (2, .int (iI ((sp_off utf t j : Nat) : Int)))]) hx hb d_Escape_readControl_17 rfl hl (by decide) rfl (fun ls hl => ?_)
    refine lv_iload_n hx hb d_Escape_readControl_18 rfl (lv_at hl 0 rfl) ?_
    refine zi_bipush hx hb d_Escape_readControl_19 (by decide) ?_
    refine zi_icmp_lt hx hb d_Escape_readControl_21 rfl (by omega) (by omega) (fun h21 => ?_) (fun h21 => ?_)
    · refine zi_iconst hx hb d_Escape_readControl_30 ?_
      exact zwz (b := false) S hr hlk hS (⟨ch, nx, hP, hD, by rw [if_neg (by first | omega | (rw [hsee]; omega) | (rw [sp_see_out (by omega)]; omega))] <;> rfl⟩) (by (try dsimp only); omega) (by (try dsimp only); omega) d_Escape_readControl_31
    · refine lv_iload_n hx hb d_Escape_readControl_24 rfl (lv_at hl 0 rfl) ?_
      refine zi_bipush hx hb d_Escape_readControl_25 (by decide) ?_
      refine zi_icmp_le hx hb d_Escape_readControl_27 rfl (by omega) (by omega) (fun h27 => ?_) (fun h27 => ?_)
      · refine lv_iload_n hx hb d_Escape_readControl_32 rfl (lv_at hl 0 rfl) ?_
        refine zi_bipush hx hb d_Escape_readControl_33 (by decide) ?_
        refine zi_icmp_lt hx hb d_Escape_readControl_35 rfl (by omega) (by omega) (fun h35 => ?_) (fun h35 => ?_)
        · refine lv_iload_n hx hb d_Escape_readControl_51 rfl (lv_at hl 0 rfl) ?_
          refine lv_istore (lv' := [(4, .int (iI ((sp_b (sp_encs utf t) (sp_off utf t i) : Nat) : Int))), (3, .int (iI ((sp_b (sp_encs utf t) (sp_off utf t i) : Nat) : Int))), (0, .ref h), (1, .int (iI ((sp_off utf t i : Nat) : Int))), (2, .int (iI ((sp_off utf t j : Nat) : Int)))]) hx hb d_Escape_readControl_52 hl (by decide) rfl (fun ls hl => ?_)
          refine lv_aload_n hx hb d_Escape_readControl_54 rfl (lv_at hl 2 rfl) ?_
          refine lv_iload hx hb d_Escape_readControl_55 (lv_at hl 0 rfl) ?_
          refine zi_bipush hx hb d_Escape_readControl_57 (by decide) ?_
          have hcur : sp_b (sp_encs utf t) (sp_off utf t i) = t.getD i 0 := by omega
          have hs1 := (sp_off_asc utf (t := t) (i := i) (by omega) (by omega)).symm
          refine zi_ixor (r := ((sp_ctl (sp_see t i j) : Nat) : Int)) hx hb d_Escape_readControl_59 (iI_ctl (by rw [hsee]; omega) (by rw [hsee]; omega)) ?_
          refine lv_iload_n hx hb d_Escape_readControl_60 rfl (lv_at hl 3 rfl) ?_
          refine zi_iconst hx hb d_Escape_readControl_61 ?_
          refine zi_iadd hx hb d_Escape_readControl_62 ?_
          have hPc := hP.sub (ws' := [(h, .inr (7, [.ref tx, .ref en, .int (iI ch), .int (iI nx)]))]) [0] rfl
          have hDc := hD.sub (ws' := [(h, .inr (7, [.ref tx, .ref en, .int (iI ch), .int (iI nx)]))]) [0] (by decide) rfl
          have hFc := va_free (wc := [(h, .inr (7, [.ref tx, .ref en, .int (iI ch), .int (iI nx)]))]) hD hS hA [0] rfl
          refine zcW (va_runV (As := [.int (iI ((sp_ctl (sp_see t i j) : Nat) : Int)), .int (iI (((sp_off utf t i : Nat) : Int) + 1))]) (rest := []) S (c_Escape_found l E s.heap.size h tx en ch nx ((sp_ctl (sp_see t i j) : Nat) : Int) (((sp_off utf t i : Nat) : Int) + 1)) ⟨zcwB (n := 2) S zw_786 zw_13 zw_783 (by decide +kernel) rfl rfl ⟨Nat.le_of_ble_eq_true rfl, Nat.le_of_ble_eq_true rfl⟩, S.2.2.2.2 _ zw_785, S.2.2.2.2 _ zs_19⟩ (zPreV hE (hP 0 _ rfl) rfl ⟨rfl, hPc, hDc.weaken (fun _ _ _ h => hA0 _ h), trivial⟩) rfl rfl hl.1 rfl (lv_room (Nat.le_of_ble_eq_true rfl)) d_Escape_readControl_63 ⟨by (try dsimp only); omega, by (try dsimp only); omega⟩) hS (fun q _ h => hFc q h) hFc (fun v H locs hq hz1 hk1 hS => ?_)
          obtain ⟨rfl, hP1, hD1⟩ := hq
          obtain ⟨hP, hD⟩ := va_join (wr := []) (w1 := [(h, .inr (7, [.ref tx, .ref en, .int (iI ((sp_ctl (sp_see t i j) : Nat) : Int)), .int (iI (((sp_off utf t i : Nat) : Int) + 1))]))]) hP hD [0] [] rfl rfl (by decide) (by decide) hk1 hFc hP1 hD1
          have hP : va_P E.1 zcl [(h, .inr (7, [.ref tx, .ref en, .int (iI ((sp_ctl (sp_see t i j) : Nat) : Int)), .int (iI (((sp_off utf t i : Nat) : Int) + 1))]))] H := hP
          have hD : va_D A [(h, .inr (7, [.ref tx, .ref en, .int (iI ((sp_ctl (sp_see t i j) : Nat) : Int)), .int (iI (((sp_off utf t i : Nat) : Int) + 1))]))] := hD
          have hE := hE0.at hS hA0
          exact zwz S hr hlk hS (⟨((sp_ctl (sp_see t i j) : Nat) : Int), (((sp_off utf t i : Nat) : Int) + 1), hP, hD, by rw [if_pos (by rw [hsee]; omega)]; exact ⟨rfl, rfl, by rw [← hs1]; omega⟩⟩) (by (try dsimp only); omega) (by (try dsimp only); omega) d_Escape_readControl_66
        · refine lv_iload_n hx hb d_Escape_readControl_38 rfl (lv_at hl 0 rfl) ?_
          refine zi_bipush hx hb d_Escape_readControl_39 (by decide) ?_
          refine zi_icmp_gt hx hb d_Escape_readControl_41 rfl (by omega) (by omega) (fun h41 => ?_) (fun h41 => ?_)
          · refine lv_iload_n hx hb d_Escape_readControl_51 rfl (lv_at hl 0 rfl) ?_
            refine lv_istore (lv' := [(4, .int (iI ((sp_b (sp_encs utf t) (sp_off utf t i) : Nat) : Int))), (3, .int (iI ((sp_b (sp_encs utf t) (sp_off utf t i) : Nat) : Int))), (0, .ref h), (1, .int (iI ((sp_off utf t i : Nat) : Int))), (2, .int (iI ((sp_off utf t j : Nat) : Int)))]) hx hb d_Escape_readControl_52 hl (by decide) rfl (fun ls hl => ?_)
            refine lv_aload_n hx hb d_Escape_readControl_54 rfl (lv_at hl 2 rfl) ?_
            refine lv_iload hx hb d_Escape_readControl_55 (lv_at hl 0 rfl) ?_
            refine zi_bipush hx hb d_Escape_readControl_57 (by decide) ?_
            have hcur : sp_b (sp_encs utf t) (sp_off utf t i) = t.getD i 0 := by omega
            have hs1 := (sp_off_asc utf (t := t) (i := i) (by omega) (by omega)).symm
            refine zi_ixor (r := ((sp_ctl (sp_see t i j) : Nat) : Int)) hx hb d_Escape_readControl_59 (iI_ctl (by rw [hsee]; omega) (by rw [hsee]; omega)) ?_
            refine lv_iload_n hx hb d_Escape_readControl_60 rfl (lv_at hl 3 rfl) ?_
            refine zi_iconst hx hb d_Escape_readControl_61 ?_
            refine zi_iadd hx hb d_Escape_readControl_62 ?_
            have hPc := hP.sub (ws' := [(h, .inr (7, [.ref tx, .ref en, .int (iI ch), .int (iI nx)]))]) [0] rfl
            have hDc := hD.sub (ws' := [(h, .inr (7, [.ref tx, .ref en, .int (iI ch), .int (iI nx)]))]) [0] (by decide) rfl
            have hFc := va_free (wc := [(h, .inr (7, [.ref tx, .ref en, .int (iI ch), .int (iI nx)]))]) hD hS hA [0] rfl
            refine zcW (va_runV (As := [.int (iI ((sp_ctl (sp_see t i j) : Nat) : Int)), .int (iI (((sp_off utf t i : Nat) : Int) + 1))]) (rest := []) S (c_Escape_found l E s.heap.size h tx en ch nx ((sp_ctl (sp_see t i j) : Nat) : Int) (((sp_off utf t i : Nat) : Int) + 1)) ⟨zcwB (n := 2) S zw_786 zw_13 zw_783 (by decide +kernel) rfl rfl ⟨Nat.le_of_ble_eq_true rfl, Nat.le_of_ble_eq_true rfl⟩, S.2.2.2.2 _ zw_785, S.2.2.2.2 _ zs_19⟩ (zPreV hE (hP 0 _ rfl) rfl ⟨rfl, hPc, hDc.weaken (fun _ _ _ h => hA0 _ h), trivial⟩) rfl rfl hl.1 rfl (lv_room (Nat.le_of_ble_eq_true rfl)) d_Escape_readControl_63 ⟨by (try dsimp only); omega, by (try dsimp only); omega⟩) hS (fun q _ h => hFc q h) hFc (fun v H locs hq hz1 hk1 hS => ?_)
            obtain ⟨rfl, hP1, hD1⟩ := hq
            obtain ⟨hP, hD⟩ := va_join (wr := []) (w1 := [(h, .inr (7, [.ref tx, .ref en, .int (iI ((sp_ctl (sp_see t i j) : Nat) : Int)), .int (iI (((sp_off utf t i : Nat) : Int) + 1))]))]) hP hD [0] [] rfl rfl (by decide) (by decide) hk1 hFc hP1 hD1
            have hP : va_P E.1 zcl [(h, .inr (7, [.ref tx, .ref en, .int (iI ((sp_ctl (sp_see t i j) : Nat) : Int)), .int (iI (((sp_off utf t i : Nat) : Int) + 1))]))] H := hP
            have hD : va_D A [(h, .inr (7, [.ref tx, .ref en, .int (iI ((sp_ctl (sp_see t i j) : Nat) : Int)), .int (iI (((sp_off utf t i : Nat) : Int) + 1))]))] := hD
            have hE := hE0.at hS hA0
            exact zwz S hr hlk hS (⟨((sp_ctl (sp_see t i j) : Nat) : Int), (((sp_off utf t i : Nat) : Int) + 1), hP, hD, by rw [if_pos (by rw [hsee]; omega)]; exact ⟨rfl, rfl, by rw [← hs1]; omega⟩⟩) (by (try dsimp only); omega) (by (try dsimp only); omega) d_Escape_readControl_66
          · refine lv_iload_n hx hb d_Escape_readControl_44 rfl (lv_at hl 0 rfl) ?_
            refine zi_bipush hx hb d_Escape_readControl_45 (by decide) ?_
            refine zi_isub hx hb d_Escape_readControl_47 ?_
            refine lv_goto hx hb d_Escape_readControl_48 rfl ?_
            refine lv_istore (lv' := [(4, .int (iI (((sp_b (sp_encs utf t) (sp_off utf t i) : Nat) : Int) - 32))), (3, .int (iI ((sp_b (sp_encs utf t) (sp_off utf t i) : Nat) : Int))), (0, .ref h), (1, .int (iI ((sp_off utf t i : Nat) : Int))), (2, .int (iI ((sp_off utf t j : Nat) : Int)))]) hx hb d_Escape_readControl_52 hl (by decide) rfl (fun ls hl => ?_)
            refine lv_aload_n hx hb d_Escape_readControl_54 rfl (lv_at hl 2 rfl) ?_
            refine lv_iload hx hb d_Escape_readControl_55 (lv_at hl 0 rfl) ?_
            refine zi_bipush hx hb d_Escape_readControl_57 (by decide) ?_
            have hcur : sp_b (sp_encs utf t) (sp_off utf t i) = t.getD i 0 := by omega
            have hs1 := (sp_off_asc utf (t := t) (i := i) (by omega) (by omega)).symm
            refine zi_ixor (r := ((sp_ctl (sp_see t i j) : Nat) : Int)) hx hb d_Escape_readControl_59 (iI_ctl (by rw [hsee]; omega) (by rw [hsee]; omega)) ?_
            refine lv_iload_n hx hb d_Escape_readControl_60 rfl (lv_at hl 3 rfl) ?_
            refine zi_iconst hx hb d_Escape_readControl_61 ?_
            refine zi_iadd hx hb d_Escape_readControl_62 ?_
            have hPc := hP.sub (ws' := [(h, .inr (7, [.ref tx, .ref en, .int (iI ch), .int (iI nx)]))]) [0] rfl
            have hDc := hD.sub (ws' := [(h, .inr (7, [.ref tx, .ref en, .int (iI ch), .int (iI nx)]))]) [0] (by decide) rfl
            have hFc := va_free (wc := [(h, .inr (7, [.ref tx, .ref en, .int (iI ch), .int (iI nx)]))]) hD hS hA [0] rfl
            refine zcW (va_runV (As := [.int (iI ((sp_ctl (sp_see t i j) : Nat) : Int)), .int (iI (((sp_off utf t i : Nat) : Int) + 1))]) (rest := []) S (c_Escape_found l E s.heap.size h tx en ch nx ((sp_ctl (sp_see t i j) : Nat) : Int) (((sp_off utf t i : Nat) : Int) + 1)) ⟨zcwB (n := 2) S zw_786 zw_13 zw_783 (by decide +kernel) rfl rfl ⟨Nat.le_of_ble_eq_true rfl, Nat.le_of_ble_eq_true rfl⟩, S.2.2.2.2 _ zw_785, S.2.2.2.2 _ zs_19⟩ (zPreV hE (hP 0 _ rfl) rfl ⟨rfl, hPc, hDc.weaken (fun _ _ _ h => hA0 _ h), trivial⟩) rfl rfl hl.1 rfl (lv_room (Nat.le_of_ble_eq_true rfl)) d_Escape_readControl_63 ⟨by (try dsimp only); omega, by (try dsimp only); omega⟩) hS (fun q _ h => hFc q h) hFc (fun v H locs hq hz1 hk1 hS => ?_)
            obtain ⟨rfl, hP1, hD1⟩ := hq
            obtain ⟨hP, hD⟩ := va_join (wr := []) (w1 := [(h, .inr (7, [.ref tx, .ref en, .int (iI ((sp_ctl (sp_see t i j) : Nat) : Int)), .int (iI (((sp_off utf t i : Nat) : Int) + 1))]))]) hP hD [0] [] rfl rfl (by decide) (by decide) hk1 hFc hP1 hD1
            have hP : va_P E.1 zcl [(h, .inr (7, [.ref tx, .ref en, .int (iI ((sp_ctl (sp_see t i j) : Nat) : Int)), .int (iI (((sp_off utf t i : Nat) : Int) + 1))]))] H := hP
            have hD : va_D A [(h, .inr (7, [.ref tx, .ref en, .int (iI ((sp_ctl (sp_see t i j) : Nat) : Int)), .int (iI (((sp_off utf t i : Nat) : Int) + 1))]))] := hD
            have hE := hE0.at hS hA0
            exact zwz S hr hlk hS (⟨((sp_ctl (sp_see t i j) : Nat) : Int), (((sp_off utf t i : Nat) : Int) + 1), hP, hD, by rw [if_pos (by rw [hsee]; omega)]; exact ⟨rfl, rfl, by rw [← hs1]; omega⟩⟩) (by (try dsimp only); omega) (by (try dsimp only); omega) d_Escape_readControl_66
      · refine zi_iconst hx hb d_Escape_readControl_30 ?_
        exact zwz (b := false) S hr hlk hS (⟨ch, nx, hP, hD, by rw [if_neg (by first | omega | (rw [hsee]; omega) | (rw [sp_see_out (by omega)]; omega))] <;> rfl⟩) (by (try dsimp only); omega) (by (try dsimp only); omega) d_Escape_readControl_31

set_option maxRecDepth 100000 in
set_option maxHeartbeats 4000000 in
theorem c_Escape_readBare (l : Launch) (E : zP) (sz : Nat) (Z : Nat → Prop) (h tx en i j : Nat) (ch nx : Int) (utf : Bool) (t : List Nat) (r0 : Nat) (r : Int) (hr0 : r = (r0 : Int)) (hr1 : r0 = 8 ∨ r0 = 16) (hie : i ≤ j) (he : j ≤ t.length) (htl : (sp_encs utf t).length ≤ 65536) : Met l y_Escape_readBare (.code y_Escape_readBare b_Escape_readBare 5 ( some FieldType.boolean ) :: zw) { frames := 2, cells := (0), slots := (0), locals := 48 } (zPc E [.ref h, .int (iI ((sp_off utf t i : Nat) : Int)), .int (iI ((sp_off utf t j : Nat) : Int)), .int (iI r)] (fun H => H.size = sz ∧ va_P E.1 zcl [(h, .inr (7, [.ref tx, .ref en, .int (iI ch), .int (iI nx)]))] H ∧ va_D (fun x => zOld E x ∧ ¬ Z x) [(h, .inr (7, [.ref tx, .ref en, .int (iI ch), .int (iI nx)]))] ∧ (∀ q, Z q → q < sz) ∧ (Z tx ∧ Z en ∧ zO E 2 en [.int (iI (bN utf))] H ∧ zrowZ E Z tx (sp_encs utf t) H))) (zW (fun v H => (∃ (c1 n1 : Int), va_P E.1 zcl [(h, .inr (7, [.ref tx, .ref en, .int (iI c1), .int (iI n1)]))] H ∧ va_D (va_A [(h, .inr (7, [.ref tx, .ref en, .int (iI ch), .int (iI nx)]))] sz) [(h, .inr (7, [.ref tx, .ref en, .int (iI c1), .int (iI n1)]))] ∧ (match sp_bare r0 t i j with | none => v = some (.int (iI (bN false))) | some (a, k) => v = some (.int (iI (bN true))) ∧ c1 = ((a : Nat) : Int) ∧ n1 = ((sp_off utf t k : Nat) : Int)))) (va_A [(h, .inr (7, [.ref tx, .ref en, .int (iI ch), .int (iI nx)]))] sz)) (0) (0) (va_A [(h, .inr (7, [.ref tx, .ref en, .int (iI ch), .int (iI nx)]))] sz) := by
  refine zMet (by decide) (Nat.le_of_ble_eq_true rfl) ?_
  intro p e s m below meth c ls S hr hlk hnm hE ⟨hsz, hP, hDo, hZb, hzt, hze, hen, hrowz⟩ hl
  have hx := S.1
  have hb := S.2.1
  have hE0 := hE
  have hl : lv_has ls 5 [(0, .ref h), (1, .int (iI ((sp_off utf t i : Nat) : Int))), (2, .int (iI ((sp_off utf t j : Nat) : Int))), (3, .int (iI r))] := hl
  subst hsz
  have hD := hDo.self (sz := s.heap.size)
  generalize hAe : va_A [(h, .inr (7, [.ref tx, .ref en, .int (iI ch), .int (iI nx)]))] s.heap.size = A at hD ⊢
  have hA : ∀ q : Nat, s.heap.size ≤ q → A q := fun q h => by rw [← hAe]; exact Or.inr h
  have hA1 := zAZ hE hDo hZb hAe
  have hA0 : ∀ q, A q → zOld E q := fun q h => (hA1 q h).1
  have hAZ : ∀ q, Z q → ¬ A q := fun q z h => (hA1 q h).2 z
  have hS : va_S A s.heap s.heap [] := va_S.rf
  have hbl := (zrowZ.row hrowz).len
  have hbe := sp_off_le_len utf he
  have hbi := sp_off_le_len utf (t := t) (i := i) (by omega)
  have hmn := sp_off_mono utf hie he
  have hlt := sp_off_lt utf (t := t) (i := i) (j := j) (by omega) he
  refine lv_aload_n hx hb d_Escape_readBare_0 rfl (lv_at hl 0 rfl) ?_
  refine lv_iload_n hx hb d_Escape_readBare_1 rfl (lv_at hl 1 rfl) ?_
  refine lv_iload_n hx hb d_Escape_readBare_2 rfl (lv_at hl 2 rfl) ?_
  refine lv_iload_n hx hb d_Escape_readBare_3 rfl (lv_at hl 1 rfl) ?_
  refine zi_iconst hx hb d_Escape_readBare_4 ?_
  refine zi_iadd hx hb d_Escape_readBare_5 ?_
  refine zcR (va_runS (As := [.int (iI ((sp_off utf t j : Nat) : Int)), .int (iI (((sp_off utf t i : Nat) : Int) + 2))]) (rest := [.int (iI ((sp_off utf t i : Nat) : Int)), .ref h]) S (c_Math_min l E ((sp_off utf t j : Nat) : Int) (((sp_off utf t i : Nat) : Int) + 2) (by omega) (by omega)) ⟨zcwB (n := 2) S zw_366 zw_23 zw_795 (by decide +kernel) rfl rfl ⟨Nat.le_of_ble_eq_true rfl, Nat.le_of_ble_eq_true rfl⟩, S.2.2.2.2 _ zw_365⟩ (zPreS hE trivial) rfl rfl hl.1 rfl (lv_room (Nat.le_of_ble_eq_true rfl)) d_Escape_readBare_6 ⟨by (try dsimp only); omega, by (try dsimp only); omega⟩) ?_
  refine lv_iload_n hx hb d_Escape_readBare_9 rfl (lv_at hl 3 rfl) ?_
  refine zcR (va_runV (As := [.int (iI ((sp_off utf t i : Nat) : Int)), .int (iI (min ((sp_off utf t j : Nat) : Int) (((sp_off utf t i : Nat) : Int) + 2))), .int (iI r)]) (rest := []) S (c_Escape_digitsEnd l E h tx en i j ch nx utf t 2 r0 r hr0 hr1 (by omega) (by omega) he) ⟨zcwB (n := 3) S zw_799 zw_13 zw_796 (by decide +kernel) rfl rfl ⟨Nat.le_of_ble_eq_true rfl, Nat.le_of_ble_eq_true rfl⟩, S.2.2.2.2 _ zw_798, S.2.2.2.2 _ zs_22⟩ (zPreV hE (hP 0 _ rfl) rfl ⟨(hP 0 _ rfl), (zrowZ.row (zrowZ.fz hrowz hS hAZ))⟩) rfl rfl hl.1 rfl (lv_room (Nat.le_of_ble_eq_true rfl)) d_Escape_readBare_10 ⟨by (try dsimp only); omega, by (try dsimp only); omega⟩) ?_
  have hall := sp_to_all (p := fun c => decide (sp_val c < ((r0 : Nat) : Int))) (t := t) (e := min j (i + 2)) _ (i) (Nat.le_refl _) (by omega)
  obtain ⟨d1, hd1⟩ : ∃ x, x = sp_digs r0 t (i) (min j (i + 2)) := ⟨_, rfl⟩
  rw [show sp_to (fun c => decide (sp_val c < ((r0 : Nat) : Int))) t (i) (min j (i + 2)) = d1 from hd1.symm] at hall
  rw [← hd1]
  have hbd := sp_off_le_len utf (t := t) (i := d1) (by omega)
  refine lv_istore (lv' := [(4, .int (iI ((sp_off utf t d1 : Nat) : Int))), (0, .ref h), (1, .int (iI ((sp_off utf t i : Nat) : Int))), (2, .int (iI ((sp_off utf t j : Nat) : Int))), (3, .int (iI r))]) hx hb d_Escape_readBare_13 hl (by decide) rfl (fun ls hl => ?_)
  refine lv_aload_n hx hb d_Escape_readBare_15 rfl (lv_at hl 1 rfl) ?_
  refine lv_aload_n hx hb d_Escape_readBare_16 rfl (lv_at hl 1 rfl) ?_
  refine lv_iload_n hx hb d_Escape_readBare_17 rfl (lv_at hl 2 rfl) ?_
  refine lv_iload hx hb d_Escape_readBare_18 (lv_at hl 0 rfl) ?_
  refine lv_iload_n hx hb d_Escape_readBare_20 rfl (lv_at hl 4 rfl) ?_
  refine zcR (va_runV (As := [.int (iI ((sp_off utf t i : Nat) : Int)), .int (iI ((sp_off utf t d1 : Nat) : Int)), .int (iI r)]) (rest := [.ref h]) S (c_Escape_valueOf l E h tx en i d1 ch nx utf t r0 r hr0 hr1 (by omega) (by omega) (fun k h1 h2 => by have := of_decide_eq_true (hall.2.2 k h1 h2); omega)) ⟨zcwB (n := 3) S zw_806 zw_13 zw_803 (by decide +kernel) rfl rfl ⟨Nat.le_of_ble_eq_true rfl, Nat.le_of_ble_eq_true rfl⟩, S.2.2.2.2 _ zw_805, S.2.2.2.2 _ zs_23⟩ (zPreV hE (hP 0 _ rfl) rfl ⟨(hP 0 _ rfl), (zrowZ.row (zrowZ.fz hrowz hS hAZ))⟩) rfl rfl hl.1 rfl (lv_room (Nat.le_of_ble_eq_true rfl)) d_Escape_readBare_21 ⟨by (try dsimp only); omega, by (try dsimp only); omega⟩) ?_
  refine zl_l2i hx hb d_Escape_readBare_24 ?_
  refine lv_iload hx hb d_Escape_readBare_25 (lv_at hl 0 rfl) ?_
  have hPc := hP.sub (ws' := [(h, .inr (7, [.ref tx, .ref en, .int (iI ch), .int (iI nx)]))]) [0] rfl
  have hDc := hD.sub (ws' := [(h, .inr (7, [.ref tx, .ref en, .int (iI ch), .int (iI nx)]))]) [0] (by decide) rfl
  have hFc := va_free (wc := [(h, .inr (7, [.ref tx, .ref en, .int (iI ch), .int (iI nx)]))]) hD hS hA [0] rfl
  refine zcW (va_runV (As := [.int (iI ((sp_worth r0 t (d1 - i) i 0 : Nat) : Int)), .int (iI ((sp_off utf t d1 : Nat) : Int))]) (rest := []) S (c_Escape_found l E s.heap.size h tx en ch nx ((sp_worth r0 t (d1 - i) i 0 : Nat) : Int) ((sp_off utf t d1 : Nat) : Int)) ⟨zcwB (n := 2) S zw_786 zw_13 zw_783 (by decide +kernel) rfl rfl ⟨Nat.le_of_ble_eq_true rfl, Nat.le_of_ble_eq_true rfl⟩, S.2.2.2.2 _ zw_785, S.2.2.2.2 _ zs_19⟩ (zPreV hE (hP 0 _ rfl) rfl ⟨rfl, hPc, hDc.weaken (fun _ _ _ h => hA0 _ h), trivial⟩) rfl rfl hl.1 rfl (lv_room (Nat.le_of_ble_eq_true rfl)) d_Escape_readBare_27 ⟨by (try dsimp only); omega, by (try dsimp only); omega⟩) hS (fun q _ h => hFc q h) hFc (fun v H locs hq hz1 hk1 hS => ?_)
  obtain ⟨rfl, hP1, hD1⟩ := hq
  obtain ⟨hP, hD⟩ := va_join (wr := []) (w1 := [(h, .inr (7, [.ref tx, .ref en, .int (iI ((sp_worth r0 t (d1 - i) i 0 : Nat) : Int)), .int (iI ((sp_off utf t d1 : Nat) : Int))]))]) hP hD [0] [] rfl rfl (by decide) (by decide) hk1 hFc hP1 hD1
  have hP : va_P E.1 zcl [(h, .inr (7, [.ref tx, .ref en, .int (iI ((sp_worth r0 t (d1 - i) i 0 : Nat) : Int)), .int (iI ((sp_off utf t d1 : Nat) : Int))]))] H := hP
  have hD : va_D A [(h, .inr (7, [.ref tx, .ref en, .int (iI ((sp_worth r0 t (d1 - i) i 0 : Nat) : Int)), .int (iI ((sp_off utf t d1 : Nat) : Int))]))] := hD
  have hE := hE0.at hS hA0
  exact zwz S hr hlk hS (⟨((sp_worth r0 t (d1 - i) i 0 : Nat) : Int), ((sp_off utf t d1 : Nat) : Int), hP, hD, by unfold sp_bare; rw [← hd1]; exact ⟨rfl, rfl, rfl⟩⟩) (by (try dsimp only); omega) (by (try dsimp only); omega) d_Escape_readBare_30

set_option maxRecDepth 100000 in
set_option maxHeartbeats 4000000 in
theorem c_Escape_readBraced (l : Launch) (E : zP) (sz : Nat) (Z : Nat → Prop) (h tx en i j : Nat) (ch nx : Int) (utf : Bool) (t : List Nat) (r0 : Nat) (r : Int) (hr0 : r = (r0 : Int)) (hr1 : r0 = 8 ∨ r0 = 16) (hie : i ≤ j) (he : j ≤ t.length) (htl : (sp_encs utf t).length ≤ 65536) : Met l y_Escape_readBraced (.code y_Escape_readBraced b_Escape_readBraced 8 ( some FieldType.boolean ) :: zw) { frames := 2, cells := (0), slots := (0), locals := 48 } (zPc E [.ref h, .int (iI ((sp_off utf t i : Nat) : Int)), .int (iI ((sp_off utf t j : Nat) : Int)), .int (iI r)] (fun H => H.size = sz ∧ va_P E.1 zcl [(h, .inr (7, [.ref tx, .ref en, .int (iI ch), .int (iI nx)]))] H ∧ va_D (fun x => zOld E x ∧ ¬ Z x) [(h, .inr (7, [.ref tx, .ref en, .int (iI ch), .int (iI nx)]))] ∧ (∀ q, Z q → q < sz) ∧ (Z tx ∧ Z en ∧ zO E 2 en [.int (iI (bN utf))] H ∧ zrowZ E Z tx (sp_encs utf t) H))) (zW (fun v H => (∃ (c1 n1 : Int), va_P E.1 zcl [(h, .inr (7, [.ref tx, .ref en, .int (iI c1), .int (iI n1)]))] H ∧ va_D (va_A [(h, .inr (7, [.ref tx, .ref en, .int (iI ch), .int (iI nx)]))] sz) [(h, .inr (7, [.ref tx, .ref en, .int (iI c1), .int (iI n1)]))] ∧ (match sp_braced utf r0 t i j with | none => v = some (.int (iI (bN false))) | some (a, k) => v = some (.int (iI (bN true))) ∧ c1 = ((a : Nat) : Int) ∧ n1 = ((sp_off utf t k : Nat) : Int)))) (va_A [(h, .inr (7, [.ref tx, .ref en, .int (iI ch), .int (iI nx)]))] sz)) (0) (0) (va_A [(h, .inr (7, [.ref tx, .ref en, .int (iI ch), .int (iI nx)]))] sz) := by
  refine zMet (by decide) (Nat.le_of_ble_eq_true rfl) ?_
  intro p e s m below meth c ls S hr hlk hnm hE ⟨hsz, hP, hDo, hZb, hzt, hze, hen, hrowz⟩ hl
  have hx := S.1
  have hb := S.2.1
  have hE0 := hE
  have hl : lv_has ls 8 [(0, .ref h), (1, .int (iI ((sp_off utf t i : Nat) : Int))), (2, .int (iI ((sp_off utf t j : Nat) : Int))), (3, .int (iI r))] := hl
  subst hsz
  have hD := hDo.self (sz := s.heap.size)
  generalize hAe : va_A [(h, .inr (7, [.ref tx, .ref en, .int (iI ch), .int (iI nx)]))] s.heap.size = A at hD ⊢
  have hA : ∀ q : Nat, s.heap.size ≤ q → A q := fun q h => by rw [← hAe]; exact Or.inr h
  have hA1 := zAZ hE hDo hZb hAe
  have hA0 : ∀ q, A q → zOld E q := fun q h => (hA1 q h).1
  have hAZ : ∀ q, Z q → ¬ A q := fun q z h => (hA1 q h).2 z
  have hS : va_S A s.heap s.heap [] := va_S.rf
  have hbl := (zrowZ.row hrowz).len
  have hbe := sp_off_le_len utf he
  have hbi := sp_off_le_len utf (t := t) (i := i) (by omega)
  have hmn := sp_off_mono utf hie he
  have hlt := sp_off_lt utf (t := t) (i := i) (j := j) (by omega) he
  refine lv_iload_n hx hb d_Escape_readBraced_0 rfl (lv_at hl 1 rfl) ?_
  refine lv_iload_n hx hb d_Escape_readBraced_1 rfl (lv_at hl 2 rfl) ?_
  refine zi_icmp_ge hx hb d_Escape_readBraced_2 rfl (by omega) (by omega) (fun h2 => ?_) (fun h2 => ?_)
  · refine zi_iconst hx hb d_Escape_readBraced_18 ?_
    exact zwz (b := false) S hr hlk hS (⟨ch, nx, hP, hD, by unfold sp_braced; rw [if_neg (by first | (rw [hsee]; omega) | (rw [sp_see_out (by omega)]; omega))] <;> rfl⟩) (by (try dsimp only); omega) (by (try dsimp only); omega) d_Escape_readBraced_19
  · refine lv_aload_n hx hb d_Escape_readBraced_5 rfl (lv_at hl 0 rfl) ?_
    refine zgf S hE (ci := 7) rfl i_Escape (hP 0 _ rfl) 0 (by decide) zw_185 rfl d_Escape_readBraced_6 ?_
    refine lv_iload_n hx hb d_Escape_readBraced_9 rfl (lv_at hl 1 rfl) ?_
    refine zcR (va_runV (As := [.int (iI ((sp_off utf t i : Nat) : Int))]) (rest := []) S (c_Row_at l E tx (sp_encs utf t) ((sp_off utf t i : Nat) : Int) (by omega)) ⟨zcwB (n := 1) S zw_437 zw_2 zw_782 (by decide +kernel) rfl rfl ⟨Nat.le_of_ble_eq_true rfl, Nat.le_of_ble_eq_true rfl⟩, S.2.2.2.2 _ zw_435, S.2.2.2.2 _ zw_436⟩ (zPreVrow hE (zrowZ.row (zrowZ.fz hrowz hS hAZ)) (zrowZ.row (zrowZ.fz hrowz hS hAZ))) rfl rfl hl.1 rfl (lv_room (Nat.le_of_ble_eq_true rfl)) d_Escape_readBraced_10 ⟨by (try dsimp only); omega, by (try dsimp only); omega⟩) ?_
    rw [sp_at_in (n := sp_off utf t i) (by omega) (sp_off_lt_len (by omega))]
    have hb10 := sp_b_lt (zrow.lt (zrowZ.row (zrowZ.fz hrowz hS hAZ))) (sp_off utf t i)
    have hasc := sp_off_b (utf := utf) (t := t) (i := i) (by omega)
    have hsee := sp_see_eq (t := t) (i := i) (e := j) (by omega)
    refine zi_bipush hx hb d_Escape_readBraced_13 (by decide) ?_
    refine zi_icmp_eq hx hb d_Escape_readBraced_15 rfl (by omega) (by omega) (fun h15 => ?_) (fun h15 => ?_)
    · refine lv_iload_n hx hb d_Escape_readBraced_20 rfl (lv_at hl 1 rfl) ?_
      refine zi_iconst hx hb d_Escape_readBraced_21 ?_
      refine zi_iadd hx hb d_Escape_readBraced_22 ?_
      have hs1 := sp_off_asc utf (t := t) (i := i) (by omega) (by omega)
      rw [show ((sp_off utf t i : Nat) : Int) + 1 = ((sp_off utf t (i + 1) : Nat) : Int) by omega]
      have hbi1 := sp_off_le_len utf (t := t) (i := i + 1) (by omega)
      refine lv_istore (lv' := [(4, .int (iI ((sp_off utf t (i + 1) : Nat) : Int))), (0, .ref h), (1, .int (iI ((sp_off utf t i : Nat) : Int))), (2, .int (iI ((sp_off utf t j : Nat) : Int))), (3, .int (iI r))]) hx hb d_Escape_readBraced_23 hl (by decide) rfl (fun ls hl => ?_)
      refine lv_aload_n hx hb d_Escape_readBraced_25 rfl (lv_at hl 1 rfl) ?_
      refine lv_iload hx hb d_Escape_readBraced_26 (lv_at hl 0 rfl) ?_
      refine lv_iload_n hx hb d_Escape_readBraced_28 rfl (lv_at hl 3 rfl) ?_
      refine lv_iload hx hb d_Escape_readBraced_29 (lv_at hl 0 rfl) ?_
      refine zi_bipush hx hb d_Escape_readBraced_31 (by decide) ?_
      refine zi_iadd hx hb d_Escape_readBraced_33 ?_
      refine zcR (va_runS (As := [.int (iI ((sp_off utf t j : Nat) : Int)), .int (iI (((sp_off utf t (i + 1) : Nat) : Int) + 8))]) (rest := [.int (iI ((sp_off utf t (i + 1) : Nat) : Int)), .ref h]) S (c_Math_min l E ((sp_off utf t j : Nat) : Int) (((sp_off utf t (i + 1) : Nat) : Int) + 8) (by omega) (by omega)) ⟨zcwB (n := 2) S zw_366 zw_23 zw_795 (by decide +kernel) rfl rfl ⟨Nat.le_of_ble_eq_true rfl, Nat.le_of_ble_eq_true rfl⟩, S.2.2.2.2 _ zw_365⟩ (zPreS hE trivial) rfl rfl hl.1 rfl (lv_room (Nat.le_of_ble_eq_true rfl)) d_Escape_readBraced_34 ⟨by (try dsimp only); omega, by (try dsimp only); omega⟩) ?_
      refine lv_iload_n hx hb d_Escape_readBraced_37 rfl (lv_at hl 4 rfl) ?_
      refine zcR (va_runV (As := [.int (iI ((sp_off utf t (i + 1) : Nat) : Int)), .int (iI (min ((sp_off utf t j : Nat) : Int) (((sp_off utf t (i + 1) : Nat) : Int) + 8))), .int (iI r)]) (rest := []) S (c_Escape_digitsEnd l E h tx en (i + 1) j ch nx utf t 8 r0 r hr0 hr1 (by omega) (by omega) he) ⟨zcwB (n := 3) S zw_799 zw_13 zw_796 (by decide +kernel) rfl rfl ⟨Nat.le_of_ble_eq_true rfl, Nat.le_of_ble_eq_true rfl⟩, S.2.2.2.2 _ zw_798, S.2.2.2.2 _ zs_22⟩ (zPreV hE (hP 0 _ rfl) rfl ⟨(hP 0 _ rfl), (zrowZ.row (zrowZ.fz hrowz hS hAZ))⟩) rfl rfl hl.1 rfl (lv_room (Nat.le_of_ble_eq_true rfl)) d_Escape_readBraced_38 ⟨by (try dsimp only); omega, by (try dsimp only); omega⟩) ?_
      have hall := sp_to_all (p := fun c => decide (sp_val c < ((r0 : Nat) : Int))) (t := t) (e := min j (i + 1 + 8)) _ (i + 1) (Nat.le_refl _) (by omega)
      obtain ⟨d1, hd1⟩ : ∃ x, x = sp_digs r0 t (i + 1) (min j (i + 1 + 8)) := ⟨_, rfl⟩
      rw [show sp_to (fun c => decide (sp_val c < ((r0 : Nat) : Int))) t (i + 1) (min j (i + 1 + 8)) = d1 from hd1.symm] at hall
      rw [← hd1]
      have hbd := sp_off_le_len utf (t := t) (i := d1) (by omega)
      refine lv_istore (lv' := [(5, .int (iI ((sp_off utf t d1 : Nat) : Int))), (4, .int (iI ((sp_off utf t (i + 1) : Nat) : Int))), (0, .ref h), (1, .int (iI ((sp_off utf t i : Nat) : Int))), (2, .int (iI ((sp_off utf t j : Nat) : Int))), (3, .int (iI r))]) hx hb d_Escape_readBraced_41 hl (by decide) rfl (fun ls hl => ?_)
      have hdj := sp_off_lt utf (t := t) (i := d1) (j := j) (by omega) he
      have hdi := sp_off_lt utf (t := t) (i := i + 1) (j := d1) (by omega) (by omega)
      have hdm := sp_off_mono utf (t := t) (i := i + 1) (j := d1) (by omega) (by omega)
      have hs12 : sp_see t i j = 123 := by rw [hsee]; omega
      refine lv_iload hx hb d_Escape_readBraced_43 (lv_at hl 0 rfl) ?_
      refine lv_iload hx hb d_Escape_readBraced_45 (lv_at hl 1 rfl) ?_
      refine zi_icmp_eq hx hb d_Escape_readBraced_47 rfl (by omega) (by omega) (fun h47 => ?_) (fun h47 => ?_)
      · refine zi_iconst hx hb d_Escape_readBraced_70 ?_
        exact zwz (b := false) S hr hlk hS (⟨ch, nx, hP, hD, by unfold sp_braced; rw [if_pos hs12, show i + 9 = i + 1 + 8 by omega, ← hd1]; first | rw [if_pos (by omega)] | (rw [if_neg (by omega), if_neg (by first | (rw [hsed]; omega) | (rw [sp_see_out (by omega)]; omega))]) <;> rfl⟩) (by (try dsimp only); omega) (by (try dsimp only); omega) d_Escape_readBraced_71
      · refine lv_iload hx hb d_Escape_readBraced_50 (lv_at hl 0 rfl) ?_
        refine lv_iload_n hx hb d_Escape_readBraced_52 rfl (lv_at hl 4 rfl) ?_
        refine zi_icmp_ge hx hb d_Escape_readBraced_53 rfl (by omega) (by omega) (fun h53 => ?_) (fun h53 => ?_)
        · refine zi_iconst hx hb d_Escape_readBraced_70 ?_
          exact zwz (b := false) S hr hlk hS (⟨ch, nx, hP, hD, by unfold sp_braced; rw [if_pos hs12, show i + 9 = i + 1 + 8 by omega, ← hd1]; first | rw [if_pos (by omega)] | (rw [if_neg (by omega), if_neg (by first | (rw [hsed]; omega) | (rw [sp_see_out (by omega)]; omega))]) <;> rfl⟩) (by (try dsimp only); omega) (by (try dsimp only); omega) d_Escape_readBraced_71
        · refine lv_aload_n hx hb d_Escape_readBraced_56 rfl (lv_at hl 2 rfl) ?_
          refine zgf S hE (ci := 7) rfl i_Escape (hP 0 _ rfl) 0 (by decide) zw_185 rfl d_Escape_readBraced_57 ?_
          refine lv_iload hx hb d_Escape_readBraced_60 (lv_at hl 0 rfl) ?_
          refine zcR (va_runV (As := [.int (iI ((sp_off utf t d1 : Nat) : Int))]) (rest := []) S (c_Row_at l E tx (sp_encs utf t) ((sp_off utf t d1 : Nat) : Int) (by omega)) ⟨zcwB (n := 1) S zw_437 zw_2 zw_782 (by decide +kernel) rfl rfl ⟨Nat.le_of_ble_eq_true rfl, Nat.le_of_ble_eq_true rfl⟩, S.2.2.2.2 _ zw_435, S.2.2.2.2 _ zw_436⟩ (zPreVrow hE (zrowZ.row (zrowZ.fz hrowz hS hAZ)) (zrowZ.row (zrowZ.fz hrowz hS hAZ))) rfl rfl hl.1 rfl (lv_room (Nat.le_of_ble_eq_true rfl)) d_Escape_readBraced_62 ⟨by (try dsimp only); omega, by (try dsimp only); omega⟩) ?_
          rw [sp_at_in (n := sp_off utf t d1) (by omega) (sp_off_lt_len (by omega))]
          have hb62 := sp_b_lt (zrow.lt (zrowZ.row (zrowZ.fz hrowz hS hAZ))) (sp_off utf t d1)
          have hasd := sp_off_b (utf := utf) (t := t) (i := d1) (by omega)
          have hsed := sp_see_eq (t := t) (i := d1) (e := j) (by omega)
          refine zi_bipush hx hb d_Escape_readBraced_65 (by decide) ?_
          refine zi_icmp_eq hx hb d_Escape_readBraced_67 rfl (by omega) (by omega) (fun h67 => ?_) (fun h67 => ?_)
          · refine lv_aload_n hx hb d_Escape_readBraced_72 rfl (lv_at hl 2 rfl) ?_
            refine lv_iload hx hb d_Escape_readBraced_73 (lv_at hl 1 rfl) ?_
            refine lv_iload hx hb d_Escape_readBraced_75 (lv_at hl 0 rfl) ?_
            refine lv_iload_n hx hb d_Escape_readBraced_77 rfl (lv_at hl 5 rfl) ?_
            refine zcR (va_runV (As := [.int (iI ((sp_off utf t (i + 1) : Nat) : Int)), .int (iI ((sp_off utf t d1 : Nat) : Int)), .int (iI r)]) (rest := []) S (c_Escape_valueOf l E h tx en (i + 1) d1 ch nx utf t r0 r hr0 hr1 (by omega) (by omega) (fun k h1 h2 => by have := of_decide_eq_true (hall.2.2 k h1 h2); omega)) ⟨zcwB (n := 3) S zw_806 zw_13 zw_803 (by decide +kernel) rfl rfl ⟨Nat.le_of_ble_eq_true rfl, Nat.le_of_ble_eq_true rfl⟩, S.2.2.2.2 _ zw_805, S.2.2.2.2 _ zs_23⟩ (zPreV hE (hP 0 _ rfl) rfl ⟨(hP 0 _ rfl), (zrowZ.row (zrowZ.fz hrowz hS hAZ))⟩) rfl rfl hl.1 rfl (lv_room (Nat.le_of_ble_eq_true rfl)) d_Escape_readBraced_78 ⟨by (try dsimp only); omega, by (try dsimp only); omega⟩) ?_
            refine lv_lstore (lv' := [(6, .long (jL ((sp_worth r0 t (d1 - (i + 1)) (i + 1) 0 : Nat) : Int))), (5, .int (iI ((sp_off utf t d1 : Nat) : Int))), (4, .int (iI ((sp_off utf t (i + 1) : Nat) : Int))), (0, .ref h), (1, .int (iI ((sp_off utf t i : Nat) : Int))), (2, .int (iI ((sp_off utf t j : Nat) : Int))), (3, .int (iI r))]) hx hb d_Escape_readBraced_81 hl (by decide) rfl (fun ls hl => ?_)
            refine lv_aload_n hx hb d_Escape_readBraced_83 rfl (lv_at hl 3 rfl) ?_
            refine zgf S hE (ci := 7) rfl i_Escape (hP 0 _ rfl) 1 (by decide) zw_186 rfl d_Escape_readBraced_84 ?_
            refine lv_lload hx hb d_Escape_readBraced_87 (lv_at hl 0 rfl) ?_
            have hw32 := sp_worth_32 (t := t) (f := d1 - (i + 1)) (k := i + 1) hr1 (by omega) (fun k h1 h2 => by have h3 := of_decide_eq_true (hall.2.2 k h1 (by omega)); have := (sp_val_r ((t.getD k 0 : Nat) : Int)).1; omega)
            refine zcR (va_runV (As := [.long (jL ((sp_worth r0 t (d1 - (i + 1)) (i + 1) 0 : Nat) : Int))]) (rest := []) S (c_Encoding_exists l E en utf (sp_worth r0 t (d1 - (i + 1)) (i + 1) 0) (by omega)) ⟨zcwB (n := 1) S zw_449 zw_7 zw_811 (by decide +kernel) rfl rfl ⟨Nat.le_of_ble_eq_true rfl, Nat.le_of_ble_eq_true rfl⟩, S.2.2.2.2 _ zw_447, S.2.2.2.2 _ zw_448⟩ (zPreV hE (zfz hS hen (hAZ _ hze)) rfl (zfz hS hen (hAZ _ hze))) rfl rfl hl.1 rfl (lv_room (Nat.le_of_ble_eq_true rfl)) d_Escape_readBraced_89 ⟨by (try dsimp only); omega, by (try dsimp only); omega⟩) ?_
            refine zb_ifeq hx hb d_Escape_readBraced_92 rfl (fun h92 => ?_) (fun h92 => ?_)
            · refine zi_iconst hx hb d_Escape_readBraced_113 ?_
              exact zwz (b := false) S hr hlk hS (⟨ch, nx, hP, hD, by unfold sp_braced; rw [if_pos hs12, show i + 9 = i + 1 + 8 by omega, ← hd1]; rw [if_neg (by omega), if_pos (by rw [hsed]; omega), if_neg (by rw [h92]; decide)] <;> rfl⟩) (by (try dsimp only); omega) (by (try dsimp only); omega) d_Escape_readBraced_114
            · have hsd := sp_off_asc utf (t := t) (i := d1) (by omega) (by omega)
              refine lv_aload_n hx hb d_Escape_readBraced_95 rfl (lv_at hl 3 rfl) ?_
              refine lv_lload hx hb d_Escape_readBraced_96 (lv_at hl 0 rfl) ?_
              refine zl_l2i hx hb d_Escape_readBraced_98 ?_
              refine lv_iload hx hb d_Escape_readBraced_99 (lv_at hl 1 rfl) ?_
              refine zi_iconst hx hb d_Escape_readBraced_101 ?_
              refine zi_iadd hx hb d_Escape_readBraced_102 ?_
              have hPc := hP.sub (ws' := [(h, .inr (7, [.ref tx, .ref en, .int (iI ch), .int (iI nx)]))]) [0] rfl
              have hDc := hD.sub (ws' := [(h, .inr (7, [.ref tx, .ref en, .int (iI ch), .int (iI nx)]))]) [0] (by decide) rfl
              have hFc := va_free (wc := [(h, .inr (7, [.ref tx, .ref en, .int (iI ch), .int (iI nx)]))]) hD hS hA [0] rfl
              refine zcW (va_runV (As := [.int (iI ((sp_worth r0 t (d1 - (i + 1)) (i + 1) 0 : Nat) : Int)), .int (iI (((sp_off utf t d1 : Nat) : Int) + 1))]) (rest := []) S (c_Escape_found l E s.heap.size h tx en ch nx ((sp_worth r0 t (d1 - (i + 1)) (i + 1) 0 : Nat) : Int) (((sp_off utf t d1 : Nat) : Int) + 1)) ⟨zcwB (n := 2) S zw_786 zw_13 zw_783 (by decide +kernel) rfl rfl ⟨Nat.le_of_ble_eq_true rfl, Nat.le_of_ble_eq_true rfl⟩, S.2.2.2.2 _ zw_785, S.2.2.2.2 _ zs_19⟩ (zPreV hE (hP 0 _ rfl) rfl ⟨rfl, hPc, hDc.weaken (fun _ _ _ h => hA0 _ h), trivial⟩) rfl rfl hl.1 rfl (lv_room (Nat.le_of_ble_eq_true rfl)) d_Escape_readBraced_103 ⟨by (try dsimp only); omega, by (try dsimp only); omega⟩) hS (fun q _ h => hFc q h) hFc (fun v H locs hq hz1 hk1 hS => ?_)
              obtain ⟨rfl, hP1, hD1⟩ := hq
              obtain ⟨hP, hD⟩ := va_join (wr := []) (w1 := [(h, .inr (7, [.ref tx, .ref en, .int (iI ((sp_worth r0 t (d1 - (i + 1)) (i + 1) 0 : Nat) : Int)), .int (iI (((sp_off utf t d1 : Nat) : Int) + 1))]))]) hP hD [0] [] rfl rfl (by decide) (by decide) hk1 hFc hP1 hD1
              have hP : va_P E.1 zcl [(h, .inr (7, [.ref tx, .ref en, .int (iI ((sp_worth r0 t (d1 - (i + 1)) (i + 1) 0 : Nat) : Int)), .int (iI (((sp_off utf t d1 : Nat) : Int) + 1))]))] H := hP
              have hD : va_D A [(h, .inr (7, [.ref tx, .ref en, .int (iI ((sp_worth r0 t (d1 - (i + 1)) (i + 1) 0 : Nat) : Int)), .int (iI (((sp_off utf t d1 : Nat) : Int) + 1))]))] := hD
              have hE := hE0.at hS hA0
              refine zb_ifeq hx hb d_Escape_readBraced_106 rfl (fun h => absurd h (by decide)) (fun _ => ?_)
              refine zi_iconst hx hb d_Escape_readBraced_109 ?_
              refine lv_goto hx hb d_Escape_readBraced_110 rfl ?_
              exact zwz (b := true) S hr hlk hS (⟨((sp_worth r0 t (d1 - (i + 1)) (i + 1) 0 : Nat) : Int), (((sp_off utf t d1 : Nat) : Int) + 1), hP, hD, by unfold sp_braced; rw [if_pos hs12, show i + 9 = i + 1 + 8 by omega, ← hd1]; rw [if_neg (by omega), if_pos (by rw [hsed]; omega), if_pos h92]; exact ⟨rfl, rfl, by omega⟩⟩) (by (try dsimp only); omega) (by (try dsimp only); omega) d_Escape_readBraced_114
          · refine zi_iconst hx hb d_Escape_readBraced_70 ?_
            exact zwz (b := false) S hr hlk hS (⟨ch, nx, hP, hD, by unfold sp_braced; rw [if_pos hs12, show i + 9 = i + 1 + 8 by omega, ← hd1]; first | rw [if_pos (by omega)] | (rw [if_neg (by omega), if_neg (by first | (rw [hsed]; omega) | (rw [sp_see_out (by omega)]; omega))]) <;> rfl⟩) (by (try dsimp only); omega) (by (try dsimp only); omega) d_Escape_readBraced_71
    · refine zi_iconst hx hb d_Escape_readBraced_18 ?_
      exact zwz (b := false) S hr hlk hS (⟨ch, nx, hP, hD, by unfold sp_braced; rw [if_neg (by first | (rw [hsee]; omega) | (rw [sp_see_out (by omega)]; omega))] <;> rfl⟩) (by (try dsimp only); omega) (by (try dsimp only); omega) d_Escape_readBraced_19
