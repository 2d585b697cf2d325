set_option maxRecDepth 100000 in
set_option maxHeartbeats 4000000 in
theorem c_Escape_read (l : Launch) (E : zP) (sz : Nat) (Z : Nat → Prop) (h tx en i j : Nat) (ch nx : Int) (utf : Bool) (t : List Nat) (hie : i ≤ j) (he : j ≤ t.length) (htl : (sp_encs utf t).length ≤ 65536) : Met l y_Escape_read (.code y_Escape_read b_Escape_read 4 ( some FieldType.boolean ) :: zw) { frames := 3, cells := (0), slots := (0), locals := 75 } (zPc E [.ref h, .int (iI ((sp_off utf t i : Nat) : Int)), .int (iI ((sp_off utf t j : Nat) : Int))] (fun H => H.size = sz ∧ va_P E.1 zcl [(h, .inr (7, [.ref tx, .ref en, .int (iI ch), .int (iI nx)]))] H ∧ va_D (fun x => zOld E x ∧ ¬ Z x) [(h, .inr (7, [.ref tx, .ref en, .int (iI ch), .int (iI nx)]))] ∧ (∀ q, Z q → q < sz) ∧ (Z tx ∧ Z en ∧ zO E 2 en [.int (iI (bN utf))] H ∧ zrowZ E Z tx (sp_encs utf t) H))) (zW (fun v H => (∃ (c1 n1 : Int), va_P E.1 zcl [(h, .inr (7, [.ref tx, .ref en, .int (iI c1), .int (iI n1)]))] H ∧ va_D (va_A [(h, .inr (7, [.ref tx, .ref en, .int (iI ch), .int (iI nx)]))] sz) [(h, .inr (7, [.ref tx, .ref en, .int (iI c1), .int (iI n1)]))] ∧ (match sp_esc utf t (sp_see t i j) (i + 1) j with | none => v = some (.int (iI (bN false))) | some (a, k) => v = some (.int (iI (bN true))) ∧ c1 = ((a : Nat) : Int) ∧ n1 = ((sp_off utf t k : Nat) : Int)))) (va_A [(h, .inr (7, [.ref tx, .ref en, .int (iI ch), .int (iI nx)]))] sz)) (0) (0) (va_A [(h, .inr (7, [.ref tx, .ref en, .int (iI ch), .int (iI nx)]))] sz) := by
  refine zMet (by decide) (Nat.le_of_ble_eq_true rfl) ?_
  intro p e s m below meth c ls S hr hlk hnm hE ⟨hsz, hP, hDo, hZb, hzt, hze, hen, hrowz⟩ hl
  have hx := S.1
  have hb := S.2.1
  have hE0 := hE
  have hl : lv_has ls 4 [(0, .ref h), (1, .int (iI ((sp_off utf t i : Nat) : Int))), (2, .int (iI ((sp_off utf t j : Nat) : Int)))] := hl
  subst hsz
  have hD := hDo.self (sz := s.heap.size)
  generalize hAe : va_A [(h, .inr (7, [.ref tx, .ref en, .int (iI ch), .int (iI nx)]))] s.heap.size = A at hD ⊢
  have hA : ∀ q : Nat, s.heap.size ≤ q → A q := fun q h => by rw [← hAe]; exact Or.inr h
  have hA1 := zAZ hE hDo hZb hAe
  have hA0 : ∀ q, A q → zOld E q := fun q h => (hA1 q h).1
  have hAZ : ∀ q, Z q → ¬ A q := fun q z h => (hA1 q h).2 z
  have hS : va_S A s.heap s.heap [] := va_S.rf
  have hbl := (zrowZ.row hrowz).len
  have hbe := sp_off_le_len utf he
  have hbi := sp_off_le_len utf (t := t) (i := i) (by omega)
  have hmn := sp_off_mono utf hie he
  have hlt := sp_off_lt utf (t := t) (i := i) (j := j) (by omega) he
  refine lv_iload_n hx hb d_Escape_read_0 rfl (lv_at hl 1 rfl) ?_
  refine lv_iload_n hx hb d_Escape_read_1 rfl (lv_at hl 2 rfl) ?_
  refine zi_icmp_ge hx hb d_Escape_read_2 rfl (by omega) (by omega) (fun h2 => ?_) (fun h2 => ?_)
  · refine zi_iconst hx hb d_Escape_read_16 ?_
    refine lv_lookup (off := 238) (tgt := 255) hx hb d_Escape_read_17 (by decide) (by decide) (by decide) ?_
    refine zi_iconst hx hb d_Escape_read_255 ?_
    exact zwz (b := false) S hr hlk hS (⟨ch, nx, hP, hD, by rw [sp_see_out (by omega)] <;> rfl⟩) (by (try dsimp only); omega) (by (try dsimp only); omega) d_Escape_read_256
  · refine lv_aload_n hx hb d_Escape_read_5 rfl (lv_at hl 0 rfl) ?_
    refine zgf S hE (ci := 7) rfl i_Escape (hP 0 _ rfl) 0 (by decide) zw_185 rfl d_Escape_read_6 ?_
    refine lv_iload_n hx hb d_Escape_read_9 rfl (lv_at hl 1 rfl) ?_
    refine zcR (va_runV (As := [.int (iI ((sp_off utf t i : Nat) : Int))]) (rest := []) S (c_Row_at l E tx (sp_encs utf t) ((sp_off utf t i : Nat) : Int) (by omega)) ⟨zcwB (n := 1) S zw_437 zw_2 zw_782 (by decide +kernel) rfl rfl ⟨Nat.le_of_ble_eq_true rfl, Nat.le_of_ble_eq_true rfl⟩, S.2.2.2.2 _ zw_435, S.2.2.2.2 _ zw_436⟩ (zPreVrow hE (zrowZ.row (zrowZ.fz hrowz hS hAZ)) (zrowZ.row (zrowZ.fz hrowz hS hAZ))) rfl rfl hl.1 rfl (lv_room (Nat.le_of_ble_eq_true rfl)) d_Escape_read_10 ⟨by (try dsimp only); omega, by (try dsimp only); omega⟩) ?_
    rw [sp_at_in (n := sp_off utf t i) (by omega) (sp_off_lt_len (by omega))]
    have hb10 := sp_b_lt (zrow.lt (zrowZ.row (zrowZ.fz hrowz hS hAZ))) (sp_off utf t i)
    have hasc := sp_off_b (utf := utf) (t := t) (i := i) (by omega)
    have hsee := sp_see_eq (t := t) (i := i) (e := j) (by omega)
    refine lv_goto hx hb d_Escape_read_13 rfl ?_
    rcases (show ((sp_b (sp_encs utf t) (sp_off utf t i) : Nat) : Int) = 48 ∨ ((sp_b (sp_encs utf t) (sp_off utf t i) : Nat) : Int) = 97 ∨ ((sp_b (sp_encs utf t) (sp_off utf t i) : Nat) : Int) = 99 ∨ ((sp_b (sp_encs utf t) (sp_off utf t i) : Nat) : Int) = 101 ∨ ((sp_b (sp_encs utf t) (sp_off utf t i) : Nat) : Int) = 102 ∨ ((sp_b (sp_encs utf t) (sp_off utf t i) : Nat) : Int) = 110 ∨ ((sp_b (sp_encs utf t) (sp_off utf t i) : Nat) : Int) = 111 ∨ ((sp_b (sp_encs utf t) (sp_off utf t i) : Nat) : Int) = 114 ∨ ((sp_b (sp_encs utf t) (sp_off utf t i) : Nat) : Int) = 116 ∨ ((sp_b (sp_encs utf t) (sp_off utf t i) : Nat) : Int) = 120 ∨ (((sp_b (sp_encs utf t) (sp_off utf t i) : Nat) : Int) ≠ 48 ∧ ((sp_b (sp_encs utf t) (sp_off utf t i) : Nat) : Int) ≠ 97 ∧ ((sp_b (sp_encs utf t) (sp_off utf t i) : Nat) : Int) ≠ 99 ∧ ((sp_b (sp_encs utf t) (sp_off utf t i) : Nat) : Int) ≠ 101 ∧ ((sp_b (sp_encs utf t) (sp_off utf t i) : Nat) : Int) ≠ 102 ∧ ((sp_b (sp_encs utf t) (sp_off utf t i) : Nat) : Int) ≠ 110 ∧ ((sp_b (sp_encs utf t) (sp_off utf t i) : Nat) : Int) ≠ 111 ∧ ((sp_b (sp_encs utf t) (sp_off utf t i) : Nat) : Int) ≠ 114 ∧ ((sp_b (sp_encs utf t) (sp_off utf t i) : Nat) : Int) ≠ 116 ∧ ((sp_b (sp_encs utf t) (sp_off utf t i) : Nat) : Int) ≠ 120) by omega) with hz | hz | hz | hz | hz | hz | hz | hz | hz | hz | hz
    · refine lv_lookup (off := 160) (tgt := 177) hx hb d_Escape_read_17 (by decide) (by rw [hz]; decide) (by decide) ?_
      have hs0 : sp_see t i j = 48 := by rw [hsee]; omega
      have hs1 := sp_off_asc utf (t := t) (i := i) (by omega) (by omega)
      have hbi1 := sp_off_le_len utf (t := t) (i := i + 1) (by omega)
      refine lv_aload_n hx hb d_Escape_read_177 rfl (lv_at hl 0 rfl) ?_
      refine lv_iload_n hx hb d_Escape_read_178 rfl (lv_at hl 1 rfl) ?_
      refine zi_iconst hx hb d_Escape_read_179 ?_
      refine zi_iadd hx hb d_Escape_read_180 ?_
      refine lv_iload_n hx hb d_Escape_read_181 rfl (lv_at hl 2 rfl) ?_
      refine zi_bipush hx hb d_Escape_read_182 (by decide) ?_
      rw [show ((sp_off utf t i : Nat) : Int) + 1 = ((sp_off utf t (i + 1) : Nat) : Int) by omega]
      have hPc := hP.sub (ws' := [(h, .inr (7, [.ref tx, .ref en, .int (iI ch), .int (iI nx)]))]) [0] rfl
      have hDc := hD.sub (ws' := [(h, .inr (7, [.ref tx, .ref en, .int (iI ch), .int (iI nx)]))]) [0] (by decide) rfl
      have hFc := va_free (wc := [(h, .inr (7, [.ref tx, .ref en, .int (iI ch), .int (iI nx)]))]) hD hS hA [0] rfl
      refine zcW (va_runV (As := [.int (iI ((sp_off utf t (i + 1) : Nat) : Int)), .int (iI ((sp_off utf t j : Nat) : Int)), .int (iI 8)]) (rest := []) S (c_Escape_readBare l E s.heap.size Z h tx en (i + 1) j ch nx utf t 8 8 rfl (by omega) (by omega) he htl) ⟨zcwB (n := 3) S zw_794 zw_13 zw_791 (by decide +kernel) rfl rfl ⟨Nat.le_of_ble_eq_true rfl, Nat.le_of_ble_eq_true rfl⟩, S.2.2.2.2 _ zw_793, S.2.2.2.2 _ zs_21⟩ (zPreV hE (hP 0 _ rfl) rfl ⟨rfl, hPc, hDc.weaken (fun _ _ _ h => ⟨hA0 _ h, fun z => hAZ _ z h⟩), (fun q z => Nat.lt_of_lt_of_le (hZb q z) hS.1), hzt, hze, (zfz hS hen (hAZ _ hze)), (zrowZ.fz hrowz hS hAZ)⟩) rfl rfl hl.1 rfl (lv_room (Nat.le_of_ble_eq_true rfl)) d_Escape_read_184 ⟨by (try dsimp only); omega, by (try dsimp only); omega⟩) hS (fun q _ h => hFc q h) hFc (fun v H locs hq hz1 hk1 hS => ?_)
      obtain ⟨c1, n1, hP1, hD1, hm⟩ := hq
      obtain ⟨hP, hD⟩ := va_join (wr := []) (w1 := [(h, .inr (7, [.ref tx, .ref en, .int (iI c1), .int (iI n1)]))]) hP hD [0] [] rfl rfl (by decide) (by decide) hk1 hFc hP1 hD1
      have hP : va_P E.1 zcl [(h, .inr (7, [.ref tx, .ref en, .int (iI c1), .int (iI n1)]))] H := hP
      have hD : va_D A [(h, .inr (7, [.ref tx, .ref en, .int (iI c1), .int (iI n1)]))] := hD
      have hE := hE0.at hS hA0
      rcases hX : (sp_bare 8 t (i + 1) j) with _ | ⟨a, k⟩
      · rw [hX] at hm
        obtain rfl := hm
        exact zwz S hr hlk hS (⟨c1, n1, hP, hD, by rw [hs0, show sp_esc utf t 48 (i + 1) j = sp_bare 8 t (i + 1) j from rfl, hX] <;> rfl⟩) (by (try dsimp only); omega) (by (try dsimp only); omega) d_Escape_read_187
      · rw [hX] at hm
        obtain ⟨rfl, rfl, rfl⟩ := hm
        exact zwz S hr hlk hS (⟨((a : Nat) : Int), ((sp_off utf t k : Nat) : Int), hP, hD, by rw [hs0, show sp_esc utf t 48 (i + 1) j = sp_bare 8 t (i + 1) j from rfl, hX]; exact ⟨rfl, rfl, rfl⟩⟩) (by (try dsimp only); omega) (by (try dsimp only); omega) d_Escape_read_187
    · refine lv_lookup (off := 91) (tgt := 108) hx hb d_Escape_read_17 (by decide) (by rw [hz]; decide) (by decide) ?_
      have hs0 : sp_see t i j = 97 := by rw [hsee]; omega
      have hs1 := sp_off_asc utf (t := t) (i := i) (by omega) (by omega)
      have hbi1 := sp_off_le_len utf (t := t) (i := i + 1) (by omega)
      refine lv_aload_n hx hb d_Escape_read_108 rfl (lv_at hl 0 rfl) ?_
      refine zi_bipush hx hb d_Escape_read_109 (by decide) ?_
      refine lv_iload_n hx hb d_Escape_read_111 rfl (lv_at hl 1 rfl) ?_
      refine zi_iconst hx hb d_Escape_read_112 ?_
      refine zi_iadd hx hb d_Escape_read_113 ?_
      rw [show ((sp_off utf t i : Nat) : Int) + 1 = ((sp_off utf t (i + 1) : Nat) : Int) by omega]
      have hPc := hP.sub (ws' := [(h, .inr (7, [.ref tx, .ref en, .int (iI ch), .int (iI nx)]))]) [0] rfl
      have hDc := hD.sub (ws' := [(h, .inr (7, [.ref tx, .ref en, .int (iI ch), .int (iI nx)]))]) [0] (by decide) rfl
      have hFc := va_free (wc := [(h, .inr (7, [.ref tx, .ref en, .int (iI ch), .int (iI nx)]))]) hD hS hA [0] rfl
      refine zcW (va_runV (As := [.int (iI 7), .int (iI ((sp_off utf t (i + 1) : Nat) : Int))]) (rest := []) S (c_Escape_found l E s.heap.size h tx en ch nx 7 ((sp_off utf t (i + 1) : Nat) : Int)) ⟨zcwB (n := 2) S zw_786 zw_13 zw_783 (by decide +kernel) rfl rfl ⟨Nat.le_of_ble_eq_true rfl, Nat.le_of_ble_eq_true rfl⟩, S.2.2.2.2 _ zw_785, S.2.2.2.2 _ zs_19⟩ (zPreV hE (hP 0 _ rfl) rfl ⟨rfl, hPc, hDc.weaken (fun _ _ _ h => hA0 _ h), trivial⟩) rfl rfl hl.1 rfl (lv_room (Nat.le_of_ble_eq_true rfl)) d_Escape_read_114 ⟨by (try dsimp only); omega, by (try dsimp only); omega⟩) hS (fun q _ h => hFc q h) hFc (fun v H locs hq hz1 hk1 hS => ?_)
      obtain ⟨rfl, hP1, hD1⟩ := hq
      obtain ⟨hP, hD⟩ := va_join (wr := []) (w1 := [(h, .inr (7, [.ref tx, .ref en, .int (iI 7), .int (iI ((sp_off utf t (i + 1) : Nat) : Int))]))]) hP hD [0] [] rfl rfl (by decide) (by decide) hk1 hFc hP1 hD1
      have hP : va_P E.1 zcl [(h, .inr (7, [.ref tx, .ref en, .int (iI 7), .int (iI ((sp_off utf t (i + 1) : Nat) : Int))]))] H := hP
      have hD : va_D A [(h, .inr (7, [.ref tx, .ref en, .int (iI 7), .int (iI ((sp_off utf t (i + 1) : Nat) : Int))]))] := hD
      have hE := hE0.at hS hA0
      exact zwz S hr hlk hS (⟨7, ((sp_off utf t (i + 1) : Nat) : Int), hP, hD, by rw [hs0, show sp_esc utf t 97 (i + 1) j = some (7, i + 1) from rfl]; exact ⟨rfl, rfl, rfl⟩⟩) (by (try dsimp only); omega) (by (try dsimp only); omega) d_Escape_read_117
    · refine lv_lookup (off := 151) (tgt := 168) hx hb d_Escape_read_17 (by decide) (by rw [hz]; decide) (by decide) ?_
      have hs0 : sp_see t i j = 99 := by rw [hsee]; omega
      have hs1 := sp_off_asc utf (t := t) (i := i) (by omega) (by omega)
      have hbi1 := sp_off_le_len utf (t := t) (i := i + 1) (by omega)
      refine lv_aload_n hx hb d_Escape_read_168 rfl (lv_at hl 0 rfl) ?_
      refine lv_iload_n hx hb d_Escape_read_169 rfl (lv_at hl 1 rfl) ?_
      refine zi_iconst hx hb d_Escape_read_170 ?_
      refine zi_iadd hx hb d_Escape_read_171 ?_
      refine lv_iload_n hx hb d_Escape_read_172 rfl (lv_at hl 2 rfl) ?_
      rw [show ((sp_off utf t i : Nat) : Int) + 1 = ((sp_off utf t (i + 1) : Nat) : Int) by omega]
      have hPc := hP.sub (ws' := [(h, .inr (7, [.ref tx, .ref en, .int (iI ch), .int (iI nx)]))]) [0] rfl
      have hDc := hD.sub (ws' := [(h, .inr (7, [.ref tx, .ref en, .int (iI ch), .int (iI nx)]))]) [0] (by decide) rfl
      have hFc := va_free (wc := [(h, .inr (7, [.ref tx, .ref en, .int (iI ch), .int (iI nx)]))]) hD hS hA [0] rfl
      refine zcW (va_runV (As := [.int (iI ((sp_off utf t (i + 1) : Nat) : Int)), .int (iI ((sp_off utf t j : Nat) : Int))]) (rest := []) S (c_Escape_readControl l E s.heap.size Z h tx en (i + 1) j ch nx utf t (by omega) he htl) ⟨zcwB (n := 2) S zw_790 zw_13 zw_787 (by decide +kernel) rfl rfl ⟨Nat.le_of_ble_eq_true rfl, Nat.le_of_ble_eq_true rfl⟩, S.2.2.2.2 _ zw_789, S.2.2.2.2 _ zs_20⟩ (zPreV hE (hP 0 _ rfl) rfl ⟨rfl, hPc, hDc.weaken (fun _ _ _ h => ⟨hA0 _ h, fun z => hAZ _ z h⟩), (fun q z => Nat.lt_of_lt_of_le (hZb q z) hS.1), hzt, hze, (zfz hS hen (hAZ _ hze)), (zrowZ.fz hrowz hS hAZ)⟩) rfl rfl hl.1 rfl (lv_room (Nat.le_of_ble_eq_true rfl)) d_Escape_read_173 ⟨by (try dsimp only); omega, by (try dsimp only); omega⟩) hS (fun q _ h => hFc q h) hFc (fun v H locs hq hz1 hk1 hS => ?_)
      obtain ⟨c1, n1, hP1, hD1, hm⟩ := hq
      obtain ⟨hP, hD⟩ := va_join (wr := []) (w1 := [(h, .inr (7, [.ref tx, .ref en, .int (iI c1), .int (iI n1)]))]) hP hD [0] [] rfl rfl (by decide) (by decide) hk1 hFc hP1 hD1
      have hP : va_P E.1 zcl [(h, .inr (7, [.ref tx, .ref en, .int (iI c1), .int (iI n1)]))] H := hP
      have hD : va_D A [(h, .inr (7, [.ref tx, .ref en, .int (iI c1), .int (iI n1)]))] := hD
      have hE := hE0.at hS hA0
      rcases hX : (if 32 ≤ sp_see t (i + 1) j ∧ sp_see t (i + 1) j ≤ 126 then some (sp_ctl (sp_see t (i + 1) j), i + 1 + 1) else none) with _ | ⟨a, k⟩
      · rw [hX] at hm
        obtain rfl := hm
        exact zwz S hr hlk hS (⟨c1, n1, hP, hD, by rw [hs0, show sp_esc utf t 99 (i + 1) j = if 32 ≤ sp_see t (i + 1) j ∧ sp_see t (i + 1) j ≤ 126 then some (sp_ctl (sp_see t (i + 1) j), i + 1 + 1) else none from rfl, hX] <;> rfl⟩) (by (try dsimp only); omega) (by (try dsimp only); omega) d_Escape_read_176
      · rw [hX] at hm
        obtain ⟨rfl, rfl, rfl⟩ := hm
        exact zwz S hr hlk hS (⟨((a : Nat) : Int), ((sp_off utf t k : Nat) : Int), hP, hD, by rw [hs0, show sp_esc utf t 99 (i + 1) j = if 32 ≤ sp_see t (i + 1) j ∧ sp_see t (i + 1) j ≤ 126 then some (sp_ctl (sp_see t (i + 1) j), i + 1 + 1) else none from rfl, hX]; exact ⟨rfl, rfl, rfl⟩⟩) (by (try dsimp only); omega) (by (try dsimp only); omega) d_Escape_read_176
    · refine lv_lookup (off := 101) (tgt := 118) hx hb d_Escape_read_17 (by decide) (by rw [hz]; decide) (by decide) ?_
      have hs0 : sp_see t i j = 101 := by rw [hsee]; omega
      have hs1 := sp_off_asc utf (t := t) (i := i) (by omega) (by omega)
      have hbi1 := sp_off_le_len utf (t := t) (i := i + 1) (by omega)
      refine lv_aload_n hx hb d_Escape_read_118 rfl (lv_at hl 0 rfl) ?_
      refine zi_bipush hx hb d_Escape_read_119 (by decide) ?_
      refine lv_iload_n hx hb d_Escape_read_121 rfl (lv_at hl 1 rfl) ?_
      refine zi_iconst hx hb d_Escape_read_122 ?_
      refine zi_iadd hx hb d_Escape_read_123 ?_
      rw [show ((sp_off utf t i : Nat) : Int) + 1 = ((sp_off utf t (i + 1) : Nat) : Int) by omega]
      have hPc := hP.sub (ws' := [(h, .inr (7, [.ref tx, .ref en, .int (iI ch), .int (iI nx)]))]) [0] rfl
      have hDc := hD.sub (ws' := [(h, .inr (7, [.ref tx, .ref en, .int (iI ch), .int (iI nx)]))]) [0] (by decide) rfl
      have hFc := va_free (wc := [(h, .inr (7, [.ref tx, .ref en, .int (iI ch), .int (iI nx)]))]) hD hS hA [0] rfl
      refine zcW (va_runV (As := [.int (iI 27), .int (iI ((sp_off utf t (i + 1) : Nat) : Int))]) (rest := []) S (c_Escape_found l E s.heap.size h tx en ch nx 27 ((sp_off utf t (i + 1) : Nat) : Int)) ⟨zcwB (n := 2) S zw_786 zw_13 zw_783 (by decide +kernel) rfl rfl ⟨Nat.le_of_ble_eq_true rfl, Nat.le_of_ble_eq_true rfl⟩, S.2.2.2.2 _ zw_785, S.2.2.2.2 _ zs_19⟩ (zPreV hE (hP 0 _ rfl) rfl ⟨rfl, hPc, hDc.weaken (fun _ _ _ h => hA0 _ h), trivial⟩) rfl rfl hl.1 rfl (lv_room (Nat.le_of_ble_eq_true rfl)) d_Escape_read_124 ⟨by (try dsimp only); omega, by (try dsimp only); omega⟩) hS (fun q _ h => hFc q h) hFc (fun v H locs hq hz1 hk1 hS => ?_)
      obtain ⟨rfl, hP1, hD1⟩ := hq
      obtain ⟨hP, hD⟩ := va_join (wr := []) (w1 := [(h, .inr (7, [.ref tx, .ref en, .int (iI 27), .int (iI ((sp_off utf t (i + 1) : Nat) : Int))]))]) hP hD [0] [] rfl rfl (by decide) (by decide) hk1 hFc hP1 hD1
      have hP : va_P E.1 zcl [(h, .inr (7, [.ref tx, .ref en, .int (iI 27), .int (iI ((sp_off utf t (i + 1) : Nat) : Int))]))] H := hP
      have hD : va_D A [(h, .inr (7, [.ref tx, .ref en, .int (iI 27), .int (iI ((sp_off utf t (i + 1) : Nat) : Int))]))] := hD
      have hE := hE0.at hS hA0
      exact zwz S hr hlk hS (⟨27, ((sp_off utf t (i + 1) : Nat) : Int), hP, hD, by rw [hs0, show sp_esc utf t 101 (i + 1) j = some (27, i + 1) from rfl]; exact ⟨rfl, rfl, rfl⟩⟩) (by (try dsimp only); omega) (by (try dsimp only); omega) d_Escape_read_127
    · refine lv_lookup (off := 111) (tgt := 128) hx hb d_Escape_read_17 (by decide) (by rw [hz]; decide) (by decide) ?_
      have hs0 : sp_see t i j = 102 := by rw [hsee]; omega
      have hs1 := sp_off_asc utf (t := t) (i := i) (by omega) (by omega)
      have hbi1 := sp_off_le_len utf (t := t) (i := i + 1) (by omega)
      refine lv_aload_n hx hb d_Escape_read_128 rfl (lv_at hl 0 rfl) ?_
      refine zi_bipush hx hb d_Escape_read_129 (by decide) ?_
      refine lv_iload_n hx hb d_Escape_read_131 rfl (lv_at hl 1 rfl) ?_
      refine zi_iconst hx hb d_Escape_read_132 ?_
      refine zi_iadd hx hb d_Escape_read_133 ?_
      rw [show ((sp_off utf t i : Nat) : Int) + 1 = ((sp_off utf t (i + 1) : Nat) : Int) by omega]
      have hPc := hP.sub (ws' := [(h, .inr (7, [.ref tx, .ref en, .int (iI ch), .int (iI nx)]))]) [0] rfl
      have hDc := hD.sub (ws' := [(h, .inr (7, [.ref tx, .ref en, .int (iI ch), .int (iI nx)]))]) [0] (by decide) rfl
      have hFc := va_free (wc := [(h, .inr (7, [.ref tx, .ref en, .int (iI ch), .int (iI nx)]))]) hD hS hA [0] rfl
      refine zcW (va_runV (As := [.int (iI 12), .int (iI ((sp_off utf t (i + 1) : Nat) : Int))]) (rest := []) S (c_Escape_found l E s.heap.size h tx en ch nx 12 ((sp_off utf t (i + 1) : Nat) : Int)) ⟨zcwB (n := 2) S zw_786 zw_13 zw_783 (by decide +kernel) rfl rfl ⟨Nat.le_of_ble_eq_true rfl, Nat.le_of_ble_eq_true rfl⟩, S.2.2.2.2 _ zw_785, S.2.2.2.2 _ zs_19⟩ (zPreV hE (hP 0 _ rfl) rfl ⟨rfl, hPc, hDc.weaken (fun _ _ _ h => hA0 _ h), trivial⟩) rfl rfl hl.1 rfl (lv_room (Nat.le_of_ble_eq_true rfl)) d_Escape_read_134 ⟨by (try dsimp only); omega, by (try dsimp only); omega⟩) hS (fun q _ h => hFc q h) hFc (fun v H locs hq hz1 hk1 hS => ?_)
      obtain ⟨rfl, hP1, hD1⟩ := hq
      obtain ⟨hP, hD⟩ := va_join (wr := []) (w1 := [(h, .inr (7, [.ref tx, .ref en, .int (iI 12), .int (iI ((sp_off utf t (i + 1) : Nat) : Int))]))]) hP hD [0] [] rfl rfl (by decide) (by decide) hk1 hFc hP1 hD1
      have hP : va_P E.1 zcl [(h, .inr (7, [.ref tx, .ref en, .int (iI 12), .int (iI ((sp_off utf t (i + 1) : Nat) : Int))]))] H := hP
      have hD : va_D A [(h, .inr (7, [.ref tx, .ref en, .int (iI 12), .int (iI ((sp_off utf t (i + 1) : Nat) : Int))]))] := hD
      have hE := hE0.at hS hA0
      exact zwz S hr hlk hS (⟨12, ((sp_off utf t (i + 1) : Nat) : Int), hP, hD, by rw [hs0, show sp_esc utf t 102 (i + 1) j = some (12, i + 1) from rfl]; exact ⟨rfl, rfl, rfl⟩⟩) (by (try dsimp only); omega) (by (try dsimp only); omega) d_Escape_read_137
    · refine lv_lookup (off := 121) (tgt := 138) hx hb d_Escape_read_17 (by decide) (by rw [hz]; decide) (by decide) ?_
      have hs0 : sp_see t i j = 110 := by rw [hsee]; omega
      have hs1 := sp_off_asc utf (t := t) (i := i) (by omega) (by omega)
      have hbi1 := sp_off_le_len utf (t := t) (i := i + 1) (by omega)
      refine lv_aload_n hx hb d_Escape_read_138 rfl (lv_at hl 0 rfl) ?_
      refine zi_bipush hx hb d_Escape_read_139 (by decide) ?_
      refine lv_iload_n hx hb d_Escape_read_141 rfl (lv_at hl 1 rfl) ?_
      refine zi_iconst hx hb d_Escape_read_142 ?_
      refine zi_iadd hx hb d_Escape_read_143 ?_
      rw [show ((sp_off utf t i : Nat) : Int) + 1 = ((sp_off utf t (i + 1) : Nat) : Int) by omega]
      have hPc := hP.sub (ws' := [(h, .inr (7, [.ref tx, .ref en, .int (iI ch), .int (iI nx)]))]) [0] rfl
      have hDc := hD.sub (ws' := [(h, .inr (7, [.ref tx, .ref en, .int (iI ch), .int (iI nx)]))]) [0] (by decide) rfl
      have hFc := va_free (wc := [(h, .inr (7, [.ref tx, .ref en, .int (iI ch), .int (iI nx)]))]) hD hS hA [0] rfl
      refine zcW (va_runV (As := [.int (iI 10), .int (iI ((sp_off utf t (i + 1) : Nat) : Int))]) (rest := []) S (c_Escape_found l E s.heap.size h tx en ch nx 10 ((sp_off utf t (i + 1) : Nat) : Int)) ⟨zcwB (n := 2) S zw_786 zw_13 zw_783 (by decide +kernel) rfl rfl ⟨Nat.le_of_ble_eq_true rfl, Nat.le_of_ble_eq_true rfl⟩, S.2.2.2.2 _ zw_785, S.2.2.2.2 _ zs_19⟩ (zPreV hE (hP 0 _ rfl) rfl ⟨rfl, hPc, hDc.weaken (fun _ _ _ h => hA0 _ h), trivial⟩) rfl rfl hl.1 rfl (lv_room (Nat.le_of_ble_eq_true rfl)) d_Escape_read_144 ⟨by (try dsimp only); omega, by (try dsimp only); omega⟩) hS (fun q _ h => hFc q h) hFc (fun v H locs hq hz1 hk1 hS => ?_)
      obtain ⟨rfl, hP1, hD1⟩ := hq
      obtain ⟨hP, hD⟩ := va_join (wr := []) (w1 := [(h, .inr (7, [.ref tx, .ref en, .int (iI 10), .int (iI ((sp_off utf t (i + 1) : Nat) : Int))]))]) hP hD [0] [] rfl rfl (by decide) (by decide) hk1 hFc hP1 hD1
      have hP : va_P E.1 zcl [(h, .inr (7, [.ref tx, .ref en, .int (iI 10), .int (iI ((sp_off utf t (i + 1) : Nat) : Int))]))] H := hP
      have hD : va_D A [(h, .inr (7, [.ref tx, .ref en, .int (iI 10), .int (iI ((sp_off utf t (i + 1) : Nat) : Int))]))] := hD
      have hE := hE0.at hS hA0
      exact zwz S hr hlk hS (⟨10, ((sp_off utf t (i + 1) : Nat) : Int), hP, hD, by rw [hs0, show sp_esc utf t 110 (i + 1) j = some (10, i + 1) from rfl]; exact ⟨rfl, rfl, rfl⟩⟩) (by (try dsimp only); omega) (by (try dsimp only); omega) d_Escape_read_147
    · refine lv_lookup (off := 171) (tgt := 188) hx hb d_Escape_read_17 (by decide) (by rw [hz]; decide) (by decide) ?_
      have hs0 : sp_see t i j = 111 := by rw [hsee]; omega
      have hs1 := sp_off_asc utf (t := t) (i := i) (by omega) (by omega)
      have hbi1 := sp_off_le_len utf (t := t) (i := i + 1) (by omega)
      refine lv_aload_n hx hb d_Escape_read_188 rfl (lv_at hl 0 rfl) ?_
      refine lv_iload_n hx hb d_Escape_read_189 rfl (lv_at hl 1 rfl) ?_
      refine zi_iconst hx hb d_Escape_read_190 ?_
      refine zi_iadd hx hb d_Escape_read_191 ?_
      refine lv_iload_n hx hb d_Escape_read_192 rfl (lv_at hl 2 rfl) ?_
      refine zi_bipush hx hb d_Escape_read_193 (by decide) ?_
      rw [show ((sp_off utf t i : Nat) : Int) + 1 = ((sp_off utf t (i + 1) : Nat) : Int) by omega]
      have hPc := hP.sub (ws' := [(h, .inr (7, [.ref tx, .ref en, .int (iI ch), .int (iI nx)]))]) [0] rfl
      have hDc := hD.sub (ws' := [(h, .inr (7, [.ref tx, .ref en, .int (iI ch), .int (iI nx)]))]) [0] (by decide) rfl
      have hFc := va_free (wc := [(h, .inr (7, [.ref tx, .ref en, .int (iI ch), .int (iI nx)]))]) hD hS hA [0] rfl
      refine zcW (va_runV (As := [.int (iI ((sp_off utf t (i + 1) : Nat) : Int)), .int (iI ((sp_off utf t j : Nat) : Int)), .int (iI 8)]) (rest := []) S (c_Escape_readBraced l E s.heap.size Z h tx en (i + 1) j ch nx utf t 8 8 rfl (by omega) (by omega) he htl) ⟨zcwB (n := 3) S zw_810 zw_13 zw_807 (by decide +kernel) rfl rfl ⟨Nat.le_of_ble_eq_true rfl, Nat.le_of_ble_eq_true rfl⟩, S.2.2.2.2 _ zw_809, S.2.2.2.2 _ zs_24⟩ (zPreV hE (hP 0 _ rfl) rfl ⟨rfl, hPc, hDc.weaken (fun _ _ _ h => ⟨hA0 _ h, fun z => hAZ _ z h⟩), (fun q z => Nat.lt_of_lt_of_le (hZb q z) hS.1), hzt, hze, (zfz hS hen (hAZ _ hze)), (zrowZ.fz hrowz hS hAZ)⟩) rfl rfl hl.1 rfl (lv_room (Nat.le_of_ble_eq_true rfl)) d_Escape_read_195 ⟨by (try dsimp only); omega, by (try dsimp only); omega⟩) hS (fun q _ h => hFc q h) hFc (fun v H locs hq hz1 hk1 hS => ?_)
      obtain ⟨c1, n1, hP1, hD1, hm⟩ := hq
      obtain ⟨hP, hD⟩ := va_join (wr := []) (w1 := [(h, .inr (7, [.ref tx, .ref en, .int (iI c1), .int (iI n1)]))]) hP hD [0] [] rfl rfl (by decide) (by decide) hk1 hFc hP1 hD1
      have hP : va_P E.1 zcl [(h, .inr (7, [.ref tx, .ref en, .int (iI c1), .int (iI n1)]))] H := hP
      have hD : va_D A [(h, .inr (7, [.ref tx, .ref en, .int (iI c1), .int (iI n1)]))] := hD
      have hE := hE0.at hS hA0
      rcases hX : (sp_braced utf 8 t (i + 1) j) with _ | ⟨a, k⟩
      · rw [hX] at hm
        obtain rfl := hm
        exact zwz S hr hlk hS (⟨c1, n1, hP, hD, by rw [hs0, show sp_esc utf t 111 (i + 1) j = sp_braced utf 8 t (i + 1) j from rfl, hX] <;> rfl⟩) (by (try dsimp only); omega) (by (try dsimp only); omega) d_Escape_read_198
      · rw [hX] at hm
        obtain ⟨rfl, rfl, rfl⟩ := hm
        exact zwz S hr hlk hS (⟨((a : Nat) : Int), ((sp_off utf t k : Nat) : Int), hP, hD, by rw [hs0, show sp_esc utf t 111 (i + 1) j = sp_braced utf 8 t (i + 1) j from rfl, hX]; exact ⟨rfl, rfl, rfl⟩⟩) (by (try dsimp only); omega) (by (try dsimp only); omega) d_Escape_read_198
    · refine lv_lookup (off := 131) (tgt := 148) hx hb d_Escape_read_17 (by decide) (by rw [hz]; decide) (by decide) ?_
      have hs0 : sp_see t i j = 114 := by rw [hsee]; omega
      have hs1 := sp_off_asc utf (t := t) (i := i) (by omega) (by omega)
      have hbi1 := sp_off_le_len utf (t := t) (i := i + 1) (by omega)
      refine lv_aload_n hx hb d_Escape_read_148 rfl (lv_at hl 0 rfl) ?_
      refine zi_bipush hx hb d_Escape_read_149 (by decide) ?_
      refine lv_iload_n hx hb d_Escape_read_151 rfl (lv_at hl 1 rfl) ?_
      refine zi_iconst hx hb d_Escape_read_152 ?_
      refine zi_iadd hx hb d_Escape_read_153 ?_
      rw [show ((sp_off utf t i : Nat) : Int) + 1 = ((sp_off utf t (i + 1) : Nat) : Int) by omega]
      have hPc := hP.sub (ws' := [(h, .inr (7, [.ref tx, .ref en, .int (iI ch), .int (iI nx)]))]) [0] rfl
      have hDc := hD.sub (ws' := [(h, .inr (7, [.ref tx, .ref en, .int (iI ch), .int (iI nx)]))]) [0] (by decide) rfl
      have hFc := va_free (wc := [(h, .inr (7, [.ref tx, .ref en, .int (iI ch), .int (iI nx)]))]) hD hS hA [0] rfl
      refine zcW (va_runV (As := [.int (iI 13), .int (iI ((sp_off utf t (i + 1) : Nat) : Int))]) (rest := []) S (c_Escape_found l E s.heap.size h tx en ch nx 13 ((sp_off utf t (i + 1) : Nat) : Int)) ⟨zcwB (n := 2) S zw_786 zw_13 zw_783 (by decide +kernel) rfl rfl ⟨Nat.le_of_ble_eq_true rfl, Nat.le_of_ble_eq_true rfl⟩, S.2.2.2.2 _ zw_785, S.2.2.2.2 _ zs_19⟩ (zPreV hE (hP 0 _ rfl) rfl ⟨rfl, hPc, hDc.weaken (fun _ _ _ h => hA0 _ h), trivial⟩) rfl rfl hl.1 rfl (lv_room (Nat.le_of_ble_eq_true rfl)) d_Escape_read_154 ⟨by (try dsimp only); omega, by (try dsimp only); omega⟩) hS (fun q _ h => hFc q h) hFc (fun v H locs hq hz1 hk1 hS => ?_)
      obtain ⟨rfl, hP1, hD1⟩ := hq
      obtain ⟨hP, hD⟩ := va_join (wr := []) (w1 := [(h, .inr (7, [.ref tx, .ref en, .int (iI 13), .int (iI ((sp_off utf t (i + 1) : Nat) : Int))]))]) hP hD [0] [] rfl rfl (by decide) (by decide) hk1 hFc hP1 hD1
      have hP : va_P E.1 zcl [(h, .inr (7, [.ref tx, .ref en, .int (iI 13), .int (iI ((sp_off utf t (i + 1) : Nat) : Int))]))] H := hP
      have hD : va_D A [(h, .inr (7, [.ref tx, .ref en, .int (iI 13), .int (iI ((sp_off utf t (i + 1) : Nat) : Int))]))] := hD
      have hE := hE0.at hS hA0
      exact zwz S hr hlk hS (⟨13, ((sp_off utf t (i + 1) : Nat) : Int), hP, hD, by rw [hs0, show sp_esc utf t 114 (i + 1) j = some (13, i + 1) from rfl]; exact ⟨rfl, rfl, rfl⟩⟩) (by (try dsimp only); omega) (by (try dsimp only); omega) d_Escape_read_157
    · refine lv_lookup (off := 141) (tgt := 158) hx hb d_Escape_read_17 (by decide) (by rw [hz]; decide) (by decide) ?_
      have hs0 : sp_see t i j = 116 := by rw [hsee]; omega
      have hs1 := sp_off_asc utf (t := t) (i := i) (by omega) (by omega)
      have hbi1 := sp_off_le_len utf (t := t) (i := i + 1) (by omega)
      refine lv_aload_n hx hb d_Escape_read_158 rfl (lv_at hl 0 rfl) ?_
      refine zi_bipush hx hb d_Escape_read_159 (by decide) ?_
      refine lv_iload_n hx hb d_Escape_read_161 rfl (lv_at hl 1 rfl) ?_
      refine zi_iconst hx hb d_Escape_read_162 ?_
      refine zi_iadd hx hb d_Escape_read_163 ?_
      rw [show ((sp_off utf t i : Nat) : Int) + 1 = ((sp_off utf t (i + 1) : Nat) : Int) by omega]
      have hPc := hP.sub (ws' := [(h, .inr (7, [.ref tx, .ref en, .int (iI ch), .int (iI nx)]))]) [0] rfl
      have hDc := hD.sub (ws' := [(h, .inr (7, [.ref tx, .ref en, .int (iI ch), .int (iI nx)]))]) [0] (by decide) rfl
      have hFc := va_free (wc := [(h, .inr (7, [.ref tx, .ref en, .int (iI ch), .int (iI nx)]))]) hD hS hA [0] rfl
      refine zcW (va_runV (As := [.int (iI 9), .int (iI ((sp_off utf t (i + 1) : Nat) : Int))]) (rest := []) S (c_Escape_found l E s.heap.size h tx en ch nx 9 ((sp_off utf t (i + 1) : Nat) : Int)) ⟨zcwB (n := 2) S zw_786 zw_13 zw_783 (by decide +kernel) rfl rfl ⟨Nat.le_of_ble_eq_true rfl, Nat.le_of_ble_eq_true rfl⟩, S.2.2.2.2 _ zw_785, S.2.2.2.2 _ zs_19⟩ (zPreV hE (hP 0 _ rfl) rfl ⟨rfl, hPc, hDc.weaken (fun _ _ _ h => hA0 _ h), trivial⟩) rfl rfl hl.1 rfl (lv_room (Nat.le_of_ble_eq_true rfl)) d_Escape_read_164 ⟨by (try dsimp only); omega, by (try dsimp only); omega⟩) hS (fun q _ h => hFc q h) hFc (fun v H locs hq hz1 hk1 hS => ?_)
      obtain ⟨rfl, hP1, hD1⟩ := hq
      obtain ⟨hP, hD⟩ := va_join (wr := []) (w1 := [(h, .inr (7, [.ref tx, .ref en, .int (iI 9), .int (iI ((sp_off utf t (i + 1) : Nat) : Int))]))]) hP hD [0] [] rfl rfl (by decide) (by decide) hk1 hFc hP1 hD1
      have hP : va_P E.1 zcl [(h, .inr (7, [.ref tx, .ref en, .int (iI 9), .int (iI ((sp_off utf t (i + 1) : Nat) : Int))]))] H := hP
      have hD : va_D A [(h, .inr (7, [.ref tx, .ref en, .int (iI 9), .int (iI ((sp_off utf t (i + 1) : Nat) : Int))]))] := hD
      have hE := hE0.at hS hA0
      exact zwz S hr hlk hS (⟨9, ((sp_off utf t (i + 1) : Nat) : Int), hP, hD, by rw [hs0, show sp_esc utf t 116 (i + 1) j = some (9, i + 1) from rfl]; exact ⟨rfl, rfl, rfl⟩⟩) (by (try dsimp only); omega) (by (try dsimp only); omega) d_Escape_read_167
    · refine lv_lookup (off := 182) (tgt := 199) hx hb d_Escape_read_17 (by decide) (by rw [hz]; decide) (by decide) ?_
      have hs0 : sp_see t i j = 120 := by rw [hsee]; omega
      have hs1 := sp_off_asc utf (t := t) (i := i) (by omega) (by omega)
      have hbi1 := sp_off_le_len utf (t := t) (i := i + 1) (by omega)
      have hl1 := sp_off_lt utf (t := t) (i := i + 1) (j := j) (by omega) he
      refine lv_iload_n hx hb d_Escape_read_199 rfl (lv_at hl 1 rfl) ?_
      refine zi_iconst hx hb d_Escape_read_200 ?_
      refine zi_iadd hx hb d_Escape_read_201 ?_
      refine lv_iload_n hx hb d_Escape_read_202 rfl (lv_at hl 2 rfl) ?_
      rw [show ((sp_off utf t i : Nat) : Int) + 1 = ((sp_off utf t (i + 1) : Nat) : Int) by omega]
      refine zi_icmp_ge hx hb d_Escape_read_203 rfl (by omega) (by omega) (fun h203 => ?_) (fun h203 => ?_)
      · refine zi_iconst hx hb d_Escape_read_225 ?_
        have h123 : ¬ sp_see t (i + 1) j = 123 := by first | (rw [hsed]; omega) | (rw [sp_see_out (by omega)]; omega)
        refine lv_istore_n (lv' := [(3, .int (iI 0)), (0, .ref h), (1, .int (iI ((sp_off utf t i : Nat) : Int))), (2, .int (iI ((sp_off utf t j : Nat) : Int)))]) hx hb d_Escape_read_226 rfl hl (by decide) rfl (fun ls hl => ?_)
        refine lv_iload_n hx hb d_Escape_read_227 rfl (lv_at hl 0 rfl) ?_
        refine zi_if_eq hx hb d_Escape_read_228 rfl (by omega) (fun h228 => ?_) (fun h228 => absurd h228 (by omega))
        refine lv_aload_n hx hb d_Escape_read_244 rfl (lv_at hl 1 rfl) ?_
        refine lv_iload_n hx hb d_Escape_read_245 rfl (lv_at hl 2 rfl) ?_
        refine zi_iconst hx hb d_Escape_read_246 ?_
        refine zi_iadd hx hb d_Escape_read_247 ?_
        refine lv_iload_n hx hb d_Escape_read_248 rfl (lv_at hl 3 rfl) ?_
        refine zi_bipush hx hb d_Escape_read_249 (by decide) ?_
        rw [show ((sp_off utf t i : Nat) : Int) + 1 = ((sp_off utf t (i + 1) : Nat) : Int) by omega]
        have hPc := hP.sub (ws' := [(h, .inr (7, [.ref tx, .ref en, .int (iI ch), .int (iI nx)]))]) [0] rfl
        have hDc := hD.sub (ws' := [(h, .inr (7, [.ref tx, .ref en, .int (iI ch), .int (iI nx)]))]) [0] (by decide) rfl
        have hFc := va_free (wc := [(h, .inr (7, [.ref tx, .ref en, .int (iI ch), .int (iI nx)]))]) hD hS hA [0] rfl
        refine zcW (va_runV (As := [.int (iI ((sp_off utf t (i + 1) : Nat) : Int)), .int (iI ((sp_off utf t j : Nat) : Int)), .int (iI 16)]) (rest := []) S (c_Escape_readBare l E s.heap.size Z h tx en (i + 1) j ch nx utf t 16 16 rfl (by omega) (by omega) he htl) ⟨zcwB (n := 3) S zw_794 zw_13 zw_791 (by decide +kernel) rfl rfl ⟨Nat.le_of_ble_eq_true rfl, Nat.le_of_ble_eq_true rfl⟩, S.2.2.2.2 _ zw_793, S.2.2.2.2 _ zs_21⟩ (zPreV hE (hP 0 _ rfl) rfl ⟨rfl, hPc, hDc.weaken (fun _ _ _ h => ⟨hA0 _ h, fun z => hAZ _ z h⟩), (fun q z => Nat.lt_of_lt_of_le (hZb q z) hS.1), hzt, hze, (zfz hS hen (hAZ _ hze)), (zrowZ.fz hrowz hS hAZ)⟩) rfl rfl hl.1 rfl (lv_room (Nat.le_of_ble_eq_true rfl)) d_Escape_read_251 ⟨by (try dsimp only); omega, by (try dsimp only); omega⟩) hS (fun q _ h => hFc q h) hFc (fun v H locs hq hz1 hk1 hS => ?_)
        obtain ⟨c1, n1, hP1, hD1, hm⟩ := hq
        obtain ⟨hP, hD⟩ := va_join (wr := []) (w1 := [(h, .inr (7, [.ref tx, .ref en, .int (iI c1), .int (iI n1)]))]) hP hD [0] [] rfl rfl (by decide) (by decide) hk1 hFc hP1 hD1
        have hP : va_P E.1 zcl [(h, .inr (7, [.ref tx, .ref en, .int (iI c1), .int (iI n1)]))] H := hP
        have hD : va_D A [(h, .inr (7, [.ref tx, .ref en, .int (iI c1), .int (iI n1)]))] := hD
        have hE := hE0.at hS hA0
        rcases hX : (sp_bare 16 t (i + 1) j) with _ | ⟨a, k⟩
        · rw [hX] at hm
          obtain rfl := hm
          exact zwz S hr hlk hS (⟨c1, n1, hP, hD, by rw [hs0, show sp_esc utf t 120 (i + 1) j = (if sp_see t (i + 1) j = 123 then sp_braced utf 16 t (i + 1) j else sp_bare 16 t (i + 1) j) from rfl]; rw [if_neg h123, hX] <;> rfl⟩) (by (try dsimp only); omega) (by (try dsimp only); omega) d_Escape_read_254
        · rw [hX] at hm
          obtain ⟨rfl, rfl, rfl⟩ := hm
          exact zwz S hr hlk hS (⟨((a : Nat) : Int), ((sp_off utf t k : Nat) : Int), hP, hD, by rw [hs0, show sp_esc utf t 120 (i + 1) j = (if sp_see t (i + 1) j = 123 then sp_braced utf 16 t (i + 1) j else sp_bare 16 t (i + 1) j) from rfl]; rw [if_neg h123, hX]; exact ⟨rfl, rfl, rfl⟩⟩) (by (try dsimp only); omega) (by (try dsimp only); omega) d_Escape_read_254
      · refine lv_aload_n hx hb d_Escape_read_206 rfl (lv_at hl 0 rfl) ?_
        refine zgf S hE (ci := 7) rfl i_Escape (hP 0 _ rfl) 0 (by decide) zw_185 rfl d_Escape_read_207 ?_
        refine lv_iload_n hx hb d_Escape_read_210 rfl (lv_at hl 1 rfl) ?_
        refine zi_iconst hx hb d_Escape_read_211 ?_
        refine zi_iadd hx hb d_Escape_read_212 ?_
        rw [show ((sp_off utf t i : Nat) : Int) + 1 = ((sp_off utf t (i + 1) : Nat) : Int) by omega]
        refine zcR (va_runV (As := [.int (iI ((sp_off utf t (i + 1) : Nat) : Int))]) (rest := []) S (c_Row_at l E tx (sp_encs utf t) ((sp_off utf t (i + 1) : Nat) : Int) (by omega)) ⟨zcwB (n := 1) S zw_437 zw_2 zw_782 (by decide +kernel) rfl rfl ⟨Nat.le_of_ble_eq_true rfl, Nat.le_of_ble_eq_true rfl⟩, S.2.2.2.2 _ zw_435, S.2.2.2.2 _ zw_436⟩ (zPreVrow hE (zrowZ.row (zrowZ.fz hrowz hS hAZ)) (zrowZ.row (zrowZ.fz hrowz hS hAZ))) rfl rfl hl.1 rfl (lv_room (Nat.le_of_ble_eq_true rfl)) d_Escape_read_213 ⟨by (try dsimp only); omega, by (try dsimp only); omega⟩) ?_
        rw [sp_at_in (n := sp_off utf t (i + 1)) (by omega) (sp_off_lt_len (by omega))]
        have hb213 := sp_b_lt (zrow.lt (zrowZ.row (zrowZ.fz hrowz hS hAZ))) (sp_off utf t (i + 1))
        have hasd := sp_off_b (utf := utf) (t := t) (i := i + 1) (by omega)
        have hsed := sp_see_eq (t := t) (i := i + 1) (e := j) (by omega)
        refine zi_bipush hx hb d_Escape_read_216 (by decide) ?_
        refine zi_icmp_ne hx hb d_Escape_read_218 rfl (by omega) (by omega) (fun h218 => ?_) (fun h218 => ?_)
        · refine zi_iconst hx hb d_Escape_read_225 ?_
          have h123 : ¬ sp_see t (i + 1) j = 123 := by first | (rw [hsed]; omega) | (rw [sp_see_out (by omega)]; omega)
          refine lv_istore_n (lv' := [(3, .int (iI 0)), (0, .ref h), (1, .int (iI ((sp_off utf t i : Nat) : Int))), (2, .int (iI ((sp_off utf t j : Nat) : Int)))]) hx hb d_Escape_read_226 rfl hl (by decide) rfl (fun ls hl => ?_)
          refine lv_iload_n hx hb d_Escape_read_227 rfl (lv_at hl 0 rfl) ?_
          refine zi_if_eq hx hb d_Escape_read_228 rfl (by omega) (fun h228 => ?_) (fun h228 => absurd h228 (by omega))
          refine lv_aload_n hx hb d_Escape_read_244 rfl (lv_at hl 1 rfl) ?_
          refine lv_iload_n hx hb d_Escape_read_245 rfl (lv_at hl 2 rfl) ?_
          refine zi_iconst hx hb d_Escape_read_246 ?_
          refine zi_iadd hx hb d_Escape_read_247 ?_
          refine lv_iload_n hx hb d_Escape_read_248 rfl (lv_at hl 3 rfl) ?_
          refine zi_bipush hx hb d_Escape_read_249 (by decide) ?_
          rw [show ((sp_off utf t i : Nat) : Int) + 1 = ((sp_off utf t (i + 1) : Nat) : Int) by omega]
          have hPc := hP.sub (ws' := [(h, .inr (7, [.ref tx, .ref en, .int (iI ch), .int (iI nx)]))]) [0] rfl
          have hDc := hD.sub (ws' := [(h, .inr (7, [.ref tx, .ref en, .int (iI ch), .int (iI nx)]))]) [0] (by decide) rfl
          have hFc := va_free (wc := [(h, .inr (7, [.ref tx, .ref en, .int (iI ch), .int (iI nx)]))]) hD hS hA [0] rfl
          refine zcW (va_runV (As := [.int (iI ((sp_off utf t (i + 1) : Nat) : Int)), .int (iI ((sp_off utf t j : Nat) : Int)), .int (iI 16)]) (rest := []) S (c_Escape_readBare l E s.heap.size Z h tx en (i + 1) j ch nx utf t 16 16 rfl (by omega) (by omega) he htl) ⟨zcwB (n := 3) S zw_794 zw_13 zw_791 (by decide +kernel) rfl rfl ⟨Nat.le_of_ble_eq_true rfl, Nat.le_of_ble_eq_true rfl⟩, S.2.2.2.2 _ zw_793, S.2.2.2.2 _ zs_21⟩ (zPreV hE (hP 0 _ rfl) rfl ⟨rfl, hPc, hDc.weaken (fun _ _ _ h => ⟨hA0 _ h, fun z => hAZ _ z h⟩), (fun q z => Nat.lt_of_lt_of_le (hZb q z) hS.1), hzt, hze, (zfz hS hen (hAZ _ hze)), (zrowZ.fz hrowz hS hAZ)⟩) rfl rfl hl.1 rfl (lv_room (Nat.le_of_ble_eq_true rfl)) d_Escape_read_251 ⟨by (try dsimp only); omega, by (try dsimp only); omega⟩) hS (fun q _ h => hFc q h) hFc (fun v H locs hq hz1 hk1 hS => ?_)
          obtain ⟨c1, n1, hP1, hD1, hm⟩ := hq
          obtain ⟨hP, hD⟩ := va_join (wr := []) (w1 := [(h, .inr (7, [.ref tx, .ref en, .int (iI c1), .int (iI n1)]))]) hP hD [0] [] rfl rfl (by decide) (by decide) hk1 hFc hP1 hD1
          have hP : va_P E.1 zcl [(h, .inr (7, [.ref tx, .ref en, .int (iI c1), .int (iI n1)]))] H := hP
          have hD : va_D A [(h, .inr (7, [.ref tx, .ref en, .int (iI c1), .int (iI n1)]))] := hD
          have hE := hE0.at hS hA0
          rcases hX : (sp_bare 16 t (i + 1) j) with _ | ⟨a, k⟩
          · rw [hX] at hm
            obtain rfl := hm
            exact zwz S hr hlk hS (⟨c1, n1, hP, hD, by rw [hs0, show sp_esc utf t 120 (i + 1) j = (if sp_see t (i + 1) j = 123 then sp_braced utf 16 t (i + 1) j else sp_bare 16 t (i + 1) j) from rfl]; rw [if_neg h123, hX] <;> rfl⟩) (by (try dsimp only); omega) (by (try dsimp only); omega) d_Escape_read_254
          · rw [hX] at hm
            obtain ⟨rfl, rfl, rfl⟩ := hm
            exact zwz S hr hlk hS (⟨((a : Nat) : Int), ((sp_off utf t k : Nat) : Int), hP, hD, by rw [hs0, show sp_esc utf t 120 (i + 1) j = (if sp_see t (i + 1) j = 123 then sp_braced utf 16 t (i + 1) j else sp_bare 16 t (i + 1) j) from rfl]; rw [if_neg h123, hX]; exact ⟨rfl, rfl, rfl⟩⟩) (by (try dsimp only); omega) (by (try dsimp only); omega) d_Escape_read_254
        · refine zi_iconst hx hb d_Escape_read_221 ?_
          refine lv_goto hx hb d_Escape_read_222 rfl ?_
          have h123 : sp_see t (i + 1) j = 123 := by rw [hsed]; omega
          refine lv_istore_n (lv' := [(3, .int (iI 1)), (0, .ref h), (1, .int (iI ((sp_off utf t i : Nat) : Int))), (2, .int (iI ((sp_off utf t j : Nat) : Int)))]) hx hb d_Escape_read_226 rfl hl (by decide) rfl (fun ls hl => ?_)
          refine lv_iload_n hx hb d_Escape_read_227 rfl (lv_at hl 0 rfl) ?_
          refine zi_if_eq hx hb d_Escape_read_228 rfl (by omega) (fun h228 => absurd h228 (by omega)) (fun h228 => ?_)
          refine lv_aload_n hx hb d_Escape_read_231 rfl (lv_at hl 1 rfl) ?_
          refine lv_iload_n hx hb d_Escape_read_232 rfl (lv_at hl 2 rfl) ?_
          refine zi_iconst hx hb d_Escape_read_233 ?_
          refine zi_iadd hx hb d_Escape_read_234 ?_
          refine lv_iload_n hx hb d_Escape_read_235 rfl (lv_at hl 3 rfl) ?_
          refine zi_bipush hx hb d_Escape_read_236 (by decide) ?_
          rw [show ((sp_off utf t i : Nat) : Int) + 1 = ((sp_off utf t (i + 1) : Nat) : Int) by omega]
          have hPc := hP.sub (ws' := [(h, .inr (7, [.ref tx, .ref en, .int (iI ch), .int (iI nx)]))]) [0] rfl
          have hDc := hD.sub (ws' := [(h, .inr (7, [.ref tx, .ref en, .int (iI ch), .int (iI nx)]))]) [0] (by decide) rfl
          have hFc := va_free (wc := [(h, .inr (7, [.ref tx, .ref en, .int (iI ch), .int (iI nx)]))]) hD hS hA [0] rfl
          refine zcW (va_runV (As := [.int (iI ((sp_off utf t (i + 1) : Nat) : Int)), .int (iI ((sp_off utf t j : Nat) : Int)), .int (iI 16)]) (rest := []) S (c_Escape_readBraced l E s.heap.size Z h tx en (i + 1) j ch nx utf t 16 16 rfl (by omega) (by omega) he htl) ⟨zcwB (n := 3) S zw_810 zw_13 zw_807 (by decide +kernel) rfl rfl ⟨Nat.le_of_ble_eq_true rfl, Nat.le_of_ble_eq_true rfl⟩, S.2.2.2.2 _ zw_809, S.2.2.2.2 _ zs_24⟩ (zPreV hE (hP 0 _ rfl) rfl ⟨rfl, hPc, hDc.weaken (fun _ _ _ h => ⟨hA0 _ h, fun z => hAZ _ z h⟩), (fun q z => Nat.lt_of_lt_of_le (hZb q z) hS.1), hzt, hze, (zfz hS hen (hAZ _ hze)), (zrowZ.fz hrowz hS hAZ)⟩) rfl rfl hl.1 rfl (lv_room (Nat.le_of_ble_eq_true rfl)) d_Escape_read_238 ⟨by (try dsimp only); omega, by (try dsimp only); omega⟩) hS (fun q _ h => hFc q h) hFc (fun v H locs hq hz1 hk1 hS => ?_)
          obtain ⟨c1, n1, hP1, hD1, hm⟩ := hq
          obtain ⟨hP, hD⟩ := va_join (wr := []) (w1 := [(h, .inr (7, [.ref tx, .ref en, .int (iI c1), .int (iI n1)]))]) hP hD [0] [] rfl rfl (by decide) (by decide) hk1 hFc hP1 hD1
          have hP : va_P E.1 zcl [(h, .inr (7, [.ref tx, .ref en, .int (iI c1), .int (iI n1)]))] H := hP
          have hD : va_D A [(h, .inr (7, [.ref tx, .ref en, .int (iI c1), .int (iI n1)]))] := hD
          have hE := hE0.at hS hA0
          rcases hX : (sp_braced utf 16 t (i + 1) j) with _ | ⟨a, k⟩
          · rw [hX] at hm
            obtain rfl := hm
            refine lv_goto hx hb d_Escape_read_241 rfl ?_
            exact zwz S hr hlk hS (⟨c1, n1, hP, hD, by rw [hs0, show sp_esc utf t 120 (i + 1) j = (if sp_see t (i + 1) j = 123 then sp_braced utf 16 t (i + 1) j else sp_bare 16 t (i + 1) j) from rfl]; rw [if_pos h123, hX] <;> rfl⟩) (by (try dsimp only); omega) (by (try dsimp only); omega) d_Escape_read_254
          · rw [hX] at hm
            obtain ⟨rfl, rfl, rfl⟩ := hm
            refine lv_goto hx hb d_Escape_read_241 rfl ?_
            exact zwz S hr hlk hS (⟨((a : Nat) : Int), ((sp_off utf t k : Nat) : Int), hP, hD, by rw [hs0, show sp_esc utf t 120 (i + 1) j = (if sp_see t (i + 1) j = 123 then sp_braced utf 16 t (i + 1) j else sp_bare 16 t (i + 1) j) from rfl]; rw [if_pos h123, hX]; exact ⟨rfl, rfl, rfl⟩⟩) (by (try dsimp only); omega) (by (try dsimp only); omega) d_Escape_read_254
    · refine lv_lookup (off := 238) (tgt := 255) hx hb d_Escape_read_17 (by decide) (by rw [iI_toInt ⟨by omega, by omega⟩]; simp only [List.toList_toArray, Op.lookupswitch.offset_cons, Op.lookupswitch.offset_nil]; rw [if_neg (by omega), if_neg (by omega), if_neg (by omega), if_neg (by omega), if_neg (by omega), if_neg (by omega), if_neg (by omega), if_neg (by omega), if_neg (by omega), if_neg (by omega)]) (by decide) ?_
      refine zi_iconst hx hb d_Escape_read_255 ?_
      exact zwz (b := false) S hr hlk hS (⟨ch, nx, hP, hD, by rw [show sp_esc utf t (sp_see t i j) (i + 1) j = none by unfold sp_esc; rw [hsee]; rw [if_neg (by omega), if_neg (by omega), if_neg (by omega), if_neg (by omega), if_neg (by omega), if_neg (by omega), if_neg (by omega), if_neg (by omega), if_neg (by omega), if_neg (by omega)]] <;> rfl⟩) (by (try dsimp only); omega) (by (try dsimp only); omega) d_Escape_read_256
