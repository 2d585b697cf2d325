set_option maxRecDepth 100000 in
set_option maxHeartbeats 4000000 in
theorem c_Cases_isUpperOf (l : Launch) (E : zP) (r : Nat) (x : Int) (hr18 : r < 18) (hx0 : -100000 ≤ x) (hx1 : x < 10000000) : Met l y_Cases_isUpperOf (.code y_Cases_isUpperOf b_Cases_isUpperOf 4 ( some FieldType.boolean ) :: zw) { frames := 0, cells := 0, slots := 0, locals := 0 } (zPc E [.int (iI ((5 * r : Nat) : Int)), .int (iI x)] (fun _ => True)) (zR (some (.int (iI (bN (sp_isUp (sp_row r) x)))))) 0 0 (fun _ => False) := by
  refine zMet (by decide) (Nat.le_of_ble_eq_true rfl) ?_
  intro p e s m below meth c ls S hr hlk hnm hE hp hl
  have hx := S.1
  have hb := S.2.1
  have hl : lv_has ls 4 [(0, .int (iI ((5 * r : Nat) : Int))), (1, .int (iI x))] := hl
  have hrr := sp_row_r ⟨r, hr18⟩
  dsimp only at hrr
  refine zgs S hE.pairs zw_139 d_Cases_isUpperOf_0 ?_
  refine lv_iload_n hx hb d_Cases_isUpperOf_3 rfl (lv_at hl 0 rfl) ?_
  refine zti (v := .int (iI (sp_row r).1)) hx hb hE.pairsT (by omega) (by omega) (by omega) (by rw [show Int.toNat ((5 * r : Nat) : Int) = 5 * r by omega, (zpairs_row ⟨r, hr18⟩).1]) d_Cases_isUpperOf_4 ?_
  refine lv_istore_n (lv' := [(2, .int (iI ((sp_row r).1))), (0, .int (iI ((5 * r : Nat) : Int))), (1, .int (iI x))]) hx hb d_Cases_isUpperOf_5 rfl hl (by decide) rfl (fun ls hl => ?_)
  refine zgs S hE.pairs zw_139 d_Cases_isUpperOf_6 ?_
  refine lv_iload_n hx hb d_Cases_isUpperOf_9 rfl (lv_at hl 1 rfl) ?_
  refine zi_iconst hx hb d_Cases_isUpperOf_10 ?_
  refine zi_iadd hx hb d_Cases_isUpperOf_11 ?_
  refine zti (v := .int (iI (sp_row r).2.2.1)) hx hb hE.pairsT (by omega) (by omega) (by omega) (by rw [show Int.toNat (((5 * r : Nat) : Int) + 2) = 5 * r + 2 by omega, (zpairs_row ⟨r, hr18⟩).2.2.1]) d_Cases_isUpperOf_12 ?_
  refine zi_iconst hx hb d_Cases_isUpperOf_13 ?_
  refine zi_icmp_ne hx hb d_Cases_isUpperOf_14 rfl (by omega) (by omega) (fun h14 => ?_) (fun h14 => ?_)
  · refine zi_iconst hx hb d_Cases_isUpperOf_29 ?_
    refine lv_istore_n (lv' := [(3, .int (iI 0)), (2, .int (iI ((sp_row r).1))), (0, .int (iI ((5 * r : Nat) : Int))), (1, .int (iI x))]) hx hb d_Cases_isUpperOf_30 rfl hl (by decide) rfl (fun ls hl => ?_)
    refine lv_iload_n hx hb d_Cases_isUpperOf_31 rfl (lv_at hl 3 rfl) ?_
    refine lv_iload_n hx hb d_Cases_isUpperOf_32 rfl (lv_at hl 1 rfl) ?_
    refine zi_icmp_lt hx hb d_Cases_isUpperOf_33 rfl (by omega) (by omega) (fun h33 => ?_) (fun h33 => ?_)
    · refine zi_iconst hx hb d_Cases_isUpperOf_55 ?_
      exact zretZ (b := false) S hr hlk d_Cases_isUpperOf_56 (by refine Eq.symm ?_; unfold sp_isUp; first | exact decide_eq_true (by omega) | exact decide_eq_false (by omega))
    · refine lv_iload_n hx hb d_Cases_isUpperOf_36 rfl (lv_at hl 3 rfl) ?_
      refine zgs S hE.pairs zw_139 d_Cases_isUpperOf_37 ?_
      refine lv_iload_n hx hb d_Cases_isUpperOf_40 rfl (lv_at hl 2 rfl) ?_
      refine zi_iconst hx hb d_Cases_isUpperOf_41 ?_
      refine zi_iadd hx hb d_Cases_isUpperOf_42 ?_
      refine zti (v := .int (iI (sp_row r).2.1)) hx hb hE.pairsT (by omega) (by omega) (by omega) (by rw [show Int.toNat (((5 * r : Nat) : Int) + 1) = 5 * r + 1 by omega, (zpairs_row ⟨r, hr18⟩).2.1]) d_Cases_isUpperOf_43 ?_
      refine zi_icmp_gt hx hb d_Cases_isUpperOf_44 rfl (by omega) (by omega) (fun h44 => ?_) (fun h44 => ?_)
      · refine zi_iconst hx hb d_Cases_isUpperOf_55 ?_
        exact zretZ (b := false) S hr hlk d_Cases_isUpperOf_56 (by refine Eq.symm ?_; unfold sp_isUp; first | exact decide_eq_true (by omega) | exact decide_eq_false (by omega))
      · refine lv_iload_n hx hb d_Cases_isUpperOf_47 rfl (lv_at hl 0 rfl) ?_
        refine zi_if_ne hx hb d_Cases_isUpperOf_48 rfl (by omega) (fun h48 => absurd h48 (by omega)) (fun h48 => ?_)
        refine zi_iconst hx hb d_Cases_isUpperOf_51 ?_
        refine lv_goto hx hb d_Cases_isUpperOf_52 rfl ?_
        exact zretZ (b := true) S hr hlk d_Cases_isUpperOf_56 (by refine Eq.symm ?_; unfold sp_isUp; first | exact decide_eq_true (by omega) | exact decide_eq_false (by omega))
  · refine lv_iload_n hx hb d_Cases_isUpperOf_17 rfl (lv_at hl 2 rfl) ?_
    refine lv_iload_n hx hb d_Cases_isUpperOf_18 rfl (lv_at hl 0 rfl) ?_
    refine zi_isub hx hb d_Cases_isUpperOf_19 ?_
    refine zi_iconst hx hb d_Cases_isUpperOf_20 ?_
    refine zi_iand hx hb d_Cases_isUpperOf_21 (iI_mask1 _) ?_
    refine zi_if_eq hx hb d_Cases_isUpperOf_22 rfl (by omega) (fun h22 => ?_) (fun h22 => ?_)
    · refine zi_iconst hx hb d_Cases_isUpperOf_29 ?_
      refine lv_istore_n (lv' := [(3, .int (iI 0)), (2, .int (iI ((sp_row r).1))), (0, .int (iI ((5 * r : Nat) : Int))), (1, .int (iI x))]) hx hb d_Cases_isUpperOf_30 rfl hl (by decide) rfl (fun ls hl => ?_)
      refine lv_iload_n hx hb d_Cases_isUpperOf_31 rfl (lv_at hl 3 rfl) ?_
      refine lv_iload_n hx hb d_Cases_isUpperOf_32 rfl (lv_at hl 1 rfl) ?_
      refine zi_icmp_lt hx hb d_Cases_isUpperOf_33 rfl (by omega) (by omega) (fun h33 => ?_) (fun h33 => ?_)
      · refine zi_iconst hx hb d_Cases_isUpperOf_55 ?_
        exact zretZ (b := false) S hr hlk d_Cases_isUpperOf_56 (by refine Eq.symm ?_; unfold sp_isUp; first | exact decide_eq_true (by omega) | exact decide_eq_false (by omega))
      · refine lv_iload_n hx hb d_Cases_isUpperOf_36 rfl (lv_at hl 3 rfl) ?_
        refine zgs S hE.pairs zw_139 d_Cases_isUpperOf_37 ?_
        refine lv_iload_n hx hb d_Cases_isUpperOf_40 rfl (lv_at hl 2 rfl) ?_
        refine zi_iconst hx hb d_Cases_isUpperOf_41 ?_
        refine zi_iadd hx hb d_Cases_isUpperOf_42 ?_
        refine zti (v := .int (iI (sp_row r).2.1)) hx hb hE.pairsT (by omega) (by omega) (by omega) (by rw [show Int.toNat (((5 * r : Nat) : Int) + 1) = 5 * r + 1 by omega, (zpairs_row ⟨r, hr18⟩).2.1]) d_Cases_isUpperOf_43 ?_
        refine zi_icmp_gt hx hb d_Cases_isUpperOf_44 rfl (by omega) (by omega) (fun h44 => ?_) (fun h44 => ?_)
        · refine zi_iconst hx hb d_Cases_isUpperOf_55 ?_
          exact zretZ (b := false) S hr hlk d_Cases_isUpperOf_56 (by refine Eq.symm ?_; unfold sp_isUp; first | exact decide_eq_true (by omega) | exact decide_eq_false (by omega))
        · refine lv_iload_n hx hb d_Cases_isUpperOf_47 rfl (lv_at hl 0 rfl) ?_
          refine zi_if_ne hx hb d_Cases_isUpperOf_48 rfl (by omega) (fun h48 => absurd h48 (by omega)) (fun h48 => ?_)
          refine zi_iconst hx hb d_Cases_isUpperOf_51 ?_
          refine lv_goto hx hb d_Cases_isUpperOf_52 rfl ?_
          exact zretZ (b := true) S hr hlk d_Cases_isUpperOf_56 (by refine Eq.symm ?_; unfold sp_isUp; first | exact decide_eq_true (by omega) | exact decide_eq_false (by omega))
    · refine zi_iconst hx hb d_Cases_isUpperOf_25 ?_
      refine lv_goto hx hb d_Cases_isUpperOf_26 rfl ?_
      refine lv_istore_n (lv' := [(3, .int (iI 1)), (2, .int (iI ((sp_row r).1))), (0, .int (iI ((5 * r : Nat) : Int))), (1, .int (iI x))]) hx hb d_Cases_isUpperOf_30 rfl hl (by decide) rfl (fun ls hl => ?_)
      refine lv_iload_n hx hb d_Cases_isUpperOf_31 rfl (lv_at hl 3 rfl) ?_
      refine lv_iload_n hx hb d_Cases_isUpperOf_32 rfl (lv_at hl 1 rfl) ?_
      refine zi_icmp_lt hx hb d_Cases_isUpperOf_33 rfl (by omega) (by omega) (fun h33 => ?_) (fun h33 => ?_)
      · refine zi_iconst hx hb d_Cases_isUpperOf_55 ?_
        exact zretZ (b := false) S hr hlk d_Cases_isUpperOf_56 (by refine Eq.symm ?_; unfold sp_isUp; first | exact decide_eq_true (by omega) | exact decide_eq_false (by omega))
      · refine lv_iload_n hx hb d_Cases_isUpperOf_36 rfl (lv_at hl 3 rfl) ?_
        refine zgs S hE.pairs zw_139 d_Cases_isUpperOf_37 ?_
        refine lv_iload_n hx hb d_Cases_isUpperOf_40 rfl (lv_at hl 2 rfl) ?_
        refine zi_iconst hx hb d_Cases_isUpperOf_41 ?_
        refine zi_iadd hx hb d_Cases_isUpperOf_42 ?_
        refine zti (v := .int (iI (sp_row r).2.1)) hx hb hE.pairsT (by omega) (by omega) (by omega) (by rw [show Int.toNat (((5 * r : Nat) : Int) + 1) = 5 * r + 1 by omega, (zpairs_row ⟨r, hr18⟩).2.1]) d_Cases_isUpperOf_43 ?_
        refine zi_icmp_gt hx hb d_Cases_isUpperOf_44 rfl (by omega) (by omega) (fun h44 => ?_) (fun h44 => ?_)
        · refine zi_iconst hx hb d_Cases_isUpperOf_55 ?_
          exact zretZ (b := false) S hr hlk d_Cases_isUpperOf_56 (by refine Eq.symm ?_; unfold sp_isUp; first | exact decide_eq_true (by omega) | exact decide_eq_false (by omega))
        · refine lv_iload_n hx hb d_Cases_isUpperOf_47 rfl (lv_at hl 0 rfl) ?_
          refine zi_if_ne hx hb d_Cases_isUpperOf_48 rfl (by omega) (fun h48 => ?_) (fun h48 => absurd h48 (by omega))
          refine zi_iconst hx hb d_Cases_isUpperOf_55 ?_
          exact zretZ (b := false) S hr hlk d_Cases_isUpperOf_56 (by refine Eq.symm ?_; unfold sp_isUp; first | exact decide_eq_true (by omega) | exact decide_eq_false (by omega))

set_option maxRecDepth 100000 in
set_option maxHeartbeats 4000000 in
theorem c_Cases_turned (l : Launch) (E : zP) (h mr c0 how : Nat) (hm : mr ≤ 18) (hc0 : c0 < 2097152) (hh : how ≤ 2) : Met l y_Cases_turned (.code y_Cases_turned b_Cases_turned 8 ( some FieldType.int ) :: zw) { frames := 1, cells := 0, slots := 0, locals := 23 } (zPc E [.ref h, .int (iI ((c0 : Nat) : Int)), .ref (E.2.2.1 (how + 1))] (zO E 3 h [.int (iI ((5 * mr : Nat) : Int))])) (zR (some (.int (iI (if how = 0 then (c0 : Int) else sp_find (decide (how = 1)) (c0 : Int) (sp_rows.take mr)))))) 0 0 (fun _ => False) := by
  refine zMet (by decide) (Nat.le_of_ble_eq_true rfl) ?_
  intro p e s m below meth c ls S hr hlk hnm hE hp hl
  have hx := S.1
  have hb := S.2.1
  have hl : lv_has ls 8 [(0, .ref h), (1, .int (iI ((c0 : Nat) : Int))), (2, .ref (E.2.2.1 (how + 1)))] := hl
  refine lv_aload_n hx hb d_Cases_turned_0 rfl (lv_at hl 2 rfl) ?_
  refine zgs S hE.asis zw_676 d_Cases_turned_1 ?_
  refine zacmp_ne hx hb d_Cases_turned_4 rfl (fun h4 => ?_) (fun h4 => ?_)
  · have hh0 : how ≠ 0 := fun q => h4 (by rw [q])
    refine lv_aload_n hx hb d_Cases_turned_9 rfl (lv_at hl 2 rfl) ?_
    refine zgs S hE.upper zw_677 d_Cases_turned_10 ?_
    refine zacmp_ne hx hb d_Cases_turned_13 rfl (fun h13 => ?_) (fun h13 => ?_)
    · have hh1 : how ≠ 1 := fun q => h13 (by rw [q])
      refine zi_iconst hx hb d_Cases_turned_20 ?_
      refine lv_istore_n (lv' := [(3, .int (iI 0)), (0, .ref h), (1, .int (iI ((c0 : Nat) : Int))), (2, .ref (E.2.2.1 (how + 1)))]) hx hb d_Cases_turned_21 rfl hl (by decide) rfl (fun ls hl => ?_)
      refine lv_iload_n hx hb d_Cases_turned_22 rfl (lv_at hl 0 rfl) ?_
      refine zi_if_eq hx hb d_Cases_turned_23 rfl (by omega) (fun h23 => ?_) (fun h23 => absurd h23 (by omega))
      refine zi_iconst hx hb d_Cases_turned_30 ?_
      refine lv_istore (lv' := [(4, .int (iI 1)), (3, .int (iI 0)), (0, .ref h), (1, .int (iI ((c0 : Nat) : Int))), (2, .ref (E.2.2.1 (how + 1)))]) hx hb d_Cases_turned_31 hl (by decide) rfl (fun ls hl => ?_)
      refine zi_iconst hx hb d_Cases_turned_33 ?_
      refine lv_istore (lv' := [(5, .int (iI 0)), (4, .int (iI 1)), (3, .int (iI 0)), (0, .ref h), (1, .int (iI ((c0 : Nat) : Int))), (2, .ref (E.2.2.1 (how + 1)))]) hx hb d_Cases_turned_34 hl (by decide) rfl (fun ls hl => ?_)
      have key : ∃ (r : Nat), (r ≤ mr ∧ sp_find false (c0 : Int) ((sp_rows.take mr).drop r) = sp_find false (c0 : Int) (sp_rows.take mr)) ∧ lv_has ls 8 [(5, .int (iI ((5 * r : Nat) : Int))), (4, .int (iI 1)), (3, .int (iI 0)), (0, .ref h), (1, .int (iI ((c0 : Nat) : Int))), (2, .ref (E.2.2.1 (how + 1)))] := ⟨0, ⟨by omega, by simp⟩, hl⟩
      clear hl
      obtain ⟨r, hinv, hl⟩ := key
      obtain ⟨n, hn⟩ : ∃ n : Nat, mr - r < n := ⟨_, Nat.lt_succ_self _⟩
      induction n generalizing r ls with
      | zero => exact absurd hn (Nat.not_lt_zero _)
      | succ n ih =>
        obtain ⟨h1, h2⟩ := hinv
        refine lv_iload hx hb d_Cases_turned_36 (lv_at hl 0 rfl) ?_
        refine lv_aload_n hx hb d_Cases_turned_38 rfl (lv_at hl 3 rfl) ?_
        refine zgf S hE (ci := 3) rfl i_Cases hp 0 (by decide) zw_141 rfl d_Cases_turned_39 ?_
        refine zi_icmp_ge hx hb d_Cases_turned_42 rfl (by omega) (by omega) (fun h42 => ?_) (fun h42 => ?_)
        · refine lv_iload_n hx hb d_Cases_turned_113 rfl (lv_at hl 4 rfl) ?_
          exact zretI S hr hlk d_Cases_turned_114 (congrArg iI (by rw [if_neg (by omega), show decide (how = 1) = false by simp; omega, ← h2, sp_find_end _ _ (by omega)]))
        · have hrm : r < mr := by omega
          have hr18 : r < 18 := by omega
          have hrr := sp_row_r ⟨r, hr18⟩
          dsimp only at hrr
          refine zgs S hE.pairs zw_139 d_Cases_turned_45 ?_
          refine lv_iload hx hb d_Cases_turned_48 (lv_at hl 0 rfl) ?_
          refine zi_iconst hx hb d_Cases_turned_50 ?_
          refine zi_iadd hx hb d_Cases_turned_51 ?_
          refine zti (v := .int (iI (sp_row r).2.2.2.1)) hx hb hE.pairsT (by omega) (by omega) (by omega) (by rw [show Int.toNat (((5 * r : Nat) : Int) + 3) = 5 * r + 3 by omega, (zpairs_row ⟨r, hr18⟩).2.2.2.1]) d_Cases_turned_52 ?_
          refine lv_istore (lv' := [(6, .int (iI ((sp_row r).2.2.2.1))), (5, .int (iI ((5 * r : Nat) : Int))), (4, .int (iI 1)), (3, .int (iI 0)), (0, .ref h), (1, .int (iI ((c0 : Nat) : Int))), (2, .ref (E.2.2.1 (how + 1)))]) hx hb d_Cases_turned_53 hl (by decide) rfl (fun ls hl => ?_)
          refine lv_iload_n hx hb d_Cases_turned_55 rfl (lv_at hl 3 rfl) ?_
          refine zi_if_eq hx hb d_Cases_turned_56 rfl (by omega) (fun h56 => ?_) (fun h56 => absurd h56 (by omega))
          refine lv_iload_n hx hb d_Cases_turned_66 rfl (lv_at hl 5 rfl) ?_
          refine lv_istore (lv' := [(7, .int (iI ((c0 : Nat) : Int))), (6, .int (iI ((sp_row r).2.2.2.1))), (5, .int (iI ((5 * r : Nat) : Int))), (4, .int (iI 1)), (3, .int (iI 0)), (0, .ref h), (1, .int (iI ((c0 : Nat) : Int))), (2, .ref (E.2.2.1 (how + 1)))]) hx hb d_Cases_turned_67 hl (by decide) rfl (fun ls hl => ?_)
          refine zgs S hE.pairs zw_139 d_Cases_turned_69 ?_
          refine lv_iload hx hb d_Cases_turned_72 (lv_at hl 2 rfl) ?_
          refine zi_iconst hx hb d_Cases_turned_74 ?_
          refine zi_iadd hx hb d_Cases_turned_75 ?_
          refine zti (v := .int (iI (sp_row r).2.2.2.2)) hx hb hE.pairsT (by omega) (by omega) (by omega) (by rw [show Int.toNat (((5 * r : Nat) : Int) + 4) = 5 * r + 4 by omega, (zpairs_row ⟨r, hr18⟩).2.2.2.2]) d_Cases_turned_76 ?_
          refine lv_iload hx hb d_Cases_turned_77 (lv_at hl 3 rfl) ?_
          refine zi_icmp_eq hx hb d_Cases_turned_79 rfl (by omega) (by omega) (fun h79 => ?_) (fun h79 => ?_)
          · skip
            refine lv_iinc (k := 2) (v := iI ((5 * (r + 1) : Nat) : Int)) (lv' := [(5, .int (iI ((5 * (r + 1) : Nat) : Int))), (7, .int (iI ((c0 : Nat) : Int))), (6, .int (iI ((sp_row r).2.2.2.1))), (4, .int (iI 1)), (3, .int (iI 0)), (0, .ref h), (1, .int (iI ((c0 : Nat) : Int))), (2, .ref (E.2.2.1 (how + 1)))]) hx hb d_Cases_turned_107 hl rfl (by rw [show Int32.ofInt 5 = iI 5 from rfl, iI_add]; congr 1) (by decide) rfl (fun ls hl => ?_)
            refine lv_goto hx hb d_Cases_turned_110 rfl ?_
            exact ih ls (r + 1) (⟨by omega, by rw [← h2, sp_find_step false _ hrm (by omega), if_neg (by simp; intro hq; exact absurd h79 hq)]⟩) (lv_sub hl [0, 3, 4, 5, 6, 7] rfl) (by omega)
          · skip
            refine lv_iload hx hb d_Cases_turned_82 (lv_at hl 2 rfl) ?_
            refine lv_iload hx hb d_Cases_turned_84 (lv_at hl 0 rfl) ?_
            refine zcR (va_runS (As := [.int (iI ((5 * r : Nat) : Int)), .int (iI ((c0 : Nat) : Int))]) (rest := []) S (c_Cases_isUpperOf l E r ((c0 : Nat) : Int) hr18 (by omega) (by omega)) ⟨zcwB (n := 2) S zw_681 zw_9 zw_679 (by decide +kernel) rfl rfl ⟨Nat.le_of_ble_eq_true rfl, Nat.le_of_ble_eq_true rfl⟩, S.2.2.2.2 _ zw_680⟩ (zPreS hE trivial) rfl rfl hl.1 rfl (lv_room (Nat.le_of_ble_eq_true rfl)) d_Cases_turned_86 ⟨Nat.zero_le _, Nat.zero_le _⟩) ?_
            refine zb_ifeq hx hb d_Cases_turned_89 rfl (fun h89 => ?_) (fun h89 => ?_)
            · refine lv_iinc (k := 2) (v := iI ((5 * (r + 1) : Nat) : Int)) (lv' := [(5, .int (iI ((5 * (r + 1) : Nat) : Int))), (7, .int (iI ((c0 : Nat) : Int))), (6, .int (iI ((sp_row r).2.2.2.1))), (4, .int (iI 1)), (3, .int (iI 0)), (0, .ref h), (1, .int (iI ((c0 : Nat) : Int))), (2, .ref (E.2.2.1 (how + 1)))]) hx hb d_Cases_turned_107 hl rfl (by rw [show Int32.ofInt 5 = iI 5 from rfl, iI_add]; congr 1) (by decide) rfl (fun ls hl => ?_)
              refine lv_goto hx hb d_Cases_turned_110 rfl ?_
              exact ih ls (r + 1) (⟨by omega, by rw [← h2, sp_find_step false _ hrm (by omega), if_neg (by simp; intro hq; exact h89)]⟩) (lv_sub hl [0, 3, 4, 5, 6, 7] rfl) (by omega)
            · refine lv_iload_n hx hb d_Cases_turned_92 rfl (lv_at hl 4 rfl) ?_
              refine zi_if_eq hx hb d_Cases_turned_93 rfl (by omega) (fun h93 => ?_) (fun h93 => absurd h93 (by omega))
              refine lv_iload hx hb d_Cases_turned_101 (lv_at hl 0 rfl) ?_
              refine lv_iload hx hb d_Cases_turned_103 (lv_at hl 1 rfl) ?_
              refine zi_iadd hx hb d_Cases_turned_105 ?_
              exact zretI S hr hlk d_Cases_turned_106 (congrArg iI (by rw [if_neg (by omega), show decide (how = 1) = false by simp; omega, ← h2, sp_find_step false _ hrm (by omega), if_pos (by simp; exact ⟨h79, h89⟩)]; rfl))
    · have hh1 : how = 1 := by have := (hE.turns hh (b := 1) (by omega)).mp h13; omega
      refine zi_iconst hx hb d_Cases_turned_16 ?_
      refine lv_goto hx hb d_Cases_turned_17 rfl ?_
      refine lv_istore_n (lv' := [(3, .int (iI 1)), (0, .ref h), (1, .int (iI ((c0 : Nat) : Int))), (2, .ref (E.2.2.1 (how + 1)))]) hx hb d_Cases_turned_21 rfl hl (by decide) rfl (fun ls hl => ?_)
      refine lv_iload_n hx hb d_Cases_turned_22 rfl (lv_at hl 0 rfl) ?_
      refine zi_if_eq hx hb d_Cases_turned_23 rfl (by omega) (fun h23 => absurd h23 (by omega)) (fun h23 => ?_)
      refine zi_iconst hx hb d_Cases_turned_26 ?_
      refine lv_goto hx hb d_Cases_turned_27 rfl ?_
      refine lv_istore (lv' := [(4, .int (iI 2)), (3, .int (iI 1)), (0, .ref h), (1, .int (iI ((c0 : Nat) : Int))), (2, .ref (E.2.2.1 (how + 1)))]) hx hb d_Cases_turned_31 hl (by decide) rfl (fun ls hl => ?_)
      refine zi_iconst hx hb d_Cases_turned_33 ?_
      refine lv_istore (lv' := [(5, .int (iI 0)), (4, .int (iI 2)), (3, .int (iI 1)), (0, .ref h), (1, .int (iI ((c0 : Nat) : Int))), (2, .ref (E.2.2.1 (how + 1)))]) hx hb d_Cases_turned_34 hl (by decide) rfl (fun ls hl => ?_)
      have key : ∃ (r : Nat), (r ≤ mr ∧ sp_find true (c0 : Int) ((sp_rows.take mr).drop r) = sp_find true (c0 : Int) (sp_rows.take mr)) ∧ lv_has ls 8 [(5, .int (iI ((5 * r : Nat) : Int))), (4, .int (iI 2)), (3, .int (iI 1)), (0, .ref h), (1, .int (iI ((c0 : Nat) : Int))), (2, .ref (E.2.2.1 (how + 1)))] := ⟨0, ⟨by omega, by simp⟩, hl⟩
      clear hl
      obtain ⟨r, hinv, hl⟩ := key
      obtain ⟨n, hn⟩ : ∃ n : Nat, mr - r < n := ⟨_, Nat.lt_succ_self _⟩
      induction n generalizing r ls with
      | zero => exact absurd hn (Nat.not_lt_zero _)
      | succ n ih =>
        obtain ⟨h1, h2⟩ := hinv
        refine lv_iload hx hb d_Cases_turned_36 (lv_at hl 0 rfl) ?_
        refine lv_aload_n hx hb d_Cases_turned_38 rfl (lv_at hl 3 rfl) ?_
        refine zgf S hE (ci := 3) rfl i_Cases hp 0 (by decide) zw_141 rfl d_Cases_turned_39 ?_
        refine zi_icmp_ge hx hb d_Cases_turned_42 rfl (by omega) (by omega) (fun h42 => ?_) (fun h42 => ?_)
        · refine lv_iload_n hx hb d_Cases_turned_113 rfl (lv_at hl 4 rfl) ?_
          exact zretI S hr hlk d_Cases_turned_114 (congrArg iI (by rw [if_neg (by omega), show decide (how = 1) = true by simp; omega, ← h2, sp_find_end _ _ (by omega)]))
        · have hrm : r < mr := by omega
          have hr18 : r < 18 := by omega
          have hrr := sp_row_r ⟨r, hr18⟩
          dsimp only at hrr
          refine zgs S hE.pairs zw_139 d_Cases_turned_45 ?_
          refine lv_iload hx hb d_Cases_turned_48 (lv_at hl 0 rfl) ?_
          refine zi_iconst hx hb d_Cases_turned_50 ?_
          refine zi_iadd hx hb d_Cases_turned_51 ?_
          refine zti (v := .int (iI (sp_row r).2.2.2.1)) hx hb hE.pairsT (by omega) (by omega) (by omega) (by rw [show Int.toNat (((5 * r : Nat) : Int) + 3) = 5 * r + 3 by omega, (zpairs_row ⟨r, hr18⟩).2.2.2.1]) d_Cases_turned_52 ?_
          refine lv_istore (lv' := [(6, .int (iI ((sp_row r).2.2.2.1))), (5, .int (iI ((5 * r : Nat) : Int))), (4, .int (iI 2)), (3, .int (iI 1)), (0, .ref h), (1, .int (iI ((c0 : Nat) : Int))), (2, .ref (E.2.2.1 (how + 1)))]) hx hb d_Cases_turned_53 hl (by decide) rfl (fun ls hl => ?_)
          refine lv_iload_n hx hb d_Cases_turned_55 rfl (lv_at hl 3 rfl) ?_
          refine zi_if_eq hx hb d_Cases_turned_56 rfl (by omega) (fun h56 => absurd h56 (by omega)) (fun h56 => ?_)
          refine lv_iload_n hx hb d_Cases_turned_59 rfl (lv_at hl 5 rfl) ?_
          refine lv_iload hx hb d_Cases_turned_60 (lv_at hl 0 rfl) ?_
          refine zi_isub hx hb d_Cases_turned_62 ?_
          refine lv_goto hx hb d_Cases_turned_63 rfl ?_
          refine lv_istore (lv' := [(7, .int (iI (((c0 : Nat) : Int) - ((sp_row r).2.2.2.1)))), (6, .int (iI ((sp_row r).2.2.2.1))), (5, .int (iI ((5 * r : Nat) : Int))), (4, .int (iI 2)), (3, .int (iI 1)), (0, .ref h), (1, .int (iI ((c0 : Nat) : Int))), (2, .ref (E.2.2.1 (how + 1)))]) hx hb d_Cases_turned_67 hl (by decide) rfl (fun ls hl => ?_)
          refine zgs S hE.pairs zw_139 d_Cases_turned_69 ?_
          refine lv_iload hx hb d_Cases_turned_72 (lv_at hl 2 rfl) ?_
          refine zi_iconst hx hb d_Cases_turned_74 ?_
          refine zi_iadd hx hb d_Cases_turned_75 ?_
          refine zti (v := .int (iI (sp_row r).2.2.2.2)) hx hb hE.pairsT (by omega) (by omega) (by omega) (by rw [show Int.toNat (((5 * r : Nat) : Int) + 4) = 5 * r + 4 by omega, (zpairs_row ⟨r, hr18⟩).2.2.2.2]) d_Cases_turned_76 ?_
          refine lv_iload hx hb d_Cases_turned_77 (lv_at hl 3 rfl) ?_
          refine zi_icmp_eq hx hb d_Cases_turned_79 rfl (by omega) (by omega) (fun h79 => ?_) (fun h79 => ?_)
          · skip
            refine lv_iinc (k := 2) (v := iI ((5 * (r + 1) : Nat) : Int)) (lv' := [(5, .int (iI ((5 * (r + 1) : Nat) : Int))), (7, .int (iI (((c0 : Nat) : Int) - ((sp_row r).2.2.2.1)))), (6, .int (iI ((sp_row r).2.2.2.1))), (4, .int (iI 2)), (3, .int (iI 1)), (0, .ref h), (1, .int (iI ((c0 : Nat) : Int))), (2, .ref (E.2.2.1 (how + 1)))]) hx hb d_Cases_turned_107 hl rfl (by rw [show Int32.ofInt 5 = iI 5 from rfl, iI_add]; congr 1) (by decide) rfl (fun ls hl => ?_)
            refine lv_goto hx hb d_Cases_turned_110 rfl ?_
            exact ih ls (r + 1) (⟨by omega, by rw [← h2, sp_find_step true _ hrm (by omega), if_neg (by simp; intro hq; exact absurd h79 hq)]⟩) (lv_sub hl [0, 3, 4, 5, 6, 7] rfl) (by omega)
          · skip
            refine lv_iload hx hb d_Cases_turned_82 (lv_at hl 2 rfl) ?_
            refine lv_iload hx hb d_Cases_turned_84 (lv_at hl 0 rfl) ?_
            refine zcR (va_runS (As := [.int (iI ((5 * r : Nat) : Int)), .int (iI (((c0 : Nat) : Int) - ((sp_row r).2.2.2.1)))]) (rest := []) S (c_Cases_isUpperOf l E r (((c0 : Nat) : Int) - ((sp_row r).2.2.2.1)) hr18 (by omega) (by omega)) ⟨zcwB (n := 2) S zw_681 zw_9 zw_679 (by decide +kernel) rfl rfl ⟨Nat.le_of_ble_eq_true rfl, Nat.le_of_ble_eq_true rfl⟩, S.2.2.2.2 _ zw_680⟩ (zPreS hE trivial) rfl rfl hl.1 rfl (lv_room (Nat.le_of_ble_eq_true rfl)) d_Cases_turned_86 ⟨Nat.zero_le _, Nat.zero_le _⟩) ?_
            refine zb_ifeq hx hb d_Cases_turned_89 rfl (fun h89 => ?_) (fun h89 => ?_)
            · refine lv_iinc (k := 2) (v := iI ((5 * (r + 1) : Nat) : Int)) (lv' := [(5, .int (iI ((5 * (r + 1) : Nat) : Int))), (7, .int (iI (((c0 : Nat) : Int) - ((sp_row r).2.2.2.1)))), (6, .int (iI ((sp_row r).2.2.2.1))), (4, .int (iI 2)), (3, .int (iI 1)), (0, .ref h), (1, .int (iI ((c0 : Nat) : Int))), (2, .ref (E.2.2.1 (how + 1)))]) hx hb d_Cases_turned_107 hl rfl (by rw [show Int32.ofInt 5 = iI 5 from rfl, iI_add]; congr 1) (by decide) rfl (fun ls hl => ?_)
              refine lv_goto hx hb d_Cases_turned_110 rfl ?_
              exact ih ls (r + 1) (⟨by omega, by rw [← h2, sp_find_step true _ hrm (by omega), if_neg (by simp; intro hq; exact h89)]⟩) (lv_sub hl [0, 3, 4, 5, 6, 7] rfl) (by omega)
            · refine lv_iload_n hx hb d_Cases_turned_92 rfl (lv_at hl 4 rfl) ?_
              refine zi_if_eq hx hb d_Cases_turned_93 rfl (by omega) (fun h93 => absurd h93 (by omega)) (fun h93 => ?_)
              refine lv_iload hx hb d_Cases_turned_96 (lv_at hl 0 rfl) ?_
              refine lv_goto hx hb d_Cases_turned_98 rfl ?_
              exact zretI S hr hlk d_Cases_turned_106 (congrArg iI (by rw [if_neg (by omega), show decide (how = 1) = true by simp; omega, ← h2, sp_find_step true _ hrm (by omega), if_pos (by simp; exact ⟨h79, h89⟩)]; rfl))
  · refine lv_iload_n hx hb d_Cases_turned_7 rfl (lv_at hl 1 rfl) ?_
    exact zretI S hr hlk d_Cases_turned_8 (congrArg iI (by rw [if_pos (by have := (hE.turns hh (b := 0) (by omega)).mp h4; omega)]))
