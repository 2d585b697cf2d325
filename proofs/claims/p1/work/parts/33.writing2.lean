theorem sp_named_le (G : sp_Src) (w : List Nat) (h : ∀ x ∈ G.2.2.1, x.2 ≤ 99) : ∀ g, sp_named G w = some (some g) → g ≤ 99 := by
  intro g hg
  have := sp_okB_fold (S := G.2.1) (w := w) G.2.2.1 [] none (fun x hx => by cases hx)
  unfold sp_named at hg
  rw [hg] at this
  obtain ⟨⟨x, hx, -, h2, -⟩, -⟩ := this
  rw [← h2]
  exact h x (by simpa using hx)
theorem sp_gI_r (G : sp_Src) (t : List Nat) (i j : Nat) (h99 : G.1 ≤ 99) (h : ∀ x ∈ G.2.2.1, x.2 ≤ 99) : -2 ≤ sp_gI (sp_ref G t i j) ∧ sp_gI (sp_ref G t i j) < 2147483648 := by
  have key : ∀ g, sp_ref G t i j = some (some g) → g ≤ 99 := by
    intro g hg
    unfold sp_ref at hg
    split at hg
    · unfold sp_numb at hg
      split at hg
      · cases hg
      · split at hg
        · cases hg; omega
        · cases hg
    · exact sp_named_le G _ h g hg
  rcases hr : sp_ref G t i j with _ | _ | g
  · exact ⟨by decide, by decide⟩
  · exact ⟨by decide, by decide⟩
  · have := key g hr
    show -2 ≤ ((g : Nat) : Int) ∧ ((g : Nat) : Int) < 2147483648
    omega
theorem zgrp.names {E : zP} {Z : Nat → Prop} {utf : Bool} {gr : Nat} {G : sp_Src} {H : Heap} (h : zgrp E Z utf gr G H) : ∀ x ∈ G.2.2.1, x.2 ≤ 99 := by
  obtain ⟨ta, sa, al, mka, ng, ra, nx, Nc, gz1, gz2, gz3, gO, gQ, gA, gR, gM, gMo, gL, gnl, gN, gmem, g99⟩ := h
  intro x hx
  obtain ⟨m, hm, rfl⟩ := List.mem_iff_getElem.mp ((gmem x).mpr hx)
  obtain ⟨q, f, -, -, -, -, -, -, -, hg⟩ := gN m hm
  rw [List.getD_eq_getElem?_getD, List.getElem?_eq_getElem hm] at hg
  exact hg

set_option maxRecDepth 100000 in
set_option maxHeartbeats 4000000 in
theorem c_Writing_groupFor (l : Launch) (E : zP) (w tx gr h en es : Nat) (rich uemp uunk : Bool) (cd of : Int) (utf : Bool) (t : List Nat) (Z : Nat → Prop) (G : sp_Src) (i j : Nat) (hij : i < j) (he : j ≤ t.length) (htl : (sp_encs utf t).length ≤ 65536) (hdig : sp_dig ((t.getD i 0 : Nat) : Int) = true → ∀ k, i ≤ k → k < j → sp_dig ((t.getD k 0 : Nat) : Int) = true) (hwrd : ∀ k, i ≤ k → k < j → sp_wrd ((t.getD k 0 : Nat) : Int) = true) : Met l y_Writing_groupFor (.code y_Writing_groupFor b_Writing_groupFor 6 ( some FieldType.int ) :: zw) { frames := 4, cells := 0, slots := 0, locals := 90 } (zPc E [.ref w, .int (iI ((sp_off utf t i : Nat) : Int)), .int (iI ((sp_off utf t j : Nat) : Int))] (fun H => zO E 8 w [.ref tx, .ref gr, .ref h, .ref en, .ref es, .int (iI (bN rich)), .int (iI (bN uemp)), .int (iI (bN uunk)), .int (iI cd), .int (iI of)] H ∧ zrow E tx (sp_encs utf t) H ∧ zgrp E Z utf gr G H)) (zR (some (.int (iI (sp_gU uunk (sp_ref G t i j)))))) 0 0 (fun _ => False) := by
  refine zMet (by decide) (Nat.le_of_ble_eq_true rfl) ?_
  intro p e s m below meth c ls S hr hlk hnm hE ⟨hp, hrow, hG⟩ hl
  have hx := S.1
  have hb := S.2.1
  have hl : lv_has ls 6 [(0, .ref w), (1, .int (iI ((sp_off utf t i : Nat) : Int))), (2, .int (iI ((sp_off utf t j : Nat) : Int)))] := hl
  have hbl := zrow.len hrow
  obtain ⟨ta, sa, al, mka, ng, ra, nx, Nc, gz1, gz2, gz3, gO, gQ, gA, gR, gM, gMo, gL, gnl, gN, gmem, g99⟩ := id hG
  have hnames := hG.names
  have hbe := sp_off_le_len utf (t := t) (i := j) (by omega)
  have hbi := sp_off_le_len utf (t := t) (i := i) (by omega)
  have hmn := sp_off_mono utf (t := t) (i := i) (j := j) (by omega) (by omega)
  have hgi : -2 ≤ sp_gI (sp_ref G t i j) ∧ sp_gI (sp_ref G t i j) < 2147483648 := sp_gI_r G t i j g99 hnames
  refine lv_aload_n hx hb d_Writing_groupFor_0 rfl (lv_at hl 0 rfl) ?_
  refine zgf S hE (ci := 8) rfl i_Writing hp 0 (by decide) zw_198 rfl d_Writing_groupFor_1 ?_
  refine lv_iload_n hx hb d_Writing_groupFor_4 rfl (lv_at hl 1 rfl) ?_
  refine zcR (va_runV (As := [.int (iI ((sp_off utf t i : Nat) : Int))]) (rest := []) S (c_Row_at l E tx (sp_encs utf t) ((sp_off utf t i : Nat) : Int) (by omega)) ⟨zcwB (n := 1) S zw_437 zw_2 zw_692 (by decide +kernel) rfl rfl ⟨Nat.le_of_ble_eq_true rfl, Nat.le_of_ble_eq_true rfl⟩, S.2.2.2.2 _ zw_435, S.2.2.2.2 _ zw_436⟩ (zPreVrow hE hrow hrow) rfl rfl hl.1 rfl (lv_room (Nat.le_of_ble_eq_true rfl)) d_Writing_groupFor_5 ⟨Nat.zero_le _, Nat.zero_le _⟩) ?_
  rw [sp_at_in (n := sp_off utf t i) (by omega) (sp_off_lt_len (by omega))]
  have hb5 := sp_b_lt (zrow.lt hrow) (sp_off utf t i)
  have has0 := sp_off_b (utf := utf) (t := t) (i := i) (by omega)
  refine zcR (va_runS (As := [.int (iI ((sp_b (sp_encs utf t) (sp_off utf t i) : Nat) : Int))]) (rest := []) S (c_Ascii_isDigit l E ((sp_b (sp_encs utf t) (sp_off utf t i) : Nat) : Int) (by omega)) ⟨zcwB (n := 1) S zw_519 zw_27 zw_716 (by decide +kernel) rfl rfl ⟨Nat.le_of_ble_eq_true rfl, Nat.le_of_ble_eq_true rfl⟩, S.2.2.2.2 _ zw_518⟩ (zPreS hE trivial) rfl rfl hl.1 rfl (lv_room (Nat.le_of_ble_eq_true rfl)) d_Writing_groupFor_8 ⟨Nat.zero_le _, Nat.zero_le _⟩) ?_
  rw [sp_dig_asc (show ((sp_b (sp_encs utf t) (sp_off utf t i) : Nat) : Int) = ((t.getD i 0 : Nat) : Int) ∨ (128 ≤ ((sp_b (sp_encs utf t) (sp_off utf t i) : Nat) : Int) ∧ 128 ≤ ((t.getD i 0 : Nat) : Int)) by omega)]
  refine zb_ifeq hx hb d_Writing_groupFor_11 rfl (fun h11 => ?_) (fun h11 => ?_)
  · refine lv_aload_n hx hb d_Writing_groupFor_70 rfl (lv_at hl 0 rfl) ?_
    refine zgf S hE (ci := 8) rfl i_Writing hp 1 (by decide) zw_199 rfl d_Writing_groupFor_71 ?_
    refine lv_aload_n hx hb d_Writing_groupFor_74 rfl (lv_at hl 0 rfl) ?_
    refine zgf S hE (ci := 8) rfl i_Writing hp 0 (by decide) zw_198 rfl d_Writing_groupFor_75 ?_
    refine lv_iload_n hx hb d_Writing_groupFor_78 rfl (lv_at hl 1 rfl) ?_
    refine lv_iload_n hx hb d_Writing_groupFor_79 rfl (lv_at hl 2 rfl) ?_
    refine zcR (va_runV (As := [.ref tx, .int (iI ((sp_off utf t i : Nat) : Int)), .int (iI ((sp_off utf t j : Nat) : Int))]) (rest := []) S (c_Groups_named l E Z utf gr G tx (sp_off utf t i) (sp_off utf t j) (sp_encs utf t) (by omega) (by omega)) ⟨zcwB (n := 3) S zw_736 zw_3 zw_733 (by decide +kernel) rfl rfl ⟨Nat.le_of_ble_eq_true rfl, Nat.le_of_ble_eq_true rfl⟩, S.2.2.2.2 _ zw_734, S.2.2.2.2 _ zw_735⟩ (zPreV hE gO rfl ⟨hG, hrow⟩) rfl rfl hl.1 rfl (lv_room (Nat.le_of_ble_eq_true rfl)) d_Writing_groupFor_80 ⟨Nat.zero_le _, Nat.zero_le _⟩) ?_
    rw [sp_run_bytes utf (by omega) (by omega) (fun k a b => by have := sp_wrd_r (hwrd k a b); omega), show sp_named G ((t.drop i).take (j - i)) = sp_ref G t i j by unfold sp_ref; rw [sp_see_eq hij, if_neg (by rw [h11]; decide)]]
    refine lv_istore_n (lv' := [(3, .int (iI (sp_gI (sp_ref G t i j)))), (0, .ref w), (1, .int (iI ((sp_off utf t i : Nat) : Int))), (2, .int (iI ((sp_off utf t j : Nat) : Int)))]) hx hb d_Writing_groupFor_83 rfl hl (by decide) rfl (fun ls hl => ?_)
    refine lv_iload_n hx hb d_Writing_groupFor_84 rfl (lv_at hl 0 rfl) ?_
    refine zi_bipush hx hb d_Writing_groupFor_85 (by decide) ?_
    refine zi_icmp_ne hx hb d_Writing_groupFor_87 rfl (by omega) (by omega) (fun h87 => ?_) (fun h87 => ?_)
    · refine lv_iload_n hx hb d_Writing_groupFor_101 rfl (lv_at hl 0 rfl) ?_
      exact zretI S hr hlk d_Writing_groupFor_102 (congrArg iI (by unfold sp_gU; rw [if_neg (by first | (intro q; exact h87 q.1) | (intro q; rw [h94] at q; exact absurd q.2 (by decide)))]))
    · refine lv_aload_n hx hb d_Writing_groupFor_90 rfl (lv_at hl 1 rfl) ?_
      refine zgf S hE (ci := 8) rfl i_Writing hp 7 (by decide) zw_205 rfl d_Writing_groupFor_91 ?_
      refine zb_ifeq hx hb d_Writing_groupFor_94 rfl (fun h94 => ?_) (fun h94 => ?_)
      · refine lv_iload_n hx hb d_Writing_groupFor_101 rfl (lv_at hl 0 rfl) ?_
        exact zretI S hr hlk d_Writing_groupFor_102 (congrArg iI (by unfold sp_gU; rw [if_neg (by first | (intro q; exact h87 q.1) | (intro q; rw [h94] at q; exact absurd q.2 (by decide)))]))
      · refine zi_iconst hx hb d_Writing_groupFor_97 ?_
        refine lv_goto hx hb d_Writing_groupFor_98 rfl ?_
        exact zretI S hr hlk d_Writing_groupFor_102 (congrArg iI (by unfold sp_gU; rw [if_pos ⟨h87, h94⟩]))
  · refine zi_iconst hx hb d_Writing_groupFor_14 ?_
    refine lv_istore (lv' := [(4, .int (iI 0)), (0, .ref w), (1, .int (iI ((sp_off utf t i : Nat) : Int))), (2, .int (iI ((sp_off utf t j : Nat) : Int)))]) hx hb d_Writing_groupFor_15 hl (by decide) rfl (fun ls hl => ?_)
    refine lv_iload_n hx hb d_Writing_groupFor_17 rfl (lv_at hl 2 rfl) ?_
    refine lv_istore (lv' := [(5, .int (iI ((sp_off utf t i : Nat) : Int))), (4, .int (iI 0)), (0, .ref w), (1, .int (iI ((sp_off utf t i : Nat) : Int))), (2, .int (iI ((sp_off utf t j : Nat) : Int)))]) hx hb d_Writing_groupFor_18 hl (by decide) rfl (fun ls hl => ?_)
    have key : ∃ (k : Nat) (v : Nat), (i ≤ k ∧ k ≤ j ∧ v ≤ 65535 ∧ sp_num t (j - k) k v = sp_num t (j - i) i 0) ∧ lv_has ls 6 [(5, .int (iI ((sp_off utf t k : Nat) : Int))), (4, .int (iI ((v : Nat) : Int))), (0, .ref w), (1, .int (iI ((sp_off utf t i : Nat) : Int))), (2, .int (iI ((sp_off utf t j : Nat) : Int)))] := ⟨i, 0, ⟨by omega, by omega, by omega, rfl⟩, hl⟩
    clear hl
    obtain ⟨k, v, hinv, hl⟩ := key
    obtain ⟨n, hn⟩ : ∃ n : Nat, j - k < n := ⟨_, Nat.lt_succ_self _⟩
    induction n generalizing k v ls with
    | zero => exact absurd hn (Nat.not_lt_zero _)
    | succ n ih =>
      obtain ⟨h1, h2, h3, h4⟩ := hinv
      have hke := sp_off_lt utf (t := t) (i := k) (j := j) (by omega) (by omega); have hbk := sp_off_le_len utf (t := t) (i := k) (by omega)
      refine lv_iload hx hb d_Writing_groupFor_20 (lv_at hl 0 rfl) ?_
      refine lv_iload_n hx hb d_Writing_groupFor_22 rfl (lv_at hl 4 rfl) ?_
      refine zi_icmp_ge hx hb d_Writing_groupFor_23 rfl (by omega) (by omega) (fun h23 => ?_) (fun h23 => ?_)
      · refine lv_aload_n hx hb d_Writing_groupFor_57 rfl (lv_at hl 2 rfl) ?_
        refine zgf S hE (ci := 8) rfl i_Writing hp 1 (by decide) zw_199 rfl d_Writing_groupFor_58 ?_
        refine lv_iload hx hb d_Writing_groupFor_61 (lv_at hl 1 rfl) ?_
        have hve : v = sp_num t (j - i) i 0 := by rw [← h4, sp_num_end (by omega)]
        refine zcR (va_runV (As := [.int (iI ((v : Nat) : Int))]) (rest := []) S (c_Groups_numbered l E Z utf gr G v (by omega)) ⟨zcwB (n := 1) S zw_731 zw_3 zw_728 (by decide +kernel) rfl rfl ⟨Nat.le_of_ble_eq_true rfl, Nat.le_of_ble_eq_true rfl⟩, S.2.2.2.2 _ zw_729, S.2.2.2.2 _ zw_730⟩ (zPreV hE gO rfl hG) rfl rfl hl.1 rfl (lv_room (Nat.le_of_ble_eq_true rfl)) d_Writing_groupFor_63 ⟨Nat.zero_le _, Nat.zero_le _⟩) ?_
        rw [show sp_numb G v = sp_ref G t i j by unfold sp_ref; rw [sp_see_eq hij, if_pos h11, hve]]
        refine lv_istore_n (lv' := [(3, .int (iI (sp_gI (sp_ref G t i j)))), (5, .int (iI ((sp_off utf t k : Nat) : Int))), (4, .int (iI ((v : Nat) : Int))), (0, .ref w), (1, .int (iI ((sp_off utf t i : Nat) : Int))), (2, .int (iI ((sp_off utf t j : Nat) : Int)))]) hx hb d_Writing_groupFor_66 rfl hl (by decide) rfl (fun ls hl => ?_)
        refine lv_goto hx hb d_Writing_groupFor_67 rfl ?_
        refine lv_iload_n hx hb d_Writing_groupFor_84 rfl (lv_at hl 0 rfl) ?_
        refine zi_bipush hx hb d_Writing_groupFor_85 (by decide) ?_
        refine zi_icmp_ne hx hb d_Writing_groupFor_87 rfl (by omega) (by omega) (fun h87 => ?_) (fun h87 => ?_)
        · refine lv_iload_n hx hb d_Writing_groupFor_101 rfl (lv_at hl 0 rfl) ?_
          exact zretI S hr hlk d_Writing_groupFor_102 (congrArg iI (by unfold sp_gU; rw [if_neg (by first | (intro q; exact h87 q.1) | (intro q; rw [h94] at q; exact absurd q.2 (by decide)))]))
        · refine lv_aload_n hx hb d_Writing_groupFor_90 rfl (lv_at hl 3 rfl) ?_
          refine zgf S hE (ci := 8) rfl i_Writing hp 7 (by decide) zw_205 rfl d_Writing_groupFor_91 ?_
          refine zb_ifeq hx hb d_Writing_groupFor_94 rfl (fun h94 => ?_) (fun h94 => ?_)
          · refine lv_iload_n hx hb d_Writing_groupFor_101 rfl (lv_at hl 0 rfl) ?_
            exact zretI S hr hlk d_Writing_groupFor_102 (congrArg iI (by unfold sp_gU; rw [if_neg (by first | (intro q; exact h87 q.1) | (intro q; rw [h94] at q; exact absurd q.2 (by decide)))]))
          · refine zi_iconst hx hb d_Writing_groupFor_97 ?_
            refine lv_goto hx hb d_Writing_groupFor_98 rfl ?_
            exact zretI S hr hlk d_Writing_groupFor_102 (congrArg iI (by unfold sp_gU; rw [if_pos ⟨h87, h94⟩]))
      · refine zldc (n := 65535) S zw_727 (by decide) d_Writing_groupFor_26 ?_
        refine lv_iload hx hb d_Writing_groupFor_28 (lv_at hl 1 rfl) ?_
        refine zi_bipush hx hb d_Writing_groupFor_30 (by decide) ?_
        refine zi_imul hx hb d_Writing_groupFor_32 ?_
        refine lv_aload_n hx hb d_Writing_groupFor_33 rfl (lv_at hl 2 rfl) ?_
        refine zgf S hE (ci := 8) rfl i_Writing hp 0 (by decide) zw_198 rfl d_Writing_groupFor_34 ?_
        refine lv_iload hx hb d_Writing_groupFor_37 (lv_at hl 0 rfl) ?_
        refine zcR (va_runV (As := [.int (iI ((sp_off utf t k : Nat) : Int))]) (rest := [.int (iI (((v : Nat) : Int) * 10)), .int (iI 65535)]) S (c_Row_at l E tx (sp_encs utf t) ((sp_off utf t k : Nat) : Int) (by omega)) ⟨zcwB (n := 1) S zw_437 zw_2 zw_692 (by decide +kernel) rfl rfl ⟨Nat.le_of_ble_eq_true rfl, Nat.le_of_ble_eq_true rfl⟩, S.2.2.2.2 _ zw_435, S.2.2.2.2 _ zw_436⟩ (zPreVrow hE hrow hrow) rfl rfl hl.1 rfl (lv_room (Nat.le_of_ble_eq_true rfl)) d_Writing_groupFor_39 ⟨Nat.zero_le _, Nat.zero_le _⟩) ?_
        rw [sp_at_in (n := sp_off utf t k) (by omega) (sp_off_lt_len (by omega))]
        have hb39 := sp_b_lt (zrow.lt hrow) (sp_off utf t k)
        have hasc := sp_off_b (utf := utf) (t := t) (i := k) (by omega)
        have hdk := sp_dig_r (hdig h11 k h1 (by omega))
        have hsc : sp_off utf t (k + 1) = sp_off utf t k + 1 := sp_off_asc utf (by omega) (by omega)
        have hbe2 : sp_b (sp_encs utf t) (sp_off utf t k) = t.getD k 0 := by omega
        refine zi_iadd hx hb d_Writing_groupFor_42 ?_
        refine zi_bipush hx hb d_Writing_groupFor_43 (by decide) ?_
        refine zi_isub hx hb d_Writing_groupFor_45 ?_
        refine zcR (va_runS (As := [.int (iI 65535), .int (iI (((((v : Nat) : Int) * 10) + ((sp_b (sp_encs utf t) (sp_off utf t k) : Nat) : Int)) - 48))]) (rest := []) S (c_Math_min l E 65535 (((((v : Nat) : Int) * 10) + ((sp_b (sp_encs utf t) (sp_off utf t k) : Nat) : Int)) - 48) (by omega) (by omega)) ⟨zcwB (n := 2) S zw_366 zw_23 zw_717 (by decide +kernel) rfl rfl ⟨Nat.le_of_ble_eq_true rfl, Nat.le_of_ble_eq_true rfl⟩, S.2.2.2.2 _ zw_365⟩ (zPreS hE trivial) rfl rfl hl.1 rfl (lv_room (Nat.le_of_ble_eq_true rfl)) d_Writing_groupFor_46 ⟨Nat.zero_le _, Nat.zero_le _⟩) ?_
        rw [show min 65535 (((((v : Nat) : Int) * 10) + ((sp_b (sp_encs utf t) (sp_off utf t k) : Nat) : Int)) - 48) = ((min 65535 (v * 10 + t.getD k 0 - 48) : Nat) : Int) by omega]
        refine lv_istore (lv' := [(4, .int (iI ((min 65535 (v * 10 + t.getD k 0 - 48) : Nat) : Int))), (5, .int (iI ((sp_off utf t k : Nat) : Int))), (0, .ref w), (1, .int (iI ((sp_off utf t i : Nat) : Int))), (2, .int (iI ((sp_off utf t j : Nat) : Int)))]) hx hb d_Writing_groupFor_49 hl (by decide) rfl (fun ls hl => ?_)
        refine lv_iinc (k := 1) (v := iI ((sp_off utf t (k + 1) : Nat) : Int)) (lv' := [(5, .int (iI ((sp_off utf t (k + 1) : Nat) : Int))), (4, .int (iI ((min 65535 (v * 10 + t.getD k 0 - 48) : Nat) : Int))), (0, .ref w), (1, .int (iI ((sp_off utf t i : Nat) : Int))), (2, .int (iI ((sp_off utf t j : Nat) : Int)))]) hx hb d_Writing_groupFor_51 hl rfl (by rw [show Int32.ofInt 1 = iI 1 from rfl, iI_add]; congr 1 <;> omega) (by decide) rfl (fun ls hl => ?_)
        refine lv_goto hx hb d_Writing_groupFor_54 rfl ?_
        exact ih ls (k + 1) (min 65535 (v * 10 + t.getD k 0 - 48)) (⟨by omega, by omega, by omega, by rw [← h4]; exact (sp_num_step (by omega)).symm⟩) (lv_sub hl [0, 1, 2, 3, 4] rfl) (by omega)

set_option maxRecDepth 100000 in
set_option maxHeartbeats 4000000 in
theorem c_Writing_partEnd (l : Launch) (E : zP) (w tx gr h en es : Nat) (rich uemp uunk : Bool) (cd of : Int) (utf : Bool) (t : List Nat) (k0 e0 : Nat) (colon : Bool) (hk0 : k0 ≤ e0 + 1) (he0 : e0 ≤ (sp_encs utf t).length) (htl : (sp_encs utf t).length ≤ 65536) : Met l y_Writing_partEnd (.code y_Writing_partEnd b_Writing_partEnd 7 ( some FieldType.int ) :: zw) { frames := 2, cells := 0, slots := 0, locals := 43 } (zPc E [.ref w, .int (iI ((k0 : Nat) : Int)), .int (iI ((e0 : Nat) : Int)), .int (iI (bN colon))] (fun H => zO E 8 w [.ref tx, .ref gr, .ref h, .ref en, .ref es, .int (iI (bN rich)), .int (iI (bN uemp)), .int (iI (bN uunk)), .int (iI cd), .int (iI of)] H ∧ zrow E tx (sp_encs utf t) H)) (zR (some (.int (iI (((sp_end (sp_encs utf t) k0 e0 colon).getD e0 : Nat) : Int))))) 0 0 (fun _ => False) := by
  refine zMet (by decide) (Nat.le_of_ble_eq_true rfl) ?_
  intro p e s m below meth c ls S hr hlk hnm hE ⟨hp, hrow⟩ hl
  have hx := S.1
  have hb := S.2.1
  have hl : lv_has ls 7 [(0, .ref w), (1, .int (iI ((k0 : Nat) : Int))), (2, .int (iI ((e0 : Nat) : Int))), (3, .int (iI (bN colon)))] := hl
  have hbl := zrow.len hrow
  refine zi_iconst hx hb d_Writing_partEnd_0 ?_
  refine lv_istore (lv' := [(4, .int (iI 0)), (0, .ref w), (1, .int (iI ((k0 : Nat) : Int))), (2, .int (iI ((e0 : Nat) : Int))), (3, .int (iI (bN colon)))]) hx hb d_Writing_partEnd_1 hl (by decide) rfl (fun ls hl => ?_)
  refine lv_iload_n hx hb d_Writing_partEnd_3 rfl (lv_at hl 2 rfl) ?_
  refine lv_istore (lv' := [(5, .int (iI ((k0 : Nat) : Int))), (4, .int (iI 0)), (0, .ref w), (1, .int (iI ((k0 : Nat) : Int))), (2, .int (iI ((e0 : Nat) : Int))), (3, .int (iI (bN colon)))]) hx hb d_Writing_partEnd_4 hl (by decide) rfl (fun ls hl => ?_)
  have key : ∃ (k : Nat) (d : Nat), (k0 ≤ k ∧ k ≤ e0 + 1 ∧ d ≤ k ∧ sp_cl (sp_encs utf t) e0 colon k d = sp_end (sp_encs utf t) k0 e0 colon) ∧ lv_has ls 7 [(5, .int (iI ((k : Nat) : Int))), (4, .int (iI ((d : Nat) : Int))), (0, .ref w), (1, .int (iI ((k0 : Nat) : Int))), (2, .int (iI ((e0 : Nat) : Int))), (3, .int (iI (bN colon)))] := ⟨k0, 0, ⟨by omega, by omega, by omega, rfl⟩, hl⟩
  clear hl
  obtain ⟨k, d, hinv, hl⟩ := key
  obtain ⟨n, hn⟩ : ∃ n : Nat, e0 + 1 - k < n := ⟨_, Nat.lt_succ_self _⟩
  induction n generalizing k d ls with
  | zero => exact absurd hn (Nat.not_lt_zero _)
  | succ n ih =>
    obtain ⟨h1, h2, h3, h4⟩ := hinv
    refine lv_iload hx hb d_Writing_partEnd_6 (lv_at hl 0 rfl) ?_
    refine lv_iload_n hx hb d_Writing_partEnd_8 rfl (lv_at hl 4 rfl) ?_
    refine zi_icmp_ge hx hb d_Writing_partEnd_9 rfl (by omega) (by omega) (fun h9 => ?_) (fun h9 => ?_)
    · refine lv_iload_n hx hb d_Writing_partEnd_108 rfl (lv_at hl 4 rfl) ?_
      exact zretI S hr hlk d_Writing_partEnd_109 (congrArg iI (by rw [← h4, sp_cl_out (by omega)]; rfl))
    · have hke : k < e0 := by omega
      refine lv_aload_n hx hb d_Writing_partEnd_12 rfl (lv_at hl 2 rfl) ?_
      refine zgf S hE (ci := 8) rfl i_Writing hp 0 (by decide) zw_198 rfl d_Writing_partEnd_13 ?_
      refine lv_iload hx hb d_Writing_partEnd_16 (lv_at hl 0 rfl) ?_
      refine zcR (va_runV (As := [.int (iI ((k : Nat) : Int))]) (rest := []) S (c_Row_at l E tx (sp_encs utf t) ((k : Nat) : Int) (by omega)) ⟨zcwB (n := 1) S zw_437 zw_2 zw_692 (by decide +kernel) rfl rfl ⟨Nat.le_of_ble_eq_true rfl, Nat.le_of_ble_eq_true rfl⟩, S.2.2.2.2 _ zw_435, S.2.2.2.2 _ zw_436⟩ (zPreVrow hE hrow hrow) rfl rfl hl.1 rfl (lv_room (Nat.le_of_ble_eq_true rfl)) d_Writing_partEnd_18 ⟨Nat.zero_le _, Nat.zero_le _⟩) ?_
      rw [sp_at_in (n := k) (by omega) (by omega)]
      have hb18 := sp_b_lt (zrow.lt hrow) (k)
      have hbd : sp_b (sp_encs utf t) k = (sp_encs utf t).getD k 0 := rfl
      refine lv_istore (lv' := [(6, .int (iI ((sp_b (sp_encs utf t) k : Nat) : Int))), (5, .int (iI ((k : Nat) : Int))), (4, .int (iI ((d : Nat) : Int))), (0, .ref w), (1, .int (iI ((k0 : Nat) : Int))), (2, .int (iI ((e0 : Nat) : Int))), (3, .int (iI (bN colon)))]) hx hb d_Writing_partEnd_21 hl (by decide) rfl (fun ls hl => ?_)
      refine lv_iload hx hb d_Writing_partEnd_23 (lv_at hl 0 rfl) ?_
      refine zi_bipush hx hb d_Writing_partEnd_25 (by decide) ?_
      refine zi_icmp_ne hx hb d_Writing_partEnd_27 rfl (by omega) (by omega) (fun h27 => ?_) (fun h27 => ?_)
      · refine lv_iload hx hb d_Writing_partEnd_36 (lv_at hl 0 rfl) ?_
        refine zi_bipush hx hb d_Writing_partEnd_38 (by decide) ?_
        refine zi_icmp_ne hx hb d_Writing_partEnd_40 rfl (by omega) (by omega) (fun h40 => ?_) (fun h40 => ?_)
        · refine lv_iload hx hb d_Writing_partEnd_66 (lv_at hl 2 rfl) ?_
          refine zi_if_ne hx hb d_Writing_partEnd_68 rfl (by omega) (fun h68 => ?_) (fun h68 => ?_)
          · refine lv_iload hx hb d_Writing_partEnd_92 (lv_at hl 0 rfl) ?_
            refine zi_bipush hx hb d_Writing_partEnd_94 (by decide) ?_
            refine zi_icmp_ne hx hb d_Writing_partEnd_96 rfl (by omega) (by omega) (fun h96 => ?_) (fun h96 => ?_)
            · refine lv_iinc (k := 1) (v := iI ((k + 1 : Nat) : Int)) (lv' := [(5, .int (iI ((k + 1 : Nat) : Int))), (6, .int (iI ((sp_b (sp_encs utf t) k : Nat) : Int))), (4, .int (iI ((d : Nat) : Int))), (0, .ref w), (1, .int (iI ((k0 : Nat) : Int))), (2, .int (iI ((e0 : Nat) : Int))), (3, .int (iI (bN colon)))]) hx hb d_Writing_partEnd_102 hl rfl (by rw [show Int32.ofInt 1 = iI 1 from rfl, iI_add]; congr 1 <;> omega) (by decide) rfl (fun ls hl => ?_)
              refine lv_goto hx hb d_Writing_partEnd_105 rfl ?_
              exact ih ls (k + 1) d (⟨by omega, by omega, by omega, by rw [← h4, sp_cl_step (d := d) hke]; rw [if_neg (by omega), if_neg (by omega), if_neg (by omega), if_neg (by first | omega | (intro q; have := q.2.1; simp_all) | (intro q; omega))]⟩) (lv_sub hl [0, 2, 3, 4, 5, 6] rfl) (by omega)
            · refine lv_iinc (k := 2) (v := iI ((d - 1 : Nat) : Int)) (lv' := [(4, .int (iI ((d - 1 : Nat) : Int))), (6, .int (iI ((sp_b (sp_encs utf t) k : Nat) : Int))), (5, .int (iI ((k : Nat) : Int))), (0, .ref w), (1, .int (iI ((k0 : Nat) : Int))), (2, .int (iI ((e0 : Nat) : Int))), (3, .int (iI (bN colon)))]) hx hb d_Writing_partEnd_99 hl rfl (by rw [show Int32.ofInt (-1) = iI (-1) from rfl, iI_add]; congr 1 <;> omega) (by decide) rfl (fun ls hl => ?_)
              refine lv_iinc (k := 2) (v := iI ((k + 1 : Nat) : Int)) (lv' := [(5, .int (iI ((k + 1 : Nat) : Int))), (4, .int (iI ((d - 1 : Nat) : Int))), (6, .int (iI ((sp_b (sp_encs utf t) k : Nat) : Int))), (0, .ref w), (1, .int (iI ((k0 : Nat) : Int))), (2, .int (iI ((e0 : Nat) : Int))), (3, .int (iI (bN colon)))]) hx hb d_Writing_partEnd_102 hl rfl (by rw [show Int32.ofInt 1 = iI 1 from rfl, iI_add]; congr 1 <;> omega) (by decide) rfl (fun ls hl => ?_)
              refine lv_goto hx hb d_Writing_partEnd_105 rfl ?_
              exact ih ls (k + 1) (d - 1) (⟨by omega, by omega, by omega, by rw [← h4, sp_cl_step (d := d) hke]; rw [if_neg (by omega), if_neg (by omega), if_pos (by omega), if_neg (by omega)]⟩) (lv_sub hl [0, 1, 3, 4, 5, 6] rfl) (by omega)
          · refine lv_iload hx hb d_Writing_partEnd_71 (lv_at hl 0 rfl) ?_
            refine zi_bipush hx hb d_Writing_partEnd_73 (by decide) ?_
            refine zi_icmp_eq hx hb d_Writing_partEnd_75 rfl (by omega) (by omega) (fun h75 => ?_) (fun h75 => ?_)
            · refine lv_iload hx hb d_Writing_partEnd_89 (lv_at hl 1 rfl) ?_
              exact zretI S hr hlk d_Writing_partEnd_91 (congrArg iI (by rw [← h4, sp_cl_step hke, if_neg (by omega), if_neg (by omega)]; first | (rw [if_pos (by omega), if_pos (by omega)]; rfl) | (rw [if_neg (by omega), if_pos ⟨by omega, by assumption, by omega⟩]; rfl)))
            · refine lv_iload hx hb d_Writing_partEnd_78 (lv_at hl 0 rfl) ?_
              refine zi_bipush hx hb d_Writing_partEnd_80 (by decide) ?_
              refine zi_icmp_ne hx hb d_Writing_partEnd_82 rfl (by omega) (by omega) (fun h82 => ?_) (fun h82 => ?_)
              · refine lv_iload hx hb d_Writing_partEnd_92 (lv_at hl 0 rfl) ?_
                refine zi_bipush hx hb d_Writing_partEnd_94 (by decide) ?_
                refine zi_icmp_ne hx hb d_Writing_partEnd_96 rfl (by omega) (by omega) (fun h96 => ?_) (fun h96 => ?_)
                · refine lv_iinc (k := 1) (v := iI ((k + 1 : Nat) : Int)) (lv' := [(5, .int (iI ((k + 1 : Nat) : Int))), (6, .int (iI ((sp_b (sp_encs utf t) k : Nat) : Int))), (4, .int (iI ((d : Nat) : Int))), (0, .ref w), (1, .int (iI ((k0 : Nat) : Int))), (2, .int (iI ((e0 : Nat) : Int))), (3, .int (iI (bN colon)))]) hx hb d_Writing_partEnd_102 hl rfl (by rw [show Int32.ofInt 1 = iI 1 from rfl, iI_add]; congr 1 <;> omega) (by decide) rfl (fun ls hl => ?_)
                  refine lv_goto hx hb d_Writing_partEnd_105 rfl ?_
                  exact ih ls (k + 1) d (⟨by omega, by omega, by omega, by rw [← h4, sp_cl_step (d := d) hke]; rw [if_neg (by omega), if_neg (by omega), if_neg (by omega), if_neg (by first | omega | (intro q; have := q.2.1; simp_all) | (intro q; omega))]⟩) (lv_sub hl [0, 2, 3, 4, 5, 6] rfl) (by omega)
                · refine lv_iinc (k := 2) (v := iI ((d - 1 : Nat) : Int)) (lv' := [(4, .int (iI ((d - 1 : Nat) : Int))), (6, .int (iI ((sp_b (sp_encs utf t) k : Nat) : Int))), (5, .int (iI ((k : Nat) : Int))), (0, .ref w), (1, .int (iI ((k0 : Nat) : Int))), (2, .int (iI ((e0 : Nat) : Int))), (3, .int (iI (bN colon)))]) hx hb d_Writing_partEnd_99 hl rfl (by rw [show Int32.ofInt (-1) = iI (-1) from rfl, iI_add]; congr 1 <;> omega) (by decide) rfl (fun ls hl => ?_)
                  refine lv_iinc (k := 2) (v := iI ((k + 1 : Nat) : Int)) (lv' := [(5, .int (iI ((k + 1 : Nat) : Int))), (4, .int (iI ((d - 1 : Nat) : Int))), (6, .int (iI ((sp_b (sp_encs utf t) k : Nat) : Int))), (0, .ref w), (1, .int (iI ((k0 : Nat) : Int))), (2, .int (iI ((e0 : Nat) : Int))), (3, .int (iI (bN colon)))]) hx hb d_Writing_partEnd_102 hl rfl (by rw [show Int32.ofInt 1 = iI 1 from rfl, iI_add]; congr 1 <;> omega) (by decide) rfl (fun ls hl => ?_)
                  refine lv_goto hx hb d_Writing_partEnd_105 rfl ?_
                  exact ih ls (k + 1) (d - 1) (⟨by omega, by omega, by omega, by rw [← h4, sp_cl_step (d := d) hke]; rw [if_neg (by omega), if_neg (by omega), if_pos (by omega), if_neg (by omega)]⟩) (lv_sub hl [0, 1, 3, 4, 5, 6] rfl) (by omega)
              · refine lv_iload_n hx hb d_Writing_partEnd_85 rfl (lv_at hl 6 rfl) ?_
                refine zb_ifeq hx hb d_Writing_partEnd_86 rfl (fun h86 => ?_) (fun h86 => ?_)
                · refine lv_iload hx hb d_Writing_partEnd_92 (lv_at hl 0 rfl) ?_
                  refine zi_bipush hx hb d_Writing_partEnd_94 (by decide) ?_
                  refine zi_icmp_ne hx hb d_Writing_partEnd_96 rfl (by omega) (by omega) (fun h96 => ?_) (fun h96 => ?_)
                  · refine lv_iinc (k := 1) (v := iI ((k + 1 : Nat) : Int)) (lv' := [(5, .int (iI ((k + 1 : Nat) : Int))), (6, .int (iI ((sp_b (sp_encs utf t) k : Nat) : Int))), (4, .int (iI ((d : Nat) : Int))), (0, .ref w), (1, .int (iI ((k0 : Nat) : Int))), (2, .int (iI ((e0 : Nat) : Int))), (3, .int (iI (bN colon)))]) hx hb d_Writing_partEnd_102 hl rfl (by rw [show Int32.ofInt 1 = iI 1 from rfl, iI_add]; congr 1 <;> omega) (by decide) rfl (fun ls hl => ?_)
                    refine lv_goto hx hb d_Writing_partEnd_105 rfl ?_
                    exact ih ls (k + 1) d (⟨by omega, by omega, by omega, by rw [← h4, sp_cl_step (d := d) hke]; rw [if_neg (by omega), if_neg (by omega), if_neg (by omega), if_neg (by first | omega | (intro q; have := q.2.1; simp_all) | (intro q; omega))]⟩) (lv_sub hl [0, 2, 3, 4, 5, 6] rfl) (by omega)
                  · refine lv_iinc (k := 2) (v := iI ((d - 1 : Nat) : Int)) (lv' := [(4, .int (iI ((d - 1 : Nat) : Int))), (6, .int (iI ((sp_b (sp_encs utf t) k : Nat) : Int))), (5, .int (iI ((k : Nat) : Int))), (0, .ref w), (1, .int (iI ((k0 : Nat) : Int))), (2, .int (iI ((e0 : Nat) : Int))), (3, .int (iI (bN colon)))]) hx hb d_Writing_partEnd_99 hl rfl (by rw [show Int32.ofInt (-1) = iI (-1) from rfl, iI_add]; congr 1 <;> omega) (by decide) rfl (fun ls hl => ?_)
                    refine lv_iinc (k := 2) (v := iI ((k + 1 : Nat) : Int)) (lv' := [(5, .int (iI ((k + 1 : Nat) : Int))), (4, .int (iI ((d - 1 : Nat) : Int))), (6, .int (iI ((sp_b (sp_encs utf t) k : Nat) : Int))), (0, .ref w), (1, .int (iI ((k0 : Nat) : Int))), (2, .int (iI ((e0 : Nat) : Int))), (3, .int (iI (bN colon)))]) hx hb d_Writing_partEnd_102 hl rfl (by rw [show Int32.ofInt 1 = iI 1 from rfl, iI_add]; congr 1 <;> omega) (by decide) rfl (fun ls hl => ?_)
                    refine lv_goto hx hb d_Writing_partEnd_105 rfl ?_
                    exact ih ls (k + 1) (d - 1) (⟨by omega, by omega, by omega, by rw [← h4, sp_cl_step (d := d) hke]; rw [if_neg (by omega), if_neg (by omega), if_pos (by omega), if_neg (by omega)]⟩) (lv_sub hl [0, 1, 3, 4, 5, 6] rfl) (by omega)
                · refine lv_iload hx hb d_Writing_partEnd_89 (lv_at hl 1 rfl) ?_
                  exact zretI S hr hlk d_Writing_partEnd_91 (congrArg iI (by rw [← h4, sp_cl_step hke, if_neg (by omega), if_neg (by omega)]; first | (rw [if_pos (by omega), if_pos (by omega)]; rfl) | (rw [if_neg (by omega), if_pos ⟨by omega, by assumption, by omega⟩]; rfl)))
        · refine lv_aload_n hx hb d_Writing_partEnd_43 rfl (lv_at hl 3 rfl) ?_
          refine lv_iload hx hb d_Writing_partEnd_44 (lv_at hl 1 rfl) ?_
          refine zi_iconst hx hb d_Writing_partEnd_46 ?_
          refine zi_iadd hx hb d_Writing_partEnd_47 ?_
          refine lv_iload_n hx hb d_Writing_partEnd_48 rfl (lv_at hl 5 rfl) ?_
          rw [show ((k : Nat) : Int) + 1 = ((k + 1 : Nat) : Int) by omega]
          refine zcR (va_runV (As := [.int (iI ((k + 1 : Nat) : Int)), .int (iI ((e0 : Nat) : Int))]) (rest := []) S (c_Writing_peek l E w tx gr h en es rich uemp uunk cd of utf t ((k + 1 : Nat) : Int) ((e0 : Nat) : Int) (by omega) (by omega)) ⟨zcwB (n := 2) S zw_700 zw_12 zw_697 (by decide +kernel) rfl rfl ⟨Nat.le_of_ble_eq_true rfl, Nat.le_of_ble_eq_true rfl⟩, S.2.2.2.2 _ zw_699, S.2.2.2.2 _ zs_9⟩ (zPreV hE hp rfl ⟨hp, hrow⟩) rfl rfl hl.1 rfl (lv_room (Nat.le_of_ble_eq_true rfl)) d_Writing_partEnd_49 ⟨Nat.zero_le _, Nat.zero_le _⟩) ?_
          rw [sp_pk_b (by omega)]
          have hsg := sp_see_ge (sp_encs utf t) (k + 1) e0
          have hsu : sp_see (sp_encs utf t) (k + 1) e0 < 256 := by rw [← sp_pk_b (b := (sp_encs utf t)) (by omega)]; exact (sp_pk_r (sp_encs utf t) _ _ (zrow.lt hrow)).2
          refine zi_bipush hx hb d_Writing_partEnd_52 (by decide) ?_
          refine zi_icmp_ne hx hb d_Writing_partEnd_54 rfl (by omega) (by omega) (fun h54 => ?_) (fun h54 => ?_)
          · refine lv_iload hx hb d_Writing_partEnd_66 (lv_at hl 2 rfl) ?_
            refine zi_if_ne hx hb d_Writing_partEnd_68 rfl (by omega) (fun h68 => ?_) (fun h68 => ?_)
            · refine lv_iload hx hb d_Writing_partEnd_92 (lv_at hl 0 rfl) ?_
              refine zi_bipush hx hb d_Writing_partEnd_94 (by decide) ?_
              refine zi_icmp_ne hx hb d_Writing_partEnd_96 rfl (by omega) (by omega) (fun h96 => ?_) (fun h96 => ?_)
              · refine lv_iinc (k := 1) (v := iI ((k + 1 : Nat) : Int)) (lv' := [(5, .int (iI ((k + 1 : Nat) : Int))), (6, .int (iI ((sp_b (sp_encs utf t) k : Nat) : Int))), (4, .int (iI ((d : Nat) : Int))), (0, .ref w), (1, .int (iI ((k0 : Nat) : Int))), (2, .int (iI ((e0 : Nat) : Int))), (3, .int (iI (bN colon)))]) hx hb d_Writing_partEnd_102 hl rfl (by rw [show Int32.ofInt 1 = iI 1 from rfl, iI_add]; congr 1 <;> omega) (by decide) rfl (fun ls hl => ?_)
                refine lv_goto hx hb d_Writing_partEnd_105 rfl ?_
                exact ih ls (k + 1) d (⟨by omega, by omega, by omega, by rw [← h4, sp_cl_step (d := d) hke]; rw [if_neg (by omega), if_neg (by omega), if_neg (by omega), if_neg (by first | omega | (intro q; have := q.2.1; simp_all) | (intro q; omega))]⟩) (lv_sub hl [0, 2, 3, 4, 5, 6] rfl) (by omega)
              · refine lv_iinc (k := 2) (v := iI ((d - 1 : Nat) : Int)) (lv' := [(4, .int (iI ((d - 1 : Nat) : Int))), (6, .int (iI ((sp_b (sp_encs utf t) k : Nat) : Int))), (5, .int (iI ((k : Nat) : Int))), (0, .ref w), (1, .int (iI ((k0 : Nat) : Int))), (2, .int (iI ((e0 : Nat) : Int))), (3, .int (iI (bN colon)))]) hx hb d_Writing_partEnd_99 hl rfl (by rw [show Int32.ofInt (-1) = iI (-1) from rfl, iI_add]; congr 1 <;> omega) (by decide) rfl (fun ls hl => ?_)
                refine lv_iinc (k := 2) (v := iI ((k + 1 : Nat) : Int)) (lv' := [(5, .int (iI ((k + 1 : Nat) : Int))), (4, .int (iI ((d - 1 : Nat) : Int))), (6, .int (iI ((sp_b (sp_encs utf t) k : Nat) : Int))), (0, .ref w), (1, .int (iI ((k0 : Nat) : Int))), (2, .int (iI ((e0 : Nat) : Int))), (3, .int (iI (bN colon)))]) hx hb d_Writing_partEnd_102 hl rfl (by rw [show Int32.ofInt 1 = iI 1 from rfl, iI_add]; congr 1 <;> omega) (by decide) rfl (fun ls hl => ?_)
                refine lv_goto hx hb d_Writing_partEnd_105 rfl ?_
                exact ih ls (k + 1) (d - 1) (⟨by omega, by omega, by omega, by rw [← h4, sp_cl_step (d := d) hke]; rw [if_neg (by omega), if_neg (by omega), if_pos (by omega), if_neg (by omega)]⟩) (lv_sub hl [0, 1, 3, 4, 5, 6] rfl) (by omega)
            · refine lv_iload hx hb d_Writing_partEnd_71 (lv_at hl 0 rfl) ?_
              refine zi_bipush hx hb d_Writing_partEnd_73 (by decide) ?_
              refine zi_icmp_eq hx hb d_Writing_partEnd_75 rfl (by omega) (by omega) (fun h75 => ?_) (fun h75 => ?_)
              · refine lv_iload hx hb d_Writing_partEnd_89 (lv_at hl 1 rfl) ?_
                exact zretI S hr hlk d_Writing_partEnd_91 (congrArg iI (by rw [← h4, sp_cl_step hke, if_neg (by omega), if_neg (by omega)]; first | (rw [if_pos (by omega), if_pos (by omega)]; rfl) | (rw [if_neg (by omega), if_pos ⟨by omega, by assumption, by omega⟩]; rfl)))
              · refine lv_iload hx hb d_Writing_partEnd_78 (lv_at hl 0 rfl) ?_
                refine zi_bipush hx hb d_Writing_partEnd_80 (by decide) ?_
                refine zi_icmp_ne hx hb d_Writing_partEnd_82 rfl (by omega) (by omega) (fun h82 => ?_) (fun h82 => ?_)
                · refine lv_iload hx hb d_Writing_partEnd_92 (lv_at hl 0 rfl) ?_
                  refine zi_bipush hx hb d_Writing_partEnd_94 (by decide) ?_
                  refine zi_icmp_ne hx hb d_Writing_partEnd_96 rfl (by omega) (by omega) (fun h96 => ?_) (fun h96 => ?_)
                  · refine lv_iinc (k := 1) (v := iI ((k + 1 : Nat) : Int)) (lv' := [(5, .int (iI ((k + 1 : Nat) : Int))), (6, .int (iI ((sp_b (sp_encs utf t) k : Nat) : Int))), (4, .int (iI ((d : Nat) : Int))), (0, .ref w), (1, .int (iI ((k0 : Nat) : Int))), (2, .int (iI ((e0 : Nat) : Int))), (3, .int (iI (bN colon)))]) hx hb d_Writing_partEnd_102 hl rfl (by rw [show Int32.ofInt 1 = iI 1 from rfl, iI_add]; congr 1 <;> omega) (by decide) rfl (fun ls hl => ?_)
                    refine lv_goto hx hb d_Writing_partEnd_105 rfl ?_
                    exact ih ls (k + 1) d (⟨by omega, by omega, by omega, by rw [← h4, sp_cl_step (d := d) hke]; rw [if_neg (by omega), if_neg (by omega), if_neg (by omega), if_neg (by first | omega | (intro q; have := q.2.1; simp_all) | (intro q; omega))]⟩) (lv_sub hl [0, 2, 3, 4, 5, 6] rfl) (by omega)
                  · refine lv_iinc (k := 2) (v := iI ((d - 1 : Nat) : Int)) (lv' := [(4, .int (iI ((d - 1 : Nat) : Int))), (6, .int (iI ((sp_b (sp_encs utf t) k : Nat) : Int))), (5, .int (iI ((k : Nat) : Int))), (0, .ref w), (1, .int (iI ((k0 : Nat) : Int))), (2, .int (iI ((e0 : Nat) : Int))), (3, .int (iI (bN colon)))]) hx hb d_Writing_partEnd_99 hl rfl (by rw [show Int32.ofInt (-1) = iI (-1) from rfl, iI_add]; congr 1 <;> omega) (by decide) rfl (fun ls hl => ?_)
                    refine lv_iinc (k := 2) (v := iI ((k + 1 : Nat) : Int)) (lv' := [(5, .int (iI ((k + 1 : Nat) : Int))), (4, .int (iI ((d - 1 : Nat) : Int))), (6, .int (iI ((sp_b (sp_encs utf t) k : Nat) : Int))), (0, .ref w), (1, .int (iI ((k0 : Nat) : Int))), (2, .int (iI ((e0 : Nat) : Int))), (3, .int (iI (bN colon)))]) hx hb d_Writing_partEnd_102 hl rfl (by rw [show Int32.ofInt 1 = iI 1 from rfl, iI_add]; congr 1 <;> omega) (by decide) rfl (fun ls hl => ?_)
                    refine lv_goto hx hb d_Writing_partEnd_105 rfl ?_
                    exact ih ls (k + 1) (d - 1) (⟨by omega, by omega, by omega, by rw [← h4, sp_cl_step (d := d) hke]; rw [if_neg (by omega), if_neg (by omega), if_pos (by omega), if_neg (by omega)]⟩) (lv_sub hl [0, 1, 3, 4, 5, 6] rfl) (by omega)
                · refine lv_iload_n hx hb d_Writing_partEnd_85 rfl (lv_at hl 6 rfl) ?_
                  refine zb_ifeq hx hb d_Writing_partEnd_86 rfl (fun h86 => ?_) (fun h86 => ?_)
                  · refine lv_iload hx hb d_Writing_partEnd_92 (lv_at hl 0 rfl) ?_
                    refine zi_bipush hx hb d_Writing_partEnd_94 (by decide) ?_
                    refine zi_icmp_ne hx hb d_Writing_partEnd_96 rfl (by omega) (by omega) (fun h96 => ?_) (fun h96 => ?_)
                    · refine lv_iinc (k := 1) (v := iI ((k + 1 : Nat) : Int)) (lv' := [(5, .int (iI ((k + 1 : Nat) : Int))), (6, .int (iI ((sp_b (sp_encs utf t) k : Nat) : Int))), (4, .int (iI ((d : Nat) : Int))), (0, .ref w), (1, .int (iI ((k0 : Nat) : Int))), (2, .int (iI ((e0 : Nat) : Int))), (3, .int (iI (bN colon)))]) hx hb d_Writing_partEnd_102 hl rfl (by rw [show Int32.ofInt 1 = iI 1 from rfl, iI_add]; congr 1 <;> omega) (by decide) rfl (fun ls hl => ?_)
                      refine lv_goto hx hb d_Writing_partEnd_105 rfl ?_
                      exact ih ls (k + 1) d (⟨by omega, by omega, by omega, by rw [← h4, sp_cl_step (d := d) hke]; rw [if_neg (by omega), if_neg (by omega), if_neg (by omega), if_neg (by first | omega | (intro q; have := q.2.1; simp_all) | (intro q; omega))]⟩) (lv_sub hl [0, 2, 3, 4, 5, 6] rfl) (by omega)
                    · refine lv_iinc (k := 2) (v := iI ((d - 1 : Nat) : Int)) (lv' := [(4, .int (iI ((d - 1 : Nat) : Int))), (6, .int (iI ((sp_b (sp_encs utf t) k : Nat) : Int))), (5, .int (iI ((k : Nat) : Int))), (0, .ref w), (1, .int (iI ((k0 : Nat) : Int))), (2, .int (iI ((e0 : Nat) : Int))), (3, .int (iI (bN colon)))]) hx hb d_Writing_partEnd_99 hl rfl (by rw [show Int32.ofInt (-1) = iI (-1) from rfl, iI_add]; congr 1 <;> omega) (by decide) rfl (fun ls hl => ?_)
                      refine lv_iinc (k := 2) (v := iI ((k + 1 : Nat) : Int)) (lv' := [(5, .int (iI ((k + 1 : Nat) : Int))), (4, .int (iI ((d - 1 : Nat) : Int))), (6, .int (iI ((sp_b (sp_encs utf t) k : Nat) : Int))), (0, .ref w), (1, .int (iI ((k0 : Nat) : Int))), (2, .int (iI ((e0 : Nat) : Int))), (3, .int (iI (bN colon)))]) hx hb d_Writing_partEnd_102 hl rfl (by rw [show Int32.ofInt 1 = iI 1 from rfl, iI_add]; congr 1 <;> omega) (by decide) rfl (fun ls hl => ?_)
                      refine lv_goto hx hb d_Writing_partEnd_105 rfl ?_
                      exact ih ls (k + 1) (d - 1) (⟨by omega, by omega, by omega, by rw [← h4, sp_cl_step (d := d) hke]; rw [if_neg (by omega), if_neg (by omega), if_pos (by omega), if_neg (by omega)]⟩) (lv_sub hl [0, 1, 3, 4, 5, 6] rfl) (by omega)
                  · refine lv_iload hx hb d_Writing_partEnd_89 (lv_at hl 1 rfl) ?_
                    exact zretI S hr hlk d_Writing_partEnd_91 (congrArg iI (by rw [← h4, sp_cl_step hke, if_neg (by omega), if_neg (by omega)]; first | (rw [if_pos (by omega), if_pos (by omega)]; rfl) | (rw [if_neg (by omega), if_pos ⟨by omega, by assumption, by omega⟩]; rfl)))
          · refine lv_iinc (k := 2) (v := iI ((d + 1 : Nat) : Int)) (lv' := [(4, .int (iI ((d + 1 : Nat) : Int))), (6, .int (iI ((sp_b (sp_encs utf t) k : Nat) : Int))), (5, .int (iI ((k : Nat) : Int))), (0, .ref w), (1, .int (iI ((k0 : Nat) : Int))), (2, .int (iI ((e0 : Nat) : Int))), (3, .int (iI (bN colon)))]) hx hb d_Writing_partEnd_57 hl rfl (by rw [show Int32.ofInt 1 = iI 1 from rfl, iI_add]; congr 1 <;> omega) (by decide) rfl (fun ls hl => ?_)
            refine lv_iinc (k := 2) (v := iI ((k + 1 : Nat) : Int)) (lv' := [(5, .int (iI ((k + 1 : Nat) : Int))), (4, .int (iI ((d + 1 : Nat) : Int))), (6, .int (iI ((sp_b (sp_encs utf t) k : Nat) : Int))), (0, .ref w), (1, .int (iI ((k0 : Nat) : Int))), (2, .int (iI ((e0 : Nat) : Int))), (3, .int (iI (bN colon)))]) hx hb d_Writing_partEnd_60 hl rfl (by rw [show Int32.ofInt 1 = iI 1 from rfl, iI_add]; congr 1 <;> omega) (by decide) rfl (fun ls hl => ?_)
            refine lv_goto hx hb d_Writing_partEnd_63 rfl ?_
            refine lv_iinc (k := 0) (v := iI ((k + 2 : Nat) : Int)) (lv' := [(5, .int (iI ((k + 2 : Nat) : Int))), (4, .int (iI ((d + 1 : Nat) : Int))), (6, .int (iI ((sp_b (sp_encs utf t) k : Nat) : Int))), (0, .ref w), (1, .int (iI ((k0 : Nat) : Int))), (2, .int (iI ((e0 : Nat) : Int))), (3, .int (iI (bN colon)))]) hx hb d_Writing_partEnd_102 hl rfl (by rw [show Int32.ofInt 1 = iI 1 from rfl, iI_add]; congr 1 <;> omega) (by decide) rfl (fun ls hl => ?_)
            refine lv_goto hx hb d_Writing_partEnd_105 rfl ?_
            exact ih ls (k + 2) (d + 1) (⟨by omega, by omega, by omega, by rw [← h4, sp_cl_step (d := d) hke]; rw [if_neg (by omega), if_pos ⟨by omega, by omega⟩]⟩) (lv_sub hl [0, 1, 3, 4, 5, 6] rfl) (by omega)
      · refine lv_iinc (k := 1) (v := iI ((k + 1 : Nat) : Int)) (lv' := [(5, .int (iI ((k + 1 : Nat) : Int))), (6, .int (iI ((sp_b (sp_encs utf t) k : Nat) : Int))), (4, .int (iI ((d : Nat) : Int))), (0, .ref w), (1, .int (iI ((k0 : Nat) : Int))), (2, .int (iI ((e0 : Nat) : Int))), (3, .int (iI (bN colon)))]) hx hb d_Writing_partEnd_30 hl rfl (by rw [show Int32.ofInt 1 = iI 1 from rfl, iI_add]; congr 1 <;> omega) (by decide) rfl (fun ls hl => ?_)
        refine lv_goto hx hb d_Writing_partEnd_33 rfl ?_
        refine lv_iinc (k := 0) (v := iI ((k + 2 : Nat) : Int)) (lv' := [(5, .int (iI ((k + 2 : Nat) : Int))), (6, .int (iI ((sp_b (sp_encs utf t) k : Nat) : Int))), (4, .int (iI ((d : Nat) : Int))), (0, .ref w), (1, .int (iI ((k0 : Nat) : Int))), (2, .int (iI ((e0 : Nat) : Int))), (3, .int (iI (bN colon)))]) hx hb d_Writing_partEnd_102 hl rfl (by rw [show Int32.ofInt 1 = iI 1 from rfl, iI_add]; congr 1 <;> omega) (by decide) rfl (fun ls hl => ?_)
        refine lv_goto hx hb d_Writing_partEnd_105 rfl ?_
        exact ih ls (k + 2) d (⟨by omega, by omega, by omega, by rw [← h4, sp_cl_step (d := d) hke]; rw [if_pos (by omega)]⟩) (lv_sub hl [0, 2, 3, 4, 5, 6] rfl) (by omega)
