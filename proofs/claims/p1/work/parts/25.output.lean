set_option maxRecDepth 100000 in
set_option maxHeartbeats 4000000 in
theorem c_Output_turnFromHere (l : Launch) (E : zP) (sz : Nat) (h : Nat) (e1 e2 e3 : Nat) (x y z : Nat) (fl : Bool) : Met l y_Output_turnFromHere (.code y_Output_turnFromHere b_Output_turnFromHere 2 ( Option.none : Option FieldType ) :: zw) { frames := 0, cells := (0), slots := (0), locals := 0 } (zPc E [.ref h, .ref z] (fun H => H.size = sz ∧ va_P E.1 zcl [(h, .inr (6, [.ref e1, .ref e2, .ref e3, .ref x, .ref y, .int (iI (bN fl))]))] H ∧ va_D (zOld E) [(h, .inr (6, [.ref e1, .ref e2, .ref e3, .ref x, .ref y, .int (iI (bN fl))]))] ∧ (True))) (zW (fun v H => v = none ∧ va_P E.1 zcl [(h, .inr (6, [.ref e1, .ref e2, .ref e3, .ref z, .ref y, .int (iI (bN fl))]))] H ∧ va_D (va_A [(h, .inr (6, [.ref e1, .ref e2, .ref e3, .ref x, .ref y, .int (iI (bN fl))]))] sz) [(h, .inr (6, [.ref e1, .ref e2, .ref e3, .ref z, .ref y, .int (iI (bN fl))]))]) (va_A [(h, .inr (6, [.ref e1, .ref e2, .ref e3, .ref x, .ref y, .int (iI (bN fl))]))] sz)) (0) (0) (va_A [(h, .inr (6, [.ref e1, .ref e2, .ref e3, .ref x, .ref y, .int (iI (bN fl))]))] sz) := by
  refine zMet (by decide) (Nat.le_of_ble_eq_true rfl) ?_
  intro p e s m below meth c ls S hr hlk hnm hE ⟨hsz, hP, hDo, hX⟩ hl
  have hx := S.1
  have hb := S.2.1
  have hE0 := hE
  have hl : lv_has ls 2 [(0, .ref h), (1, .ref z)] := hl
  subst hsz
  have hD := hDo.self (sz := s.heap.size)
  generalize hAe : va_A [(h, .inr (6, [.ref e1, .ref e2, .ref e3, .ref x, .ref y, .int (iI (bN fl))]))] s.heap.size = A at hD ⊢
  have hA : ∀ q : Nat, s.heap.size ≤ q → A q := fun q h => by rw [← hAe]; exact Or.inr h
  have hA0 := zA0 hE hDo hAe
  have hS : va_S A s.heap s.heap [] := va_S.rf
  refine lv_aload_n hx hb d_Output_turnFromHere_0 rfl (lv_at hl 0 rfl) ?_
  refine lv_aload_n hx hb d_Output_turnFromHere_1 rfl (lv_at hl 1 rfl) ?_
  refine va_put (D := E.1) (ci := 6) (v := .ref z) (ty := .object "ReplacementWriter$Turn") (C := "ReplacementWriter$Output") (T := F_Output) (N := 6) hx hb S.2.2.2.2 i_Output t_Output t_Output_ok n_Output S.2.2.2.1 hE.1 hP hD hS 0 rfl rfl 3 (by decide) (S.2.2.2.2 _ zw_157) (fun _ h9 => h9) rfl (by decide +kernel) rfl rfl (Nat.le_of_ble_eq_true rfl) d_Output_turnFromHere_2 (fun H locs hP hD hS => ?_)
  have hP : va_P E.1 zcl [(h, .inr (6, [.ref e1, .ref e2, .ref e3, .ref z, .ref y, .int (iI (bN fl))]))] H := hP
  have hD : va_D A [(h, .inr (6, [.ref e1, .ref e2, .ref e3, .ref z, .ref y, .int (iI (bN fl))]))] := hD
  have hE := hE0.at hS hA0
  exact zwv S hr hlk hS (⟨rfl, hP, hD⟩) (by (try dsimp only); omega) (by (try dsimp only); omega) d_Output_turnFromHere_5

set_option maxRecDepth 100000 in
set_option maxHeartbeats 4000000 in
theorem c_Output_turnNext (l : Launch) (E : zP) (sz : Nat) (h : Nat) (e1 e2 e3 : Nat) (x y z : Nat) (fl : Bool) : Met l y_Output_turnNext (.code y_Output_turnNext b_Output_turnNext 2 ( Option.none : Option FieldType ) :: zw) { frames := 0, cells := (0), slots := (0), locals := 0 } (zPc E [.ref h, .ref z] (fun H => H.size = sz ∧ va_P E.1 zcl [(h, .inr (6, [.ref e1, .ref e2, .ref e3, .ref x, .ref y, .int (iI (bN fl))]))] H ∧ va_D (zOld E) [(h, .inr (6, [.ref e1, .ref e2, .ref e3, .ref x, .ref y, .int (iI (bN fl))]))] ∧ (True))) (zW (fun v H => v = none ∧ va_P E.1 zcl [(h, .inr (6, [.ref e1, .ref e2, .ref e3, .ref x, .ref z, .int (iI (bN fl))]))] H ∧ va_D (va_A [(h, .inr (6, [.ref e1, .ref e2, .ref e3, .ref x, .ref y, .int (iI (bN fl))]))] sz) [(h, .inr (6, [.ref e1, .ref e2, .ref e3, .ref x, .ref z, .int (iI (bN fl))]))]) (va_A [(h, .inr (6, [.ref e1, .ref e2, .ref e3, .ref x, .ref y, .int (iI (bN fl))]))] sz)) (0) (0) (va_A [(h, .inr (6, [.ref e1, .ref e2, .ref e3, .ref x, .ref y, .int (iI (bN fl))]))] sz) := by
  refine zMet (by decide) (Nat.le_of_ble_eq_true rfl) ?_
  intro p e s m below meth c ls S hr hlk hnm hE ⟨hsz, hP, hDo, hX⟩ hl
  have hx := S.1
  have hb := S.2.1
  have hE0 := hE
  have hl : lv_has ls 2 [(0, .ref h), (1, .ref z)] := hl
  subst hsz
  have hD := hDo.self (sz := s.heap.size)
  generalize hAe : va_A [(h, .inr (6, [.ref e1, .ref e2, .ref e3, .ref x, .ref y, .int (iI (bN fl))]))] s.heap.size = A at hD ⊢
  have hA : ∀ q : Nat, s.heap.size ≤ q → A q := fun q h => by rw [← hAe]; exact Or.inr h
  have hA0 := zA0 hE hDo hAe
  have hS : va_S A s.heap s.heap [] := va_S.rf
  refine lv_aload_n hx hb d_Output_turnNext_0 rfl (lv_at hl 0 rfl) ?_
  refine lv_aload_n hx hb d_Output_turnNext_1 rfl (lv_at hl 1 rfl) ?_
  refine va_put (D := E.1) (ci := 6) (v := .ref z) (ty := .object "ReplacementWriter$Turn") (C := "ReplacementWriter$Output") (T := F_Output) (N := 6) hx hb S.2.2.2.2 i_Output t_Output t_Output_ok n_Output S.2.2.2.1 hE.1 hP hD hS 0 rfl rfl 4 (by decide) (S.2.2.2.2 _ zw_158) (fun _ h9 => h9) rfl (by decide +kernel) rfl rfl (Nat.le_of_ble_eq_true rfl) d_Output_turnNext_2 (fun H locs hP hD hS => ?_)
  have hP : va_P E.1 zcl [(h, .inr (6, [.ref e1, .ref e2, .ref e3, .ref x, .ref z, .int (iI (bN fl))]))] H := hP
  have hD : va_D A [(h, .inr (6, [.ref e1, .ref e2, .ref e3, .ref x, .ref z, .int (iI (bN fl))]))] := hD
  have hE := hE0.at hS hA0
  exact zwv S hr hlk hS (⟨rfl, hP, hD⟩) (by (try dsimp only); omega) (by (try dsimp only); omega) d_Output_turnNext_5

set_option maxRecDepth 100000 in
set_option maxHeartbeats 4000000 in
theorem c_Output_put (l : Launch) (E : zP) (sz : Nat) (Z : Nat → Prop) (h rb q en ca cap mode once c0 how t : Nat) (utf ucp : Bool) (f : Nat → Int32) (out : List Nat) (hB : zbytes out cap f) (hF : zfit cap f) (hc : sp_capok cap) (hmode : mode ≤ 2) (honce : once ≤ 2) (hok : sp_ok utf c0 = true) (hhow : how = if once = 0 then mode else once) (ht : t = sp_case utf ucp how c0) (hfits : out.length + sp_len utf t ≤ 262144) : Met l y_Output_put (.code y_Output_put b_Output_put 5 ( Option.none : Option FieldType ) :: zw) { frames := 3, cells := ((max cap (sp_up (out ++ sp_enc utf t).length) - cap) / 16), slots := (2 * (max cap (sp_up (out ++ sp_enc utf t).length) - cap)), locals := 82 } (zPc E [.ref h, .int (iI ((c0 : Nat) : Int))] (fun H => H.size = sz ∧ va_P E.1 zcl [(h, .inr (6, [.ref en, .ref ca, .ref rb, .ref (E.2.2.1 (mode + 1)), .ref (E.2.2.1 (once + 1)), .int (iI (bN false))])), (rb, .inr (1, [.int (iI 262144), .ref q, .int (iI ((out.length : Nat) : Int))])), (q, .inl (E.2.1 0, cap, .inl f))] H ∧ va_D (fun x => zOld E x ∧ ¬ Z x) [(h, .inr (6, [.ref en, .ref ca, .ref rb, .ref (E.2.2.1 (mode + 1)), .ref (E.2.2.1 (once + 1)), .int (iI (bN false))])), (rb, .inr (1, [.int (iI 262144), .ref q, .int (iI ((out.length : Nat) : Int))])), (q, .inl (E.2.1 0, cap, .inl f))] ∧ (∀ q, Z q → q < sz) ∧ (Z en ∧ Z ca ∧ zO E 2 en [.int (iI (bN utf))] H ∧ zO E 3 ca [.int (iI ((5 * sp_many utf ucp : Nat) : Int))] H))) (zW (fun v H => v = none ∧ ∃ (q2 : Nat) (f2 : Nat → Int32), va_P E.1 zcl [(h, .inr (6, [.ref en, .ref ca, .ref rb, .ref (E.2.2.1 (mode + 1)), .ref (E.2.2.1 (0 + 1)), .int (iI (bN false))])), (rb, .inr (1, [.int (iI 262144), .ref q2, .int (iI (((out ++ sp_enc utf t).length : Nat) : Int))])), (q2, .inl (E.2.1 0, max cap (sp_up (out ++ sp_enc utf t).length), .inl f2))] H ∧ va_D (va_A [(h, .inr (6, [.ref en, .ref ca, .ref rb, .ref (E.2.2.1 (mode + 1)), .ref (E.2.2.1 (once + 1)), .int (iI (bN false))])), (rb, .inr (1, [.int (iI 262144), .ref q, .int (iI ((out.length : Nat) : Int))])), (q, .inl (E.2.1 0, cap, .inl f))] sz) [(h, .inr (6, [.ref en, .ref ca, .ref rb, .ref (E.2.2.1 (mode + 1)), .ref (E.2.2.1 (0 + 1)), .int (iI (bN false))])), (rb, .inr (1, [.int (iI 262144), .ref q2, .int (iI (((out ++ sp_enc utf t).length : Nat) : Int))])), (q2, .inl (E.2.1 0, max cap (sp_up (out ++ sp_enc utf t).length), .inl f2))] ∧ zbytes (out ++ sp_enc utf t) (max cap (sp_up (out ++ sp_enc utf t).length)) f2 ∧ zfit (max cap (sp_up (out ++ sp_enc utf t).length)) f2) (va_A [(h, .inr (6, [.ref en, .ref ca, .ref rb, .ref (E.2.2.1 (mode + 1)), .ref (E.2.2.1 (once + 1)), .int (iI (bN false))])), (rb, .inr (1, [.int (iI 262144), .ref q, .int (iI ((out.length : Nat) : Int))])), (q, .inl (E.2.1 0, cap, .inl f))] sz)) ((max cap (sp_up (out ++ sp_enc utf t).length) - cap) / 16) (2 * (max cap (sp_up (out ++ sp_enc utf t).length) - cap)) (va_A [(h, .inr (6, [.ref en, .ref ca, .ref rb, .ref (E.2.2.1 (mode + 1)), .ref (E.2.2.1 (once + 1)), .int (iI (bN false))])), (rb, .inr (1, [.int (iI 262144), .ref q, .int (iI ((out.length : Nat) : Int))])), (q, .inl (E.2.1 0, cap, .inl f))] sz) := by
  refine zMet (by decide) (Nat.le_of_ble_eq_true rfl) ?_
  intro p e s m below meth c ls S hr hlk hnm hE ⟨hsz, hP, hDo, hZb, hze, hzc, hen, hca⟩ hl
  have hx := S.1
  have hb := S.2.1
  have hE0 := hE
  have hl : lv_has ls 5 [(0, .ref h), (1, .int (iI ((c0 : Nat) : Int)))] := hl
  subst hsz
  have hD := hDo.self (sz := s.heap.size)
  generalize hAe : va_A [(h, .inr (6, [.ref en, .ref ca, .ref rb, .ref (E.2.2.1 (mode + 1)), .ref (E.2.2.1 (once + 1)), .int (iI (bN false))])), (rb, .inr (1, [.int (iI 262144), .ref q, .int (iI ((out.length : Nat) : Int))])), (q, .inl (E.2.1 0, cap, .inl f))] s.heap.size = A at hD ⊢
  have hA : ∀ q : Nat, s.heap.size ≤ q → A q := fun q h => by rw [← hAe]; exact Or.inr h
  have hA1 := zAZ hE hDo hZb hAe
  have hA0 : ∀ q, A q → zOld E q := fun q h => (hA1 q h).1
  have hAZ : ∀ q, Z q → ¬ A q := fun q z h => (hA1 q h).2 z
  have hS : va_S A s.heap s.heap [] := va_S.rf
  have hlt := sp_case_lt (ucp := ucp) (how := how) hok
  rw [← ht] at hlt
  have hln := sp_len_le utf t
  have hc0b : c0 < 2097152 := by cases utf <;> simp [sp_ok] at hok <;> omega
  have hob := hB.1
  have hcr := sp_capok_r hc
  obtain ⟨capF, hcapF0⟩ : ∃ x, x = max cap (sp_up (out ++ sp_enc utf t).length) := ⟨_, rfl⟩
  rw [← hcapF0]
  refine lv_aload_n hx hb d_Output_put_0 rfl (lv_at hl 0 rfl) ?_
  refine zgf S hE (ci := 6) rfl i_Output (hP 0 _ rfl) 1 (by decide) zw_155 rfl d_Output_put_1 ?_
  refine lv_iload_n hx hb d_Output_put_4 rfl (lv_at hl 1 rfl) ?_
  refine lv_aload_n hx hb d_Output_put_5 rfl (lv_at hl 0 rfl) ?_
  refine zgf S hE (ci := 6) rfl i_Output (hP 0 _ rfl) 4 (by decide) zw_158 rfl d_Output_put_6 ?_
  refine zgs S hE.asis zw_152 d_Output_put_9 ?_
  refine zacmp_ne hx hb d_Output_put_12 rfl (fun h12 => ?_) (fun h12 => ?_)
  · have ho : once ≠ 0 := fun q => h12 (by rw [q])
    refine lv_aload_n hx hb d_Output_put_22 rfl (lv_at hl 0 rfl) ?_
    refine zgf S hE (ci := 6) rfl i_Output (hP 0 _ rfl) 4 (by decide) zw_158 rfl d_Output_put_23 ?_
    refine zcR (va_runV (As := [.int (iI ((c0 : Nat) : Int)), .ref (E.2.2.1 (once + 1))]) (rest := []) S (c_Cases_turned l E ca (sp_many utf ucp) c0 once (sp_many_le utf ucp) (by omega) honce) ⟨zcwB (n := 2) S zw_675 zw_9 zw_672 (by decide +kernel) rfl rfl ⟨Nat.le_of_ble_eq_true rfl, Nat.le_of_ble_eq_true rfl⟩, S.2.2.2.2 _ zw_673, S.2.2.2.2 _ zw_674⟩ (zPreV hE (zfz hS hca (hAZ _ hzc)) rfl (zfz hS hca (hAZ _ hzc))) rfl rfl hl.1 rfl (lv_room (Nat.le_of_ble_eq_true rfl)) d_Output_put_26 ⟨by (try dsimp only); omega, by (try dsimp only); omega⟩) ?_
    rw [sp_case_eq hok, ← (show t = sp_case utf ucp once c0 by rw [ht, hhow]; rw [if_neg ho])]
    refine lv_istore_n (lv' := [(2, .int (iI ((t : Nat) : Int))), (0, .ref h), (1, .int (iI ((c0 : Nat) : Int)))]) hx hb d_Output_put_29 rfl hl (by decide) rfl (fun ls hl => ?_)
    refine lv_aload_n hx hb d_Output_put_30 rfl (lv_at hl 1 rfl) ?_
    refine zgs S hE.asis zw_152 d_Output_put_31 ?_
    refine va_put (D := E.1) (ci := 6) (v := .ref (E.2.2.1 1)) (ty := .object "ReplacementWriter$Turn") (C := "ReplacementWriter$Output") (T := F_Output) (N := 6) hx hb S.2.2.2.2 i_Output t_Output t_Output_ok n_Output S.2.2.2.1 hE.1 hP hD hS 0 rfl rfl 4 (by decide) (S.2.2.2.2 _ zw_158) (fun _ h9 => h9) rfl (by decide +kernel) rfl rfl (Nat.le_of_ble_eq_true rfl) d_Output_put_34 (fun H locs hP hD hS => ?_)
    have hP : va_P E.1 zcl [(h, .inr (6, [.ref en, .ref ca, .ref rb, .ref (E.2.2.1 (mode + 1)), .ref (E.2.2.1 1), .int (iI (bN false))])), (rb, .inr (1, [.int (iI 262144), .ref q, .int (iI ((out.length : Nat) : Int))])), (q, .inl (E.2.1 0, cap, .inl f))] H := hP
    have hD : va_D A [(h, .inr (6, [.ref en, .ref ca, .ref rb, .ref (E.2.2.1 (mode + 1)), .ref (E.2.2.1 1), .int (iI (bN false))])), (rb, .inr (1, [.int (iI 262144), .ref q, .int (iI ((out.length : Nat) : Int))])), (q, .inl (E.2.1 0, cap, .inl f))] := hD
    have hE := hE0.at hS hA0
    refine lv_aload_n hx hb d_Output_put_37 rfl (lv_at hl 1 rfl) ?_
    refine zgf S hE (ci := 6) rfl i_Output (hP 0 _ rfl) 0 (by decide) zw_154 rfl d_Output_put_38 ?_
    refine lv_iload_n hx hb d_Output_put_41 rfl (lv_at hl 0 rfl) ?_
    refine zcR (va_runV (As := [.int (iI ((t : Nat) : Int))]) (rest := []) S (c_Encoding_lengthOf l E en utf t (by omega)) ⟨zcwB (n := 1) S zw_457 zw_7 zw_682 (by decide +kernel) rfl rfl ⟨Nat.le_of_ble_eq_true rfl, Nat.le_of_ble_eq_true rfl⟩, S.2.2.2.2 _ zw_455, S.2.2.2.2 _ zw_456⟩ (zPreV hE (zfz hS hen (hAZ _ hze)) rfl (zfz hS hen (hAZ _ hze))) rfl rfl hl.1 rfl (lv_room (Nat.le_of_ble_eq_true rfl)) d_Output_put_42 ⟨by (try dsimp only); omega, by (try dsimp only); omega⟩) ?_
    have hb42 := sp_len_le utf t
    refine lv_istore_n (lv' := [(3, .int (iI ((sp_len utf t : Nat) : Int))), (2, .int (iI ((t : Nat) : Int))), (0, .ref h), (1, .int (iI ((c0 : Nat) : Int)))]) hx hb d_Output_put_45 rfl hl (by decide) rfl (fun ls hl => ?_)
    refine lv_aload_n hx hb d_Output_put_46 rfl (lv_at hl 2 rfl) ?_
    refine zgf S hE (ci := 6) rfl i_Output (hP 0 _ rfl) 2 (by decide) zw_156 rfl d_Output_put_47 ?_
    refine zcR (va_runV (As := []) (rest := []) S (c_Row_length l E rb out) ⟨zcwB (n := 0) S zw_258 zw_2 zw_683 (by decide +kernel) rfl rfl ⟨Nat.le_of_ble_eq_true rfl, Nat.le_of_ble_eq_true rfl⟩, S.2.2.2.2 _ zw_256, S.2.2.2.2 _ zw_257⟩ (zPreVrow hE (zrow.of (hP 1 _ rfl) (hP 2 _ rfl) hB) (zrow.of (hP 1 _ rfl) (hP 2 _ rfl) hB)) rfl rfl hl.1 rfl (lv_room (Nat.le_of_ble_eq_true rfl)) d_Output_put_50 ⟨by (try dsimp only); omega, by (try dsimp only); omega⟩) ?_
    refine lv_iload_n hx hb d_Output_put_53 rfl (lv_at hl 0 rfl) ?_
    refine zi_iadd hx hb d_Output_put_54 ?_
    refine zldc (n := 262144) S zw_150 (by decide) d_Output_put_55 ?_
    refine zi_icmp_le hx hb d_Output_put_57 rfl (by omega) (by omega) (fun h57 => ?_) (fun h => absurd h (by omega))
    have h4 : sp_len utf t = 1 ∨ sp_len utf t = 2 ∨ sp_len utf t = 3 ∨ sp_len utf t = 4 := by omega
    rcases h4 with e4 | e4 | e4 | e4
    · rw [e4] at hl
      have hl : lv_has ls 5 [(3, .int (iI 1)), (2, .int (iI ((t : Nat) : Int))), (0, .ref h), (1, .int (iI ((c0 : Nat) : Int)))] := hl
      have hr4 : utf = false ∨ t < 128 := by unfold sp_len at e4; split at e4; assumption; split at e4 <;> (try split at e4) <;> omega
      have henc : sp_enc utf t = [t] := by unfold sp_enc; rw [if_pos hr4]
      have hcapF : capF = max cap (sp_up (out.length + 1)) := by rw [hcapF0, List.length_append, sp_enc_len, e4]
      have ht8 : t < 256 := by rcases hr4 with q | q; exact hlt.2 q; omega
      have hB0 := hB
      have hF0 := hF
      have hc0 := hc
      refine lv_iload_n hx hb d_Output_put_66 rfl (lv_at hl 0 rfl) ?_
      refine zi_iconst hx hb d_Output_put_67 ?_
      refine zi_icmp_ne hx hb d_Output_put_68 rfl (by omega) (by omega) (fun h => absurd h (by omega)) (fun h68 => ?_)
      refine lv_aload_n hx hb d_Output_put_71 rfl (lv_at hl 2 rfl) ?_
      refine zgf S hE (ci := 6) rfl i_Output (hP 0 _ rfl) 2 (by decide) zw_156 rfl d_Output_put_72 ?_
      refine lv_iload_n hx hb d_Output_put_75 rfl (lv_at hl 1 rfl) ?_
      have hw0 : (iI ((t : Nat) : Int)).toInt8.toInt32 = sb_b (t) := sb_of (by omega) (by omega)
      have hn0 : (out).length = out.length + 0 := by simp
      have hl0 : (out).length ≤ cap := hB0.1
      have hg0 := sp_grow_up hc0 hl0 (by omega)
      have hm0 : sp_up ((out).length + 1) ≤ sp_up (out.length + 1) := sp_up_mono (by omega)
      have hc1 : sp_capok (sp_grow cap out.length) := by rw [hg0]; exact sp_capok_max hc0 (sp_up_ok _)
      have hPc := hP.sub (ws' := [(rb, .inr (1, [.int (iI 262144), .ref q, .int (iI ((out.length : Nat) : Int))])), (q, .inl (E.2.1 0, cap, .inl f))]) [1, 2] rfl
      have hDc := hD.sub (ws' := [(rb, .inr (1, [.int (iI 262144), .ref q, .int (iI ((out.length : Nat) : Int))])), (q, .inl (E.2.1 0, cap, .inl f))]) [1, 2] (by decide) rfl
      have hFc := va_free (wc := [(rb, .inr (1, [.int (iI 262144), .ref q, .int (iI ((out.length : Nat) : Int))])), (q, .inl (E.2.1 0, cap, .inl f))]) hD hS hA [1, 2] rfl
      refine zcW (va_runV (As := [.int (iI ((t : Nat) : Int))]) (rest := []) S (c_Row_add l E H.size rb q cap (t) 262144 f out (iI ((t : Nat) : Int)) hw0 (by omega) hB0 (by omega) (by omega) (sp_capok_r hc0).1 (sp_capok_r hc0).2.1 hF0) ⟨zcwB (n := 1) S zw_353 zw_2 zw_684 (by decide +kernel) rfl rfl ⟨Nat.le_of_ble_eq_true rfl, Nat.le_of_ble_eq_true rfl⟩, S.2.2.2.2 _ zw_351, S.2.2.2.2 _ zw_352⟩ (zPreV hE (hP 1 _ rfl) rfl ⟨rfl, hPc, hDc.weaken (fun _ _ _ h => hA0 _ h), trivial⟩) rfl rfl hl.1 rfl (lv_room (Nat.le_of_ble_eq_true rfl)) d_Output_put_76 ⟨by (try dsimp only); omega, by (try dsimp only); omega⟩) hS (fun q _ h => hFc q h) hFc (fun v H locs hq hz1 hk1 hS => ?_)
      obtain ⟨rfl, q0, f0, hP1, hD1, hB1, hF1⟩ := hq
      obtain ⟨hP, hD⟩ := va_join (wr := [(h, .inr (6, [.ref en, .ref ca, .ref rb, .ref (E.2.2.1 (mode + 1)), .ref (E.2.2.1 1), .int (iI (bN false))]))]) (w1 := [(rb, .inr (1, [.int (iI 262144), .ref q0, .int (iI (((out ++ [t]).length : Nat) : Int))])), (q0, .inl (E.2.1 0, sp_grow cap out.length, .inl f0))]) hP hD [1, 2] [0] rfl rfl (by decide) (by decide) hk1 hFc hP1 hD1
      have hP : va_P E.1 zcl [(h, .inr (6, [.ref en, .ref ca, .ref rb, .ref (E.2.2.1 (mode + 1)), .ref (E.2.2.1 1), .int (iI (bN false))])), (rb, .inr (1, [.int (iI 262144), .ref q0, .int (iI (((out ++ [t]).length : Nat) : Int))])), (q0, .inl (E.2.1 0, sp_grow cap out.length, .inl f0))] H := hP
      have hD : va_D A [(h, .inr (6, [.ref en, .ref ca, .ref rb, .ref (E.2.2.1 (mode + 1)), .ref (E.2.2.1 1), .int (iI (bN false))])), (rb, .inr (1, [.int (iI 262144), .ref q0, .int (iI (((out ++ [t]).length : Nat) : Int))])), (q0, .inl (E.2.1 0, sp_grow cap out.length, .inl f0))] := hD
      have hE := hE0.at hS hA0
      obtain ⟨cap0, ec0⟩ : ∃ x, x = sp_grow cap out.length := ⟨_, rfl⟩
      rw [← ec0] at hg0 hc1 hB1 hF1 hP hD
      rw [← ec0]
      refine W.widen (k := (cap0 - cap) / 16) (n := 2 * (cap0 - cap)) (by omega) (by omega) ?_
      have hfin : out ++ [t] = out ++ sp_enc utf t := by simp [henc]
      have hlast : sp_up (out.length + 0 + 1) = sp_up (out.length + 1) := rfl
      have hcf : cap0 = capF := by rw [hn0] at hg0 hm0; omega
      have hP9 := hP.sub (ws' := [(h, .inr (6, [.ref en, .ref ca, .ref rb, .ref (E.2.2.1 (mode + 1)), .ref (E.2.2.1 1), .int (iI (bN false))])), (rb, .inr (1, [.int (iI 262144), .ref q0, .int (iI (((out ++ [t]).length : Nat) : Int))])), (q0, .inl (E.2.1 0, cap0, .inl f0))]) [0, 1, 2] rfl
      have hD9 := hD.sub (ws' := [(h, .inr (6, [.ref en, .ref ca, .ref rb, .ref (E.2.2.1 (mode + 1)), .ref (E.2.2.1 1), .int (iI (bN false))])), (rb, .inr (1, [.int (iI 262144), .ref q0, .int (iI (((out ++ [t]).length : Nat) : Int))])), (q0, .inl (E.2.1 0, cap0, .inl f0))]) [0, 1, 2] (by decide) rfl
      rw [hfin] at hP9 hD9 hB1
      rw [hcf] at hP9 hD9 hB1 hF1
      rw [hcf]
      exact zwv S hr hlk hS (⟨rfl, q0, f0, hP9, hD9, hB1, hF1⟩) (by (try dsimp only); omega) (by (try dsimp only); omega) d_Output_put_79
    · rw [e4] at hl
      have hl : lv_has ls 5 [(3, .int (iI 2)), (2, .int (iI ((t : Nat) : Int))), (0, .ref h), (1, .int (iI ((c0 : Nat) : Int)))] := hl
      have hr4 : ¬ (utf = false ∨ t < 128) ∧ t < 2048 := by unfold sp_len at e4; split at e4; omega; split at e4; constructor <;> assumption; split at e4 <;> omega
      have henc : sp_enc utf t = [192 + t / 64, 128 + t % 64] := by unfold sp_enc; rw [if_neg hr4.1, if_pos hr4.2]
      have hcapF : capF = max cap (sp_up (out.length + 2)) := by rw [hcapF0, List.length_append, sp_enc_len, e4]
      have hB0 := hB
      have hF0 := hF
      have hc0 := hc
      refine lv_iload_n hx hb d_Output_put_66 rfl (lv_at hl 0 rfl) ?_
      refine zi_iconst hx hb d_Output_put_67 ?_
      refine zi_icmp_ne hx hb d_Output_put_68 rfl (by omega) (by omega) (fun h68 => ?_) (fun h => absurd h (by omega))
      refine lv_aload_n hx hb d_Output_put_80 rfl (lv_at hl 2 rfl) ?_
      refine zgf S hE (ci := 6) rfl i_Output (hP 0 _ rfl) 2 (by decide) zw_156 rfl d_Output_put_81 ?_
      refine zi_sipush hx hb d_Output_put_84 (by decide) ?_
      refine lv_iload_n hx hb d_Output_put_87 rfl (lv_at hl 0 rfl) ?_
      refine zi_ishr (r := 960) hx hb d_Output_put_88 (by decide) ?_
      refine lv_iload_n hx hb d_Output_put_89 rfl (lv_at hl 1 rfl) ?_
      refine zi_bipush hx hb d_Output_put_90 (by decide) ?_
      refine lv_iload_n hx hb d_Output_put_92 rfl (lv_at hl 0 rfl) ?_
      refine zi_iconst hx hb d_Output_put_93 ?_
      refine zi_isub hx hb d_Output_put_94 ?_
      refine W.eq (g2 := F0 m 95 ls ([.int (iI 1), .int (iI 6), .int (iI ((t : Nat) : Int)), .int (iI 960), .ref rb])) rfl ?_
      refine zi_imul hx hb d_Output_put_95 ?_
      refine W.eq (g2 := F0 m 96 ls ([.int (iI 6), .int (iI ((t : Nat) : Int)), .int (iI 960), .ref rb])) rfl ?_
      refine zi_ishr hx hb d_Output_put_96 (iI_shrN 6 6 (by omega) (by omega) (by decide)) ?_
      refine zi_ior hx hb d_Output_put_97 (iI_orK 960 6 15 (by decide) (by omega) (by omega)) ?_
      have hw0 : (iI (960 + (((t : Nat) : Int) / 2 ^ 6))).toInt8.toInt32 = sb_b (192 + t / 64) := sb_of (by omega) (by omega)
      have hn0 : (out).length = out.length + 0 := by simp
      have hl0 : (out).length ≤ cap := hB0.1
      have hg0 := sp_grow_up hc0 hl0 (by omega)
      have hm0 : sp_up ((out).length + 1) ≤ sp_up (out.length + 2) := sp_up_mono (by omega)
      have hc1 : sp_capok (sp_grow cap out.length) := by rw [hg0]; exact sp_capok_max hc0 (sp_up_ok _)
      have hPc := hP.sub (ws' := [(rb, .inr (1, [.int (iI 262144), .ref q, .int (iI ((out.length : Nat) : Int))])), (q, .inl (E.2.1 0, cap, .inl f))]) [1, 2] rfl
      have hDc := hD.sub (ws' := [(rb, .inr (1, [.int (iI 262144), .ref q, .int (iI ((out.length : Nat) : Int))])), (q, .inl (E.2.1 0, cap, .inl f))]) [1, 2] (by decide) rfl
      have hFc := va_free (wc := [(rb, .inr (1, [.int (iI 262144), .ref q, .int (iI ((out.length : Nat) : Int))])), (q, .inl (E.2.1 0, cap, .inl f))]) hD hS hA [1, 2] rfl
      refine zcW (va_runV (As := [.int (iI (960 + (((t : Nat) : Int) / 2 ^ 6)))]) (rest := []) S (c_Row_add l E H.size rb q cap (192 + t / 64) 262144 f out (iI (960 + (((t : Nat) : Int) / 2 ^ 6))) hw0 (by omega) hB0 (by omega) (by omega) (sp_capok_r hc0).1 (sp_capok_r hc0).2.1 hF0) ⟨zcwB (n := 1) S zw_353 zw_2 zw_684 (by decide +kernel) rfl rfl ⟨Nat.le_of_ble_eq_true rfl, Nat.le_of_ble_eq_true rfl⟩, S.2.2.2.2 _ zw_351, S.2.2.2.2 _ zw_352⟩ (zPreV hE (hP 1 _ rfl) rfl ⟨rfl, hPc, hDc.weaken (fun _ _ _ h => hA0 _ h), trivial⟩) rfl rfl hl.1 rfl (lv_room (Nat.le_of_ble_eq_true rfl)) d_Output_put_98 ⟨by (try dsimp only); omega, by (try dsimp only); omega⟩) hS (fun q _ h => hFc q h) hFc (fun v H locs hq hz1 hk1 hS => ?_)
      obtain ⟨rfl, q0, f0, hP1, hD1, hB1, hF1⟩ := hq
      obtain ⟨hP, hD⟩ := va_join (wr := [(h, .inr (6, [.ref en, .ref ca, .ref rb, .ref (E.2.2.1 (mode + 1)), .ref (E.2.2.1 1), .int (iI (bN false))]))]) (w1 := [(rb, .inr (1, [.int (iI 262144), .ref q0, .int (iI (((out ++ [192 + t / 64]).length : Nat) : Int))])), (q0, .inl (E.2.1 0, sp_grow cap out.length, .inl f0))]) hP hD [1, 2] [0] rfl rfl (by decide) (by decide) hk1 hFc hP1 hD1
      have hP : va_P E.1 zcl [(h, .inr (6, [.ref en, .ref ca, .ref rb, .ref (E.2.2.1 (mode + 1)), .ref (E.2.2.1 1), .int (iI (bN false))])), (rb, .inr (1, [.int (iI 262144), .ref q0, .int (iI (((out ++ [192 + t / 64]).length : Nat) : Int))])), (q0, .inl (E.2.1 0, sp_grow cap out.length, .inl f0))] H := hP
      have hD : va_D A [(h, .inr (6, [.ref en, .ref ca, .ref rb, .ref (E.2.2.1 (mode + 1)), .ref (E.2.2.1 1), .int (iI (bN false))])), (rb, .inr (1, [.int (iI 262144), .ref q0, .int (iI (((out ++ [192 + t / 64]).length : Nat) : Int))])), (q0, .inl (E.2.1 0, sp_grow cap out.length, .inl f0))] := hD
      have hE := hE0.at hS hA0
      obtain ⟨cap0, ec0⟩ : ∃ x, x = sp_grow cap out.length := ⟨_, rfl⟩
      rw [← ec0] at hg0 hc1 hB1 hF1 hP hD
      rw [← ec0]
      refine W.widen (k := (cap0 - cap) / 16) (n := 2 * (cap0 - cap)) (by omega) (by omega) ?_
      refine lv_iload_n hx hb d_Output_put_101 rfl (lv_at hl 0 rfl) ?_
      refine zi_iconst hx hb d_Output_put_102 ?_
      refine zi_isub hx hb d_Output_put_103 ?_
      refine W.eq (g2 := F0 m 104 ls ([.int (iI 0)])) rfl ?_
      refine lv_istore (lv' := [(4, .int (iI 0)), (3, .int (iI 2)), (2, .int (iI ((t : Nat) : Int))), (0, .ref h), (1, .int (iI ((c0 : Nat) : Int)))]) hx hb d_Output_put_104 hl (by decide) rfl (fun ls hl => ?_)
      refine lv_iload hx hb d_Output_put_106 (lv_at hl 0 rfl) ?_
      refine zi_if_lt hx hb d_Output_put_108 rfl (by omega) (fun h108 => absurd h108 (by omega)) (fun h108 => ?_)
      refine lv_aload_n hx hb d_Output_put_111 rfl (lv_at hl 3 rfl) ?_
      refine zgf S hE (ci := 6) rfl i_Output (hP 0 _ rfl) 2 (by decide) zw_156 rfl d_Output_put_112 ?_
      refine zi_sipush hx hb d_Output_put_115 (by decide) ?_
      refine lv_iload_n hx hb d_Output_put_118 rfl (lv_at hl 2 rfl) ?_
      refine zi_bipush hx hb d_Output_put_119 (by decide) ?_
      refine lv_iload hx hb d_Output_put_121 (lv_at hl 0 rfl) ?_
      refine zi_imul hx hb d_Output_put_123 ?_
      refine W.eq (g2 := F0 m 124 ls ([.int (iI 0), .int (iI ((t : Nat) : Int)), .int (iI 128), .ref rb])) rfl ?_
      refine zi_ishr hx hb d_Output_put_124 (iI_shrN 0 0 (by omega) (by omega) (by decide)) ?_
      refine zi_bipush hx hb d_Output_put_125 (by decide) ?_
      refine zi_iand hx hb d_Output_put_127 (iI_mask 6 63 64 (by omega) (by decide) (by decide)) ?_
      refine zi_ior hx hb d_Output_put_128 (iI_orK 128 7 1 (by decide) (by omega) (by omega)) ?_
      have hw1 : (iI (128 + ((((t : Nat) : Int) / 2 ^ 0) % 64))).toInt8.toInt32 = sb_b (128 + t % 64) := sb_of (by omega) (by omega)
      have hn1 : (out ++ [192 + t / 64]).length = out.length + 1 := by simp
      have hl1 : (out ++ [192 + t / 64]).length ≤ cap0 := hB1.1
      have hg1 := sp_grow_up hc1 hl1 (by omega)
      have hm1 : sp_up ((out ++ [192 + t / 64]).length + 1) ≤ sp_up (out.length + 2) := sp_up_mono (by omega)
      have hc2 : sp_capok (sp_grow cap0 (out ++ [192 + t / 64]).length) := by rw [hg1]; exact sp_capok_max hc1 (sp_up_ok _)
      have hPc := hP.sub (ws' := [(rb, .inr (1, [.int (iI 262144), .ref q0, .int (iI (((out ++ [192 + t / 64]).length : Nat) : Int))])), (q0, .inl (E.2.1 0, cap0, .inl f0))]) [1, 2] rfl
      have hDc := hD.sub (ws' := [(rb, .inr (1, [.int (iI 262144), .ref q0, .int (iI (((out ++ [192 + t / 64]).length : Nat) : Int))])), (q0, .inl (E.2.1 0, cap0, .inl f0))]) [1, 2] (by decide) rfl
      have hFc := va_free (wc := [(rb, .inr (1, [.int (iI 262144), .ref q0, .int (iI (((out ++ [192 + t / 64]).length : Nat) : Int))])), (q0, .inl (E.2.1 0, cap0, .inl f0))]) hD hS hA [1, 2] rfl
      refine zcW (va_runV (As := [.int (iI (128 + ((((t : Nat) : Int) / 2 ^ 0) % 64)))]) (rest := []) S (c_Row_add l E H.size rb q0 cap0 (128 + t % 64) 262144 f0 (out ++ [192 + t / 64]) (iI (128 + ((((t : Nat) : Int) / 2 ^ 0) % 64))) hw1 (by omega) hB1 (by omega) (by omega) (sp_capok_r hc1).1 (sp_capok_r hc1).2.1 hF1) ⟨zcwB (n := 1) S zw_353 zw_2 zw_684 (by decide +kernel) rfl rfl ⟨Nat.le_of_ble_eq_true rfl, Nat.le_of_ble_eq_true rfl⟩, S.2.2.2.2 _ zw_351, S.2.2.2.2 _ zw_352⟩ (zPreV hE (hP 1 _ rfl) rfl ⟨rfl, hPc, hDc.weaken (fun _ _ _ h => hA0 _ h), trivial⟩) rfl rfl hl.1 rfl (lv_room (Nat.le_of_ble_eq_true rfl)) d_Output_put_129 ⟨by (try dsimp only); omega, by (try dsimp only); omega⟩) hS (fun q _ h => hFc q h) hFc (fun v H locs hq hz1 hk1 hS => ?_)
      obtain ⟨rfl, q1, f1, hP1, hD1, hB2, hF2⟩ := hq
      obtain ⟨hP, hD⟩ := va_join (wr := [(h, .inr (6, [.ref en, .ref ca, .ref rb, .ref (E.2.2.1 (mode + 1)), .ref (E.2.2.1 1), .int (iI (bN false))]))]) (w1 := [(rb, .inr (1, [.int (iI 262144), .ref q1, .int (iI ((((out ++ [192 + t / 64]) ++ [128 + t % 64]).length : Nat) : Int))])), (q1, .inl (E.2.1 0, sp_grow cap0 (out ++ [192 + t / 64]).length, .inl f1))]) hP hD [1, 2] [0] rfl rfl (by decide) (by decide) hk1 hFc hP1 hD1
      have hP : va_P E.1 zcl [(h, .inr (6, [.ref en, .ref ca, .ref rb, .ref (E.2.2.1 (mode + 1)), .ref (E.2.2.1 1), .int (iI (bN false))])), (rb, .inr (1, [.int (iI 262144), .ref q1, .int (iI ((((out ++ [192 + t / 64]) ++ [128 + t % 64]).length : Nat) : Int))])), (q1, .inl (E.2.1 0, sp_grow cap0 (out ++ [192 + t / 64]).length, .inl f1))] H := hP
      have hD : va_D A [(h, .inr (6, [.ref en, .ref ca, .ref rb, .ref (E.2.2.1 (mode + 1)), .ref (E.2.2.1 1), .int (iI (bN false))])), (rb, .inr (1, [.int (iI 262144), .ref q1, .int (iI ((((out ++ [192 + t / 64]) ++ [128 + t % 64]).length : Nat) : Int))])), (q1, .inl (E.2.1 0, sp_grow cap0 (out ++ [192 + t / 64]).length, .inl f1))] := hD
      have hE := hE0.at hS hA0
      obtain ⟨cap1, ec1⟩ : ∃ x, x = sp_grow cap0 (out ++ [192 + t / 64]).length := ⟨_, rfl⟩
      rw [← ec1] at hg1 hc2 hB2 hF2 hP hD
      rw [← ec1]
      refine W.widen (k := (cap1 - cap) / 16) (n := 2 * (cap1 - cap)) (by omega) (by omega) ?_
      refine lv_iinc (k := 0) (v := (iI (-1))) (lv' := [(4, .int (iI (-1))), (3, .int (iI 2)), (2, .int (iI ((t : Nat) : Int))), (0, .ref h), (1, .int (iI ((c0 : Nat) : Int)))]) hx hb d_Output_put_132 hl rfl (by decide) (by decide) rfl (fun ls hl => ?_)
      refine lv_goto hx hb d_Output_put_135 rfl ?_
      refine lv_iload hx hb d_Output_put_106 (lv_at hl 0 rfl) ?_
      refine zi_if_lt hx hb d_Output_put_108 rfl (by omega) (fun h108 => ?_) (fun h108 => absurd h108 (by omega))
      have hfin : (out ++ [192 + t / 64]) ++ [128 + t % 64] = out ++ sp_enc utf t := by simp [henc]
      have hlast : sp_up (out.length + 1 + 1) = sp_up (out.length + 2) := rfl
      have hcf : cap1 = capF := by rw [hn1] at hg1 hm1; omega
      have hP9 := hP.sub (ws' := [(h, .inr (6, [.ref en, .ref ca, .ref rb, .ref (E.2.2.1 (mode + 1)), .ref (E.2.2.1 1), .int (iI (bN false))])), (rb, .inr (1, [.int (iI 262144), .ref q1, .int (iI ((((out ++ [192 + t / 64]) ++ [128 + t % 64]).length : Nat) : Int))])), (q1, .inl (E.2.1 0, cap1, .inl f1))]) [0, 1, 2] rfl
      have hD9 := hD.sub (ws' := [(h, .inr (6, [.ref en, .ref ca, .ref rb, .ref (E.2.2.1 (mode + 1)), .ref (E.2.2.1 1), .int (iI (bN false))])), (rb, .inr (1, [.int (iI 262144), .ref q1, .int (iI ((((out ++ [192 + t / 64]) ++ [128 + t % 64]).length : Nat) : Int))])), (q1, .inl (E.2.1 0, cap1, .inl f1))]) [0, 1, 2] (by decide) rfl
      rw [hfin] at hP9 hD9 hB2
      rw [hcf] at hP9 hD9 hB2 hF2
      rw [hcf]
      exact zwv S hr hlk hS (⟨rfl, q1, f1, hP9, hD9, hB2, hF2⟩) (by (try dsimp only); omega) (by (try dsimp only); omega) d_Output_put_138
    · rw [e4] at hl
      have hl : lv_has ls 5 [(3, .int (iI 3)), (2, .int (iI ((t : Nat) : Int))), (0, .ref h), (1, .int (iI ((c0 : Nat) : Int)))] := hl
      have hr4 : ¬ (utf = false ∨ t < 128) ∧ ¬ t < 2048 ∧ t < 65536 := by unfold sp_len at e4; split at e4; omega; split at e4; omega; split at e4; exact ⟨by assumption, by assumption, by assumption⟩; omega
      have henc : sp_enc utf t = [224 + t / 4096, 128 + t / 64 % 64, 128 + t % 64] := by unfold sp_enc; rw [if_neg hr4.1, if_neg hr4.2.1, if_pos hr4.2.2]
      have hcapF : capF = max cap (sp_up (out.length + 3)) := by rw [hcapF0, List.length_append, sp_enc_len, e4]
      have hB0 := hB
      have hF0 := hF
      have hc0 := hc
      refine lv_iload_n hx hb d_Output_put_66 rfl (lv_at hl 0 rfl) ?_
      refine zi_iconst hx hb d_Output_put_67 ?_
      refine zi_icmp_ne hx hb d_Output_put_68 rfl (by omega) (by omega) (fun h68 => ?_) (fun h => absurd h (by omega))
      refine lv_aload_n hx hb d_Output_put_80 rfl (lv_at hl 2 rfl) ?_
      refine zgf S hE (ci := 6) rfl i_Output (hP 0 _ rfl) 2 (by decide) zw_156 rfl d_Output_put_81 ?_
      refine zi_sipush hx hb d_Output_put_84 (by decide) ?_
      refine lv_iload_n hx hb d_Output_put_87 rfl (lv_at hl 0 rfl) ?_
      refine zi_ishr (r := 480) hx hb d_Output_put_88 (by decide) ?_
      refine lv_iload_n hx hb d_Output_put_89 rfl (lv_at hl 1 rfl) ?_
      refine zi_bipush hx hb d_Output_put_90 (by decide) ?_
      refine lv_iload_n hx hb d_Output_put_92 rfl (lv_at hl 0 rfl) ?_
      refine zi_iconst hx hb d_Output_put_93 ?_
      refine zi_isub hx hb d_Output_put_94 ?_
      refine W.eq (g2 := F0 m 95 ls ([.int (iI 2), .int (iI 6), .int (iI ((t : Nat) : Int)), .int (iI 480), .ref rb])) rfl ?_
      refine zi_imul hx hb d_Output_put_95 ?_
      refine W.eq (g2 := F0 m 96 ls ([.int (iI 12), .int (iI ((t : Nat) : Int)), .int (iI 480), .ref rb])) rfl ?_
      refine zi_ishr hx hb d_Output_put_96 (iI_shrN 12 12 (by omega) (by omega) (by decide)) ?_
      refine zi_ior hx hb d_Output_put_97 (iI_orK 480 5 15 (by decide) (by omega) (by omega)) ?_
      have hw0 : (iI (480 + (((t : Nat) : Int) / 2 ^ 12))).toInt8.toInt32 = sb_b (224 + t / 4096) := sb_of (by omega) (by omega)
      have hn0 : (out).length = out.length + 0 := by simp
      have hl0 : (out).length ≤ cap := hB0.1
      have hg0 := sp_grow_up hc0 hl0 (by omega)
      have hm0 : sp_up ((out).length + 1) ≤ sp_up (out.length + 3) := sp_up_mono (by omega)
      have hc1 : sp_capok (sp_grow cap out.length) := by rw [hg0]; exact sp_capok_max hc0 (sp_up_ok _)
      have hPc := hP.sub (ws' := [(rb, .inr (1, [.int (iI 262144), .ref q, .int (iI ((out.length : Nat) : Int))])), (q, .inl (E.2.1 0, cap, .inl f))]) [1, 2] rfl
      have hDc := hD.sub (ws' := [(rb, .inr (1, [.int (iI 262144), .ref q, .int (iI ((out.length : Nat) : Int))])), (q, .inl (E.2.1 0, cap, .inl f))]) [1, 2] (by decide) rfl
      have hFc := va_free (wc := [(rb, .inr (1, [.int (iI 262144), .ref q, .int (iI ((out.length : Nat) : Int))])), (q, .inl (E.2.1 0, cap, .inl f))]) hD hS hA [1, 2] rfl
      refine zcW (va_runV (As := [.int (iI (480 + (((t : Nat) : Int) / 2 ^ 12)))]) (rest := []) S (c_Row_add l E H.size rb q cap (224 + t / 4096) 262144 f out (iI (480 + (((t : Nat) : Int) / 2 ^ 12))) hw0 (by omega) hB0 (by omega) (by omega) (sp_capok_r hc0).1 (sp_capok_r hc0).2.1 hF0) ⟨zcwB (n := 1) S zw_353 zw_2 zw_684 (by decide +kernel) rfl rfl ⟨Nat.le_of_ble_eq_true rfl, Nat.le_of_ble_eq_true rfl⟩, S.2.2.2.2 _ zw_351, S.2.2.2.2 _ zw_352⟩ (zPreV hE (hP 1 _ rfl) rfl ⟨rfl, hPc, hDc.weaken (fun _ _ _ h => hA0 _ h), trivial⟩) rfl rfl hl.1 rfl (lv_room (Nat.le_of_ble_eq_true rfl)) d_Output_put_98 ⟨by (try dsimp only); omega, by (try dsimp only); omega⟩) hS (fun q _ h => hFc q h) hFc (fun v H locs hq hz1 hk1 hS => ?_)
      obtain ⟨rfl, q0, f0, hP1, hD1, hB1, hF1⟩ := hq
      obtain ⟨hP, hD⟩ := va_join (wr := [(h, .inr (6, [.ref en, .ref ca, .ref rb, .ref (E.2.2.1 (mode + 1)), .ref (E.2.2.1 1), .int (iI (bN false))]))]) (w1 := [(rb, .inr (1, [.int (iI 262144), .ref q0, .int (iI (((out ++ [224 + t / 4096]).length : Nat) : Int))])), (q0, .inl (E.2.1 0, sp_grow cap out.length, .inl f0))]) hP hD [1, 2] [0] rfl rfl (by decide) (by decide) hk1 hFc hP1 hD1
      have hP : va_P E.1 zcl [(h, .inr (6, [.ref en, .ref ca, .ref rb, .ref (E.2.2.1 (mode + 1)), .ref (E.2.2.1 1), .int (iI (bN false))])), (rb, .inr (1, [.int (iI 262144), .ref q0, .int (iI (((out ++ [224 + t / 4096]).length : Nat) : Int))])), (q0, .inl (E.2.1 0, sp_grow cap out.length, .inl f0))] H := hP
      have hD : va_D A [(h, .inr (6, [.ref en, .ref ca, .ref rb, .ref (E.2.2.1 (mode + 1)), .ref (E.2.2.1 1), .int (iI (bN false))])), (rb, .inr (1, [.int (iI 262144), .ref q0, .int (iI (((out ++ [224 + t / 4096]).length : Nat) : Int))])), (q0, .inl (E.2.1 0, sp_grow cap out.length, .inl f0))] := hD
      have hE := hE0.at hS hA0
      obtain ⟨cap0, ec0⟩ : ∃ x, x = sp_grow cap out.length := ⟨_, rfl⟩
      rw [← ec0] at hg0 hc1 hB1 hF1 hP hD
      rw [← ec0]
      refine W.widen (k := (cap0 - cap) / 16) (n := 2 * (cap0 - cap)) (by omega) (by omega) ?_
      refine lv_iload_n hx hb d_Output_put_101 rfl (lv_at hl 0 rfl) ?_
      refine zi_iconst hx hb d_Output_put_102 ?_
      refine zi_isub hx hb d_Output_put_103 ?_
      refine W.eq (g2 := F0 m 104 ls ([.int (iI 1)])) rfl ?_
      refine lv_istore (lv' := [(4, .int (iI 1)), (3, .int (iI 3)), (2, .int (iI ((t : Nat) : Int))), (0, .ref h), (1, .int (iI ((c0 : Nat) : Int)))]) hx hb d_Output_put_104 hl (by decide) rfl (fun ls hl => ?_)
      refine lv_iload hx hb d_Output_put_106 (lv_at hl 0 rfl) ?_
      refine zi_if_lt hx hb d_Output_put_108 rfl (by omega) (fun h108 => absurd h108 (by omega)) (fun h108 => ?_)
      refine lv_aload_n hx hb d_Output_put_111 rfl (lv_at hl 3 rfl) ?_
      refine zgf S hE (ci := 6) rfl i_Output (hP 0 _ rfl) 2 (by decide) zw_156 rfl d_Output_put_112 ?_
      refine zi_sipush hx hb d_Output_put_115 (by decide) ?_
      refine lv_iload_n hx hb d_Output_put_118 rfl (lv_at hl 2 rfl) ?_
      refine zi_bipush hx hb d_Output_put_119 (by decide) ?_
      refine lv_iload hx hb d_Output_put_121 (lv_at hl 0 rfl) ?_
      refine zi_imul hx hb d_Output_put_123 ?_
      refine W.eq (g2 := F0 m 124 ls ([.int (iI 6), .int (iI ((t : Nat) : Int)), .int (iI 128), .ref rb])) rfl ?_
      refine zi_ishr hx hb d_Output_put_124 (iI_shrN 6 6 (by omega) (by omega) (by decide)) ?_
      refine zi_bipush hx hb d_Output_put_125 (by decide) ?_
      refine zi_iand hx hb d_Output_put_127 (iI_mask 6 63 64 (by omega) (by decide) (by decide)) ?_
      refine zi_ior hx hb d_Output_put_128 (iI_orK 128 7 1 (by decide) (by omega) (by omega)) ?_
      have hw1 : (iI (128 + ((((t : Nat) : Int) / 2 ^ 6) % 64))).toInt8.toInt32 = sb_b (128 + t / 64 % 64) := sb_of (by omega) (by omega)
      have hn1 : (out ++ [224 + t / 4096]).length = out.length + 1 := by simp
      have hl1 : (out ++ [224 + t / 4096]).length ≤ cap0 := hB1.1
      have hg1 := sp_grow_up hc1 hl1 (by omega)
      have hm1 : sp_up ((out ++ [224 + t / 4096]).length + 1) ≤ sp_up (out.length + 3) := sp_up_mono (by omega)
      have hc2 : sp_capok (sp_grow cap0 (out ++ [224 + t / 4096]).length) := by rw [hg1]; exact sp_capok_max hc1 (sp_up_ok _)
      have hPc := hP.sub (ws' := [(rb, .inr (1, [.int (iI 262144), .ref q0, .int (iI (((out ++ [224 + t / 4096]).length : Nat) : Int))])), (q0, .inl (E.2.1 0, cap0, .inl f0))]) [1, 2] rfl
      have hDc := hD.sub (ws' := [(rb, .inr (1, [.int (iI 262144), .ref q0, .int (iI (((out ++ [224 + t / 4096]).length : Nat) : Int))])), (q0, .inl (E.2.1 0, cap0, .inl f0))]) [1, 2] (by decide) rfl
      have hFc := va_free (wc := [(rb, .inr (1, [.int (iI 262144), .ref q0, .int (iI (((out ++ [224 + t / 4096]).length : Nat) : Int))])), (q0, .inl (E.2.1 0, cap0, .inl f0))]) hD hS hA [1, 2] rfl
      refine zcW (va_runV (As := [.int (iI (128 + ((((t : Nat) : Int) / 2 ^ 6) % 64)))]) (rest := []) S (c_Row_add l E H.size rb q0 cap0 (128 + t / 64 % 64) 262144 f0 (out ++ [224 + t / 4096]) (iI (128 + ((((t : Nat) : Int) / 2 ^ 6) % 64))) hw1 (by omega) hB1 (by omega) (by omega) (sp_capok_r hc1).1 (sp_capok_r hc1).2.1 hF1) ⟨zcwB (n := 1) S zw_353 zw_2 zw_684 (by decide +kernel) rfl rfl ⟨Nat.le_of_ble_eq_true rfl, Nat.le_of_ble_eq_true rfl⟩, S.2.2.2.2 _ zw_351, S.2.2.2.2 _ zw_352⟩ (zPreV hE (hP 1 _ rfl) rfl ⟨rfl, hPc, hDc.weaken (fun _ _ _ h => hA0 _ h), trivial⟩) rfl rfl hl.1 rfl (lv_room (Nat.le_of_ble_eq_true rfl)) d_Output_put_129 ⟨by (try dsimp only); omega, by (try dsimp only); omega⟩) hS (fun q _ h => hFc q h) hFc (fun v H locs hq hz1 hk1 hS => ?_)
      obtain ⟨rfl, q1, f1, hP1, hD1, hB2, hF2⟩ := hq
      obtain ⟨hP, hD⟩ := va_join (wr := [(h, .inr (6, [.ref en, .ref ca, .ref rb, .ref (E.2.2.1 (mode + 1)), .ref (E.2.2.1 1), .int (iI (bN false))]))]) (w1 := [(rb, .inr (1, [.int (iI 262144), .ref q1, .int (iI ((((out ++ [224 + t / 4096]) ++ [128 + t / 64 % 64]).length : Nat) : Int))])), (q1, .inl (E.2.1 0, sp_grow cap0 (out ++ [224 + t / 4096]).length, .inl f1))]) hP hD [1, 2] [0] rfl rfl (by decide) (by decide) hk1 hFc hP1 hD1
      have hP : va_P E.1 zcl [(h, .inr (6, [.ref en, .ref ca, .ref rb, .ref (E.2.2.1 (mode + 1)), .ref (E.2.2.1 1), .int (iI (bN false))])), (rb, .inr (1, [.int (iI 262144), .ref q1, .int (iI ((((out ++ [224 + t / 4096]) ++ [128 + t / 64 % 64]).length : Nat) : Int))])), (q1, .inl (E.2.1 0, sp_grow cap0 (out ++ [224 + t / 4096]).length, .inl f1))] H := hP
      have hD : va_D A [(h, .inr (6, [.ref en, .ref ca, .ref rb, .ref (E.2.2.1 (mode + 1)), .ref (E.2.2.1 1), .int (iI (bN false))])), (rb, .inr (1, [.int (iI 262144), .ref q1, .int (iI ((((out ++ [224 + t / 4096]) ++ [128 + t / 64 % 64]).length : Nat) : Int))])), (q1, .inl (E.2.1 0, sp_grow cap0 (out ++ [224 + t / 4096]).length, .inl f1))] := hD
      have hE := hE0.at hS hA0
      obtain ⟨cap1, ec1⟩ : ∃ x, x = sp_grow cap0 (out ++ [224 + t / 4096]).length := ⟨_, rfl⟩
      rw [← ec1] at hg1 hc2 hB2 hF2 hP hD
      rw [← ec1]
      refine W.widen (k := (cap1 - cap) / 16) (n := 2 * (cap1 - cap)) (by omega) (by omega) ?_
      refine lv_iinc (k := 0) (v := (iI 0)) (lv' := [(4, .int (iI 0)), (3, .int (iI 3)), (2, .int (iI ((t : Nat) : Int))), (0, .ref h), (1, .int (iI ((c0 : Nat) : Int)))]) hx hb d_Output_put_132 hl rfl (by decide) (by decide) rfl (fun ls hl => ?_)
      refine lv_goto hx hb d_Output_put_135 rfl ?_
      refine lv_iload hx hb d_Output_put_106 (lv_at hl 0 rfl) ?_
      refine zi_if_lt hx hb d_Output_put_108 rfl (by omega) (fun h108 => absurd h108 (by omega)) (fun h108 => ?_)
      refine lv_aload_n hx hb d_Output_put_111 rfl (lv_at hl 3 rfl) ?_
      refine zgf S hE (ci := 6) rfl i_Output (hP 0 _ rfl) 2 (by decide) zw_156 rfl d_Output_put_112 ?_
      refine zi_sipush hx hb d_Output_put_115 (by decide) ?_
      refine lv_iload_n hx hb d_Output_put_118 rfl (lv_at hl 2 rfl) ?_
      refine zi_bipush hx hb d_Output_put_119 (by decide) ?_
      refine lv_iload hx hb d_Output_put_121 (lv_at hl 0 rfl) ?_
      refine zi_imul hx hb d_Output_put_123 ?_
      refine W.eq (g2 := F0 m 124 ls ([.int (iI 0), .int (iI ((t : Nat) : Int)), .int (iI 128), .ref rb])) rfl ?_
      refine zi_ishr hx hb d_Output_put_124 (iI_shrN 0 0 (by omega) (by omega) (by decide)) ?_
      refine zi_bipush hx hb d_Output_put_125 (by decide) ?_
      refine zi_iand hx hb d_Output_put_127 (iI_mask 6 63 64 (by omega) (by decide) (by decide)) ?_
      refine zi_ior hx hb d_Output_put_128 (iI_orK 128 7 1 (by decide) (by omega) (by omega)) ?_
      have hw2 : (iI (128 + ((((t : Nat) : Int) / 2 ^ 0) % 64))).toInt8.toInt32 = sb_b (128 + t % 64) := sb_of (by omega) (by omega)
      have hn2 : ((out ++ [224 + t / 4096]) ++ [128 + t / 64 % 64]).length = out.length + 2 := by simp
      have hl2 : ((out ++ [224 + t / 4096]) ++ [128 + t / 64 % 64]).length ≤ cap1 := hB2.1
      have hg2 := sp_grow_up hc2 hl2 (by omega)
      have hm2 : sp_up (((out ++ [224 + t / 4096]) ++ [128 + t / 64 % 64]).length + 1) ≤ sp_up (out.length + 3) := sp_up_mono (by omega)
      have hc3 : sp_capok (sp_grow cap1 ((out ++ [224 + t / 4096]) ++ [128 + t / 64 % 64]).length) := by rw [hg2]; exact sp_capok_max hc2 (sp_up_ok _)
      have hPc := hP.sub (ws' := [(rb, .inr (1, [.int (iI 262144), .ref q1, .int (iI ((((out ++ [224 + t / 4096]) ++ [128 + t / 64 % 64]).length : Nat) : Int))])), (q1, .inl (E.2.1 0, cap1, .inl f1))]) [1, 2] rfl
      have hDc := hD.sub (ws' := [(rb, .inr (1, [.int (iI 262144), .ref q1, .int (iI ((((out ++ [224 + t / 4096]) ++ [128 + t / 64 % 64]).length : Nat) : Int))])), (q1, .inl (E.2.1 0, cap1, .inl f1))]) [1, 2] (by decide) rfl
      have hFc := va_free (wc := [(rb, .inr (1, [.int (iI 262144), .ref q1, .int (iI ((((out ++ [224 + t / 4096]) ++ [128 + t / 64 % 64]).length : Nat) : Int))])), (q1, .inl (E.2.1 0, cap1, .inl f1))]) hD hS hA [1, 2] rfl
      refine zcW (va_runV (As := [.int (iI (128 + ((((t : Nat) : Int) / 2 ^ 0) % 64)))]) (rest := []) S (c_Row_add l E H.size rb q1 cap1 (128 + t % 64) 262144 f1 ((out ++ [224 + t / 4096]) ++ [128 + t / 64 % 64]) (iI (128 + ((((t : Nat) : Int) / 2 ^ 0) % 64))) hw2 (by omega) hB2 (by omega) (by omega) (sp_capok_r hc2).1 (sp_capok_r hc2).2.1 hF2) ⟨zcwB (n := 1) S zw_353 zw_2 zw_684 (by decide +kernel) rfl rfl ⟨Nat.le_of_ble_eq_true rfl, Nat.le_of_ble_eq_true rfl⟩, S.2.2.2.2 _ zw_351, S.2.2.2.2 _ zw_352⟩ (zPreV hE (hP 1 _ rfl) rfl ⟨rfl, hPc, hDc.weaken (fun _ _ _ h => hA0 _ h), trivial⟩) rfl rfl hl.1 rfl (lv_room (Nat.le_of_ble_eq_true rfl)) d_Output_put_129 ⟨by (try dsimp only); omega, by (try dsimp only); omega⟩) hS (fun q _ h => hFc q h) hFc (fun v H locs hq hz1 hk1 hS => ?_)
      obtain ⟨rfl, q2, f2, hP1, hD1, hB3, hF3⟩ := hq
      obtain ⟨hP, hD⟩ := va_join (wr := [(h, .inr (6, [.ref en, .ref ca, .ref rb, .ref (E.2.2.1 (mode + 1)), .ref (E.2.2.1 1), .int (iI (bN false))]))]) (w1 := [(rb, .inr (1, [.int (iI 262144), .ref q2, .int (iI (((((out ++ [224 + t / 4096]) ++ [128 + t / 64 % 64]) ++ [128 + t % 64]).length : Nat) : Int))])), (q2, .inl (E.2.1 0, sp_grow cap1 ((out ++ [224 + t / 4096]) ++ [128 + t / 64 % 64]).length, .inl f2))]) hP hD [1, 2] [0] rfl rfl (by decide) (by decide) hk1 hFc hP1 hD1
      have hP : va_P E.1 zcl [(h, .inr (6, [.ref en, .ref ca, .ref rb, .ref (E.2.2.1 (mode + 1)), .ref (E.2.2.1 1), .int (iI (bN false))])), (rb, .inr (1, [.int (iI 262144), .ref q2, .int (iI (((((out ++ [224 + t / 4096]) ++ [128 + t / 64 % 64]) ++ [128 + t % 64]).length : Nat) : Int))])), (q2, .inl (E.2.1 0, sp_grow cap1 ((out ++ [224 + t / 4096]) ++ [128 + t / 64 % 64]).length, .inl f2))] H := hP
      have hD : va_D A [(h, .inr (6, [.ref en, .ref ca, .ref rb, .ref (E.2.2.1 (mode + 1)), .ref (E.2.2.1 1), .int (iI (bN false))])), (rb, .inr (1, [.int (iI 262144), .ref q2, .int (iI (((((out ++ [224 + t / 4096]) ++ [128 + t / 64 % 64]) ++ [128 + t % 64]).length : Nat) : Int))])), (q2, .inl (E.2.1 0, sp_grow cap1 ((out ++ [224 + t / 4096]) ++ [128 + t / 64 % 64]).length, .inl f2))] := hD
      have hE := hE0.at hS hA0
      obtain ⟨cap2, ec2⟩ : ∃ x, x = sp_grow cap1 ((out ++ [224 + t / 4096]) ++ [128 + t / 64 % 64]).length := ⟨_, rfl⟩
      rw [← ec2] at hg2 hc3 hB3 hF3 hP hD
      rw [← ec2]
      refine W.widen (k := (cap2 - cap) / 16) (n := 2 * (cap2 - cap)) (by omega) (by omega) ?_
      refine lv_iinc (k := 0) (v := (iI (-1))) (lv' := [(4, .int (iI (-1))), (3, .int (iI 3)), (2, .int (iI ((t : Nat) : Int))), (0, .ref h), (1, .int (iI ((c0 : Nat) : Int)))]) hx hb d_Output_put_132 hl rfl (by decide) (by decide) rfl (fun ls hl => ?_)
      refine lv_goto hx hb d_Output_put_135 rfl ?_
      refine lv_iload hx hb d_Output_put_106 (lv_at hl 0 rfl) ?_
      refine zi_if_lt hx hb d_Output_put_108 rfl (by omega) (fun h108 => ?_) (fun h108 => absurd h108 (by omega))
      have hfin : ((out ++ [224 + t / 4096]) ++ [128 + t / 64 % 64]) ++ [128 + t % 64] = out ++ sp_enc utf t := by simp [henc]
      have hlast : sp_up (out.length + 2 + 1) = sp_up (out.length + 3) := rfl
      have hcf : cap2 = capF := by rw [hn2] at hg2 hm2; omega
      have hP9 := hP.sub (ws' := [(h, .inr (6, [.ref en, .ref ca, .ref rb, .ref (E.2.2.1 (mode + 1)), .ref (E.2.2.1 1), .int (iI (bN false))])), (rb, .inr (1, [.int (iI 262144), .ref q2, .int (iI (((((out ++ [224 + t / 4096]) ++ [128 + t / 64 % 64]) ++ [128 + t % 64]).length : Nat) : Int))])), (q2, .inl (E.2.1 0, cap2, .inl f2))]) [0, 1, 2] rfl
      have hD9 := hD.sub (ws' := [(h, .inr (6, [.ref en, .ref ca, .ref rb, .ref (E.2.2.1 (mode + 1)), .ref (E.2.2.1 1), .int (iI (bN false))])), (rb, .inr (1, [.int (iI 262144), .ref q2, .int (iI (((((out ++ [224 + t / 4096]) ++ [128 + t / 64 % 64]) ++ [128 + t % 64]).length : Nat) : Int))])), (q2, .inl (E.2.1 0, cap2, .inl f2))]) [0, 1, 2] (by decide) rfl
      rw [hfin] at hP9 hD9 hB3
      rw [hcf] at hP9 hD9 hB3 hF3
      rw [hcf]
      exact zwv S hr hlk hS (⟨rfl, q2, f2, hP9, hD9, hB3, hF3⟩) (by (try dsimp only); omega) (by (try dsimp only); omega) d_Output_put_138
    · rw [e4] at hl
      have hl : lv_has ls 5 [(3, .int (iI 4)), (2, .int (iI ((t : Nat) : Int))), (0, .ref h), (1, .int (iI ((c0 : Nat) : Int)))] := hl
      have hr4 : ¬ (utf = false ∨ t < 128) ∧ ¬ t < 2048 ∧ ¬ t < 65536 := by unfold sp_len at e4; split at e4; omega; split at e4; omega; split at e4; omega; exact ⟨by assumption, by assumption, by assumption⟩
      have henc : sp_enc utf t = [240 + t / 262144, 128 + t / 4096 % 64, 128 + t / 64 % 64, 128 + t % 64] := by unfold sp_enc; rw [if_neg hr4.1, if_neg hr4.2.1, if_neg hr4.2.2]
      have hcapF : capF = max cap (sp_up (out.length + 4)) := by rw [hcapF0, List.length_append, sp_enc_len, e4]
      have hB0 := hB
      have hF0 := hF
      have hc0 := hc
      refine lv_iload_n hx hb d_Output_put_66 rfl (lv_at hl 0 rfl) ?_
      refine zi_iconst hx hb d_Output_put_67 ?_
      refine zi_icmp_ne hx hb d_Output_put_68 rfl (by omega) (by omega) (fun h68 => ?_) (fun h => absurd h (by omega))
      refine lv_aload_n hx hb d_Output_put_80 rfl (lv_at hl 2 rfl) ?_
      refine zgf S hE (ci := 6) rfl i_Output (hP 0 _ rfl) 2 (by decide) zw_156 rfl d_Output_put_81 ?_
      refine zi_sipush hx hb d_Output_put_84 (by decide) ?_
      refine lv_iload_n hx hb d_Output_put_87 rfl (lv_at hl 0 rfl) ?_
      refine zi_ishr (r := 240) hx hb d_Output_put_88 (by decide) ?_
      refine lv_iload_n hx hb d_Output_put_89 rfl (lv_at hl 1 rfl) ?_
      refine zi_bipush hx hb d_Output_put_90 (by decide) ?_
      refine lv_iload_n hx hb d_Output_put_92 rfl (lv_at hl 0 rfl) ?_
      refine zi_iconst hx hb d_Output_put_93 ?_
      refine zi_isub hx hb d_Output_put_94 ?_
      refine W.eq (g2 := F0 m 95 ls ([.int (iI 3), .int (iI 6), .int (iI ((t : Nat) : Int)), .int (iI 240), .ref rb])) rfl ?_
      refine zi_imul hx hb d_Output_put_95 ?_
      refine W.eq (g2 := F0 m 96 ls ([.int (iI 18), .int (iI ((t : Nat) : Int)), .int (iI 240), .ref rb])) rfl ?_
      refine zi_ishr hx hb d_Output_put_96 (iI_shrN 18 18 (by omega) (by omega) (by decide)) ?_
      refine zi_ior hx hb d_Output_put_97 (iI_orK 240 4 15 (by decide) (by omega) (by omega)) ?_
      have hw0 : (iI (240 + (((t : Nat) : Int) / 2 ^ 18))).toInt8.toInt32 = sb_b (240 + t / 262144) := sb_of (by omega) (by omega)
      have hn0 : (out).length = out.length + 0 := by simp
      have hl0 : (out).length ≤ cap := hB0.1
      have hg0 := sp_grow_up hc0 hl0 (by omega)
      have hm0 : sp_up ((out).length + 1) ≤ sp_up (out.length + 4) := sp_up_mono (by omega)
      have hc1 : sp_capok (sp_grow cap out.length) := by rw [hg0]; exact sp_capok_max hc0 (sp_up_ok _)
      have hPc := hP.sub (ws' := [(rb, .inr (1, [.int (iI 262144), .ref q, .int (iI ((out.length : Nat) : Int))])), (q, .inl (E.2.1 0, cap, .inl f))]) [1, 2] rfl
      have hDc := hD.sub (ws' := [(rb, .inr (1, [.int (iI 262144), .ref q, .int (iI ((out.length : Nat) : Int))])), (q, .inl (E.2.1 0, cap, .inl f))]) [1, 2] (by decide) rfl
      have hFc := va_free (wc := [(rb, .inr (1, [.int (iI 262144), .ref q, .int (iI ((out.length : Nat) : Int))])), (q, .inl (E.2.1 0, cap, .inl f))]) hD hS hA [1, 2] rfl
      refine zcW (va_runV (As := [.int (iI (240 + (((t : Nat) : Int) / 2 ^ 18)))]) (rest := []) S (c_Row_add l E H.size rb q cap (240 + t / 262144) 262144 f out (iI (240 + (((t : Nat) : Int) / 2 ^ 18))) hw0 (by omega) hB0 (by omega) (by omega) (sp_capok_r hc0).1 (sp_capok_r hc0).2.1 hF0) ⟨zcwB (n := 1) S zw_353 zw_2 zw_684 (by decide +kernel) rfl rfl ⟨Nat.le_of_ble_eq_true rfl, Nat.le_of_ble_eq_true rfl⟩, S.2.2.2.2 _ zw_351, S.2.2.2.2 _ zw_352⟩ (zPreV hE (hP 1 _ rfl) rfl ⟨rfl, hPc, hDc.weaken (fun _ _ _ h => hA0 _ h), trivial⟩) rfl rfl hl.1 rfl (lv_room (Nat.le_of_ble_eq_true rfl)) d_Output_put_98 ⟨by (try dsimp only); omega, by (try dsimp only); omega⟩) hS (fun q _ h => hFc q h) hFc (fun v H locs hq hz1 hk1 hS => ?_)
      obtain ⟨rfl, q0, f0, hP1, hD1, hB1, hF1⟩ := hq
      obtain ⟨hP, hD⟩ := va_join (wr := [(h, .inr (6, [.ref en, .ref ca, .ref rb, .ref (E.2.2.1 (mode + 1)), .ref (E.2.2.1 1), .int (iI (bN false))]))]) (w1 := [(rb, .inr (1, [.int (iI 262144), .ref q0, .int (iI (((out ++ [240 + t / 262144]).length : Nat) : Int))])), (q0, .inl (E.2.1 0, sp_grow cap out.length, .inl f0))]) hP hD [1, 2] [0] rfl rfl (by decide) (by decide) hk1 hFc hP1 hD1
      have hP : va_P E.1 zcl [(h, .inr (6, [.ref en, .ref ca, .ref rb, .ref (E.2.2.1 (mode + 1)), .ref (E.2.2.1 1), .int (iI (bN false))])), (rb, .inr (1, [.int (iI 262144), .ref q0, .int (iI (((out ++ [240 + t / 262144]).length : Nat) : Int))])), (q0, .inl (E.2.1 0, sp_grow cap out.length, .inl f0))] H := hP
      have hD : va_D A [(h, .inr (6, [.ref en, .ref ca, .ref rb, .ref (E.2.2.1 (mode + 1)), .ref (E.2.2.1 1), .int (iI (bN false))])), (rb, .inr (1, [.int (iI 262144), .ref q0, .int (iI (((out ++ [240 + t / 262144]).length : Nat) : Int))])), (q0, .inl (E.2.1 0, sp_grow cap out.length, .inl f0))] := hD
      have hE := hE0.at hS hA0
      obtain ⟨cap0, ec0⟩ : ∃ x, x = sp_grow cap out.length := ⟨_, rfl⟩
      rw [← ec0] at hg0 hc1 hB1 hF1 hP hD
      rw [← ec0]
      refine W.widen (k := (cap0 - cap) / 16) (n := 2 * (cap0 - cap)) (by omega) (by omega) ?_
      refine lv_iload_n hx hb d_Output_put_101 rfl (lv_at hl 0 rfl) ?_
      refine zi_iconst hx hb d_Output_put_102 ?_
      refine zi_isub hx hb d_Output_put_103 ?_
      refine W.eq (g2 := F0 m 104 ls ([.int (iI 2)])) rfl ?_
      refine lv_istore (lv' := [(4, .int (iI 2)), (3, .int (iI 4)), (2, .int (iI ((t : Nat) : Int))), (0, .ref h), (1, .int (iI ((c0 : Nat) : Int)))]) hx hb d_Output_put_104 hl (by decide) rfl (fun ls hl => ?_)
      refine lv_iload hx hb d_Output_put_106 (lv_at hl 0 rfl) ?_
      refine zi_if_lt hx hb d_Output_put_108 rfl (by omega) (fun h108 => absurd h108 (by omega)) (fun h108 => ?_)
      refine lv_aload_n hx hb d_Output_put_111 rfl (lv_at hl 3 rfl) ?_
      refine zgf S hE (ci := 6) rfl i_Output (hP 0 _ rfl) 2 (by decide) zw_156 rfl d_Output_put_112 ?_
      refine zi_sipush hx hb d_Output_put_115 (by decide) ?_
      refine lv_iload_n hx hb d_Output_put_118 rfl (lv_at hl 2 rfl) ?_
      refine zi_bipush hx hb d_Output_put_119 (by decide) ?_
      refine lv_iload hx hb d_Output_put_121 (lv_at hl 0 rfl) ?_
      refine zi_imul hx hb d_Output_put_123 ?_
      refine W.eq (g2 := F0 m 124 ls ([.int (iI 12), .int (iI ((t : Nat) : Int)), .int (iI 128), .ref rb])) rfl ?_
      refine zi_ishr hx hb d_Output_put_124 (iI_shrN 12 12 (by omega) (by omega) (by decide)) ?_
      refine zi_bipush hx hb d_Output_put_125 (by decide) ?_
      refine zi_iand hx hb d_Output_put_127 (iI_mask 6 63 64 (by omega) (by decide) (by decide)) ?_
      refine zi_ior hx hb d_Output_put_128 (iI_orK 128 7 1 (by decide) (by omega) (by omega)) ?_
      have hw1 : (iI (128 + ((((t : Nat) : Int) / 2 ^ 12) % 64))).toInt8.toInt32 = sb_b (128 + t / 4096 % 64) := sb_of (by omega) (by omega)
      have hn1 : (out ++ [240 + t / 262144]).length = out.length + 1 := by simp
      have hl1 : (out ++ [240 + t / 262144]).length ≤ cap0 := hB1.1
      have hg1 := sp_grow_up hc1 hl1 (by omega)
      have hm1 : sp_up ((out ++ [240 + t / 262144]).length + 1) ≤ sp_up (out.length + 4) := sp_up_mono (by omega)
      have hc2 : sp_capok (sp_grow cap0 (out ++ [240 + t / 262144]).length) := by rw [hg1]; exact sp_capok_max hc1 (sp_up_ok _)
      have hPc := hP.sub (ws' := [(rb, .inr (1, [.int (iI 262144), .ref q0, .int (iI (((out ++ [240 + t / 262144]).length : Nat) : Int))])), (q0, .inl (E.2.1 0, cap0, .inl f0))]) [1, 2] rfl
      have hDc := hD.sub (ws' := [(rb, .inr (1, [.int (iI 262144), .ref q0, .int (iI (((out ++ [240 + t / 262144]).length : Nat) : Int))])), (q0, .inl (E.2.1 0, cap0, .inl f0))]) [1, 2] (by decide) rfl
      have hFc := va_free (wc := [(rb, .inr (1, [.int (iI 262144), .ref q0, .int (iI (((out ++ [240 + t / 262144]).length : Nat) : Int))])), (q0, .inl (E.2.1 0, cap0, .inl f0))]) hD hS hA [1, 2] rfl
      refine zcW (va_runV (As := [.int (iI (128 + ((((t : Nat) : Int) / 2 ^ 12) % 64)))]) (rest := []) S (c_Row_add l E H.size rb q0 cap0 (128 + t / 4096 % 64) 262144 f0 (out ++ [240 + t / 262144]) (iI (128 + ((((t : Nat) : Int) / 2 ^ 12) % 64))) hw1 (by omega) hB1 (by omega) (by omega) (sp_capok_r hc1).1 (sp_capok_r hc1).2.1 hF1) ⟨zcwB (n := 1) S zw_353 zw_2 zw_684 (by decide +kernel) rfl rfl ⟨Nat.le_of_ble_eq_true rfl, Nat.le_of_ble_eq_true rfl⟩, S.2.2.2.2 _ zw_351, S.2.2.2.2 _ zw_352⟩ (zPreV hE (hP 1 _ rfl) rfl ⟨rfl, hPc, hDc.weaken (fun _ _ _ h => hA0 _ h), trivial⟩) rfl rfl hl.1 rfl (lv_room (Nat.le_of_ble_eq_true rfl)) d_Output_put_129 ⟨by (try dsimp only); omega, by (try dsimp only); omega⟩) hS (fun q _ h => hFc q h) hFc (fun v H locs hq hz1 hk1 hS => ?_)
      obtain ⟨rfl, q1, f1, hP1, hD1, hB2, hF2⟩ := hq
      obtain ⟨hP, hD⟩ := va_join (wr := [(h, .inr (6, [.ref en, .ref ca, .ref rb, .ref (E.2.2.1 (mode + 1)), .ref (E.2.2.1 1), .int (iI (bN false))]))]) (w1 := [(rb, .inr (1, [.int (iI 262144), .ref q1, .int (iI ((((out ++ [240 + t / 262144]) ++ [128 + t / 4096 % 64]).length : Nat) : Int))])), (q1, .inl (E.2.1 0, sp_grow cap0 (out ++ [240 + t / 262144]).length, .inl f1))]) hP hD [1, 2] [0] rfl rfl (by decide) (by decide) hk1 hFc hP1 hD1
      have hP : va_P E.1 zcl [(h, .inr (6, [.ref en, .ref ca, .ref rb, .ref (E.2.2.1 (mode + 1)), .ref (E.2.2.1 1), .int (iI (bN false))])), (rb, .inr (1, [.int (iI 262144), .ref q1, .int (iI ((((out ++ [240 + t / 262144]) ++ [128 + t / 4096 % 64]).length : Nat) : Int))])), (q1, .inl (E.2.1 0, sp_grow cap0 (out ++ [240 + t / 262144]).length, .inl f1))] H := hP
      have hD : va_D A [(h, .inr (6, [.ref en, .ref ca, .ref rb, .ref (E.2.2.1 (mode + 1)), .ref (E.2.2.1 1), .int (iI (bN false))])), (rb, .inr (1, [.int (iI 262144), .ref q1, .int (iI ((((out ++ [240 + t / 262144]) ++ [128 + t / 4096 % 64]).length : Nat) : Int))])), (q1, .inl (E.2.1 0, sp_grow cap0 (out ++ [240 + t / 262144]).length, .inl f1))] := hD
      have hE := hE0.at hS hA0
      obtain ⟨cap1, ec1⟩ : ∃ x, x = sp_grow cap0 (out ++ [240 + t / 262144]).length := ⟨_, rfl⟩
      rw [← ec1] at hg1 hc2 hB2 hF2 hP hD
      rw [← ec1]
      refine W.widen (k := (cap1 - cap) / 16) (n := 2 * (cap1 - cap)) (by omega) (by omega) ?_
      refine lv_iinc (k := 0) (v := (iI 1)) (lv' := [(4, .int (iI 1)), (3, .int (iI 4)), (2, .int (iI ((t : Nat) : Int))), (0, .ref h), (1, .int (iI ((c0 : Nat) : Int)))]) hx hb d_Output_put_132 hl rfl (by decide) (by decide) rfl (fun ls hl => ?_)
      refine lv_goto hx hb d_Output_put_135 rfl ?_
      refine lv_iload hx hb d_Output_put_106 (lv_at hl 0 rfl) ?_
      refine zi_if_lt hx hb d_Output_put_108 rfl (by omega) (fun h108 => absurd h108 (by omega)) (fun h108 => ?_)
      refine lv_aload_n hx hb d_Output_put_111 rfl (lv_at hl 3 rfl) ?_
      refine zgf S hE (ci := 6) rfl i_Output (hP 0 _ rfl) 2 (by decide) zw_156 rfl d_Output_put_112 ?_
      refine zi_sipush hx hb d_Output_put_115 (by decide) ?_
      refine lv_iload_n hx hb d_Output_put_118 rfl (lv_at hl 2 rfl) ?_
      refine zi_bipush hx hb d_Output_put_119 (by decide) ?_
      refine lv_iload hx hb d_Output_put_121 (lv_at hl 0 rfl) ?_
      refine zi_imul hx hb d_Output_put_123 ?_
      refine W.eq (g2 := F0 m 124 ls ([.int (iI 6), .int (iI ((t : Nat) : Int)), .int (iI 128), .ref rb])) rfl ?_
      refine zi_ishr hx hb d_Output_put_124 (iI_shrN 6 6 (by omega) (by omega) (by decide)) ?_
      refine zi_bipush hx hb d_Output_put_125 (by decide) ?_
      refine zi_iand hx hb d_Output_put_127 (iI_mask 6 63 64 (by omega) (by decide) (by decide)) ?_
      refine zi_ior hx hb d_Output_put_128 (iI_orK 128 7 1 (by decide) (by omega) (by omega)) ?_
      have hw2 : (iI (128 + ((((t : Nat) : Int) / 2 ^ 6) % 64))).toInt8.toInt32 = sb_b (128 + t / 64 % 64) := sb_of (by omega) (by omega)
      have hn2 : ((out ++ [240 + t / 262144]) ++ [128 + t / 4096 % 64]).length = out.length + 2 := by simp
      have hl2 : ((out ++ [240 + t / 262144]) ++ [128 + t / 4096 % 64]).length ≤ cap1 := hB2.1
      have hg2 := sp_grow_up hc2 hl2 (by omega)
      have hm2 : sp_up (((out ++ [240 + t / 262144]) ++ [128 + t / 4096 % 64]).length + 1) ≤ sp_up (out.length + 4) := sp_up_mono (by omega)
      have hc3 : sp_capok (sp_grow cap1 ((out ++ [240 + t / 262144]) ++ [128 + t / 4096 % 64]).length) := by rw [hg2]; exact sp_capok_max hc2 (sp_up_ok _)
      have hPc := hP.sub (ws' := [(rb, .inr (1, [.int (iI 262144), .ref q1, .int (iI ((((out ++ [240 + t / 262144]) ++ [128 + t / 4096 % 64]).length : Nat) : Int))])), (q1, .inl (E.2.1 0, cap1, .inl f1))]) [1, 2] rfl
      have hDc := hD.sub (ws' := [(rb, .inr (1, [.int (iI 262144), .ref q1, .int (iI ((((out ++ [240 + t / 262144]) ++ [128 + t / 4096 % 64]).length : Nat) : Int))])), (q1, .inl (E.2.1 0, cap1, .inl f1))]) [1, 2] (by decide) rfl
      have hFc := va_free (wc := [(rb, .inr (1, [.int (iI 262144), .ref q1, .int (iI ((((out ++ [240 + t / 262144]) ++ [128 + t / 4096 % 64]).length : Nat) : Int))])), (q1, .inl (E.2.1 0, cap1, .inl f1))]) hD hS hA [1, 2] rfl
      refine zcW (va_runV (As := [.int (iI (128 + ((((t : Nat) : Int) / 2 ^ 6) % 64)))]) (rest := []) S (c_Row_add l E H.size rb q1 cap1 (128 + t / 64 % 64) 262144 f1 ((out ++ [240 + t / 262144]) ++ [128 + t / 4096 % 64]) (iI (128 + ((((t : Nat) : Int) / 2 ^ 6) % 64))) hw2 (by omega) hB2 (by omega) (by omega) (sp_capok_r hc2).1 (sp_capok_r hc2).2.1 hF2) ⟨zcwB (n := 1) S zw_353 zw_2 zw_684 (by decide +kernel) rfl rfl ⟨Nat.le_of_ble_eq_true rfl, Nat.le_of_ble_eq_true rfl⟩, S.2.2.2.2 _ zw_351, S.2.2.2.2 _ zw_352⟩ (zPreV hE (hP 1 _ rfl) rfl ⟨rfl, hPc, hDc.weaken (fun _ _ _ h => hA0 _ h), trivial⟩) rfl rfl hl.1 rfl (lv_room (Nat.le_of_ble_eq_true rfl)) d_Output_put_129 ⟨by (try dsimp only); omega, by (try dsimp only); omega⟩) hS (fun q _ h => hFc q h) hFc (fun v H locs hq hz1 hk1 hS => ?_)
      obtain ⟨rfl, q2, f2, hP1, hD1, hB3, hF3⟩ := hq
      obtain ⟨hP, hD⟩ := va_join (wr := [(h, .inr (6, [.ref en, .ref ca, .ref rb, .ref (E.2.2.1 (mode + 1)), .ref (E.2.2.1 1), .int (iI (bN false))]))]) (w1 := [(rb, .inr (1, [.int (iI 262144), .ref q2, .int (iI (((((out ++ [240 + t / 262144]) ++ [128 + t / 4096 % 64]) ++ [128 + t / 64 % 64]).length : Nat) : Int))])), (q2, .inl (E.2.1 0, sp_grow cap1 ((out ++ [240 + t / 262144]) ++ [128 + t / 4096 % 64]).length, .inl f2))]) hP hD [1, 2] [0] rfl rfl (by decide) (by decide) hk1 hFc hP1 hD1
      have hP : va_P E.1 zcl [(h, .inr (6, [.ref en, .ref ca, .ref rb, .ref (E.2.2.1 (mode + 1)), .ref (E.2.2.1 1), .int (iI (bN false))])), (rb, .inr (1, [.int (iI 262144), .ref q2, .int (iI (((((out ++ [240 + t / 262144]) ++ [128 + t / 4096 % 64]) ++ [128 + t / 64 % 64]).length : Nat) : Int))])), (q2, .inl (E.2.1 0, sp_grow cap1 ((out ++ [240 + t / 262144]) ++ [128 + t / 4096 % 64]).length, .inl f2))] H := hP
      have hD : va_D A [(h, .inr (6, [.ref en, .ref ca, .ref rb, .ref (E.2.2.1 (mode + 1)), .ref (E.2.2.1 1), .int (iI (bN false))])), (rb, .inr (1, [.int (iI 262144), .ref q2, .int (iI (((((out ++ [240 + t / 262144]) ++ [128 + t / 4096 % 64]) ++ [128 + t / 64 % 64]).length : Nat) : Int))])), (q2, .inl (E.2.1 0, sp_grow cap1 ((out ++ [240 + t / 262144]) ++ [128 + t / 4096 % 64]).length, .inl f2))] := hD
      have hE := hE0.at hS hA0
      obtain ⟨cap2, ec2⟩ : ∃ x, x = sp_grow cap1 ((out ++ [240 + t / 262144]) ++ [128 + t / 4096 % 64]).length := ⟨_, rfl⟩
      rw [← ec2] at hg2 hc3 hB3 hF3 hP hD
      rw [← ec2]
      refine W.widen (k := (cap2 - cap) / 16) (n := 2 * (cap2 - cap)) (by omega) (by omega) ?_
      refine lv_iinc (k := 0) (v := (iI 0)) (lv' := [(4, .int (iI 0)), (3, .int (iI 4)), (2, .int (iI ((t : Nat) : Int))), (0, .ref h), (1, .int (iI ((c0 : Nat) : Int)))]) hx hb d_Output_put_132 hl rfl (by decide) (by decide) rfl (fun ls hl => ?_)
      refine lv_goto hx hb d_Output_put_135 rfl ?_
      refine lv_iload hx hb d_Output_put_106 (lv_at hl 0 rfl) ?_
      refine zi_if_lt hx hb d_Output_put_108 rfl (by omega) (fun h108 => absurd h108 (by omega)) (fun h108 => ?_)
      refine lv_aload_n hx hb d_Output_put_111 rfl (lv_at hl 3 rfl) ?_
      refine zgf S hE (ci := 6) rfl i_Output (hP 0 _ rfl) 2 (by decide) zw_156 rfl d_Output_put_112 ?_
      refine zi_sipush hx hb d_Output_put_115 (by decide) ?_
      refine lv_iload_n hx hb d_Output_put_118 rfl (lv_at hl 2 rfl) ?_
      refine zi_bipush hx hb d_Output_put_119 (by decide) ?_
      refine lv_iload hx hb d_Output_put_121 (lv_at hl 0 rfl) ?_
      refine zi_imul hx hb d_Output_put_123 ?_
      refine W.eq (g2 := F0 m 124 ls ([.int (iI 0), .int (iI ((t : Nat) : Int)), .int (iI 128), .ref rb])) rfl ?_
      refine zi_ishr hx hb d_Output_put_124 (iI_shrN 0 0 (by omega) (by omega) (by decide)) ?_
      refine zi_bipush hx hb d_Output_put_125 (by decide) ?_
      refine zi_iand hx hb d_Output_put_127 (iI_mask 6 63 64 (by omega) (by decide) (by decide)) ?_
      refine zi_ior hx hb d_Output_put_128 (iI_orK 128 7 1 (by decide) (by omega) (by omega)) ?_
      have hw3 : (iI (128 + ((((t : Nat) : Int) / 2 ^ 0) % 64))).toInt8.toInt32 = sb_b (128 + t % 64) := sb_of (by omega) (by omega)
      have hn3 : (((out ++ [240 + t / 262144]) ++ [128 + t / 4096 % 64]) ++ [128 + t / 64 % 64]).length = out.length + 3 := by simp
      have hl3 : (((out ++ [240 + t / 262144]) ++ [128 + t / 4096 % 64]) ++ [128 + t / 64 % 64]).length ≤ cap2 := hB3.1
      have hg3 := sp_grow_up hc3 hl3 (by omega)
      have hm3 : sp_up ((((out ++ [240 + t / 262144]) ++ [128 + t / 4096 % 64]) ++ [128 + t / 64 % 64]).length + 1) ≤ sp_up (out.length + 4) := sp_up_mono (by omega)
      have hc4 : sp_capok (sp_grow cap2 (((out ++ [240 + t / 262144]) ++ [128 + t / 4096 % 64]) ++ [128 + t / 64 % 64]).length) := by rw [hg3]; exact sp_capok_max hc3 (sp_up_ok _)
      have hPc := hP.sub (ws' := [(rb, .inr (1, [.int (iI 262144), .ref q2, .int (iI (((((out ++ [240 + t / 262144]) ++ [128 + t / 4096 % 64]) ++ [128 + t / 64 % 64]).length : Nat) : Int))])), (q2, .inl (E.2.1 0, cap2, .inl f2))]) [1, 2] rfl
      have hDc := hD.sub (ws' := [(rb, .inr (1, [.int (iI 262144), .ref q2, .int (iI (((((out ++ [240 + t / 262144]) ++ [128 + t / 4096 % 64]) ++ [128 + t / 64 % 64]).length : Nat) : Int))])), (q2, .inl (E.2.1 0, cap2, .inl f2))]) [1, 2] (by decide) rfl
      have hFc := va_free (wc := [(rb, .inr (1, [.int (iI 262144), .ref q2, .int (iI (((((out ++ [240 + t / 262144]) ++ [128 + t / 4096 % 64]) ++ [128 + t / 64 % 64]).length : Nat) : Int))])), (q2, .inl (E.2.1 0, cap2, .inl f2))]) hD hS hA [1, 2] rfl
      refine zcW (va_runV (As := [.int (iI (128 + ((((t : Nat) : Int) / 2 ^ 0) % 64)))]) (rest := []) S (c_Row_add l E H.size rb q2 cap2 (128 + t % 64) 262144 f2 (((out ++ [240 + t / 262144]) ++ [128 + t / 4096 % 64]) ++ [128 + t / 64 % 64]) (iI (128 + ((((t : Nat) : Int) / 2 ^ 0) % 64))) hw3 (by omega) hB3 (by omega) (by omega) (sp_capok_r hc3).1 (sp_capok_r hc3).2.1 hF3) ⟨zcwB (n := 1) S zw_353 zw_2 zw_684 (by decide +kernel) rfl rfl ⟨Nat.le_of_ble_eq_true rfl, Nat.le_of_ble_eq_true rfl⟩, S.2.2.2.2 _ zw_351, S.2.2.2.2 _ zw_352⟩ (zPreV hE (hP 1 _ rfl) rfl ⟨rfl, hPc, hDc.weaken (fun _ _ _ h => hA0 _ h), trivial⟩) rfl rfl hl.1 rfl (lv_room (Nat.le_of_ble_eq_true rfl)) d_Output_put_129 ⟨by (try dsimp only); omega, by (try dsimp only); omega⟩) hS (fun q _ h => hFc q h) hFc (fun v H locs hq hz1 hk1 hS => ?_)
      obtain ⟨rfl, q3, f3, hP1, hD1, hB4, hF4⟩ := hq
      obtain ⟨hP, hD⟩ := va_join (wr := [(h, .inr (6, [.ref en, .ref ca, .ref rb, .ref (E.2.2.1 (mode + 1)), .ref (E.2.2.1 1), .int (iI (bN false))]))]) (w1 := [(rb, .inr (1, [.int (iI 262144), .ref q3, .int (iI ((((((out ++ [240 + t / 262144]) ++ [128 + t / 4096 % 64]) ++ [128 + t / 64 % 64]) ++ [128 + t % 64]).length : Nat) : Int))])), (q3, .inl (E.2.1 0, sp_grow cap2 (((out ++ [240 + t / 262144]) ++ [128 + t / 4096 % 64]) ++ [128 + t / 64 % 64]).length, .inl f3))]) hP hD [1, 2] [0] rfl rfl (by decide) (by decide) hk1 hFc hP1 hD1
      have hP : va_P E.1 zcl [(h, .inr (6, [.ref en, .ref ca, .ref rb, .ref (E.2.2.1 (mode + 1)), .ref (E.2.2.1 1), .int (iI (bN false))])), (rb, .inr (1, [.int (iI 262144), .ref q3, .int (iI ((((((out ++ [240 + t / 262144]) ++ [128 + t / 4096 % 64]) ++ [128 + t / 64 % 64]) ++ [128 + t % 64]).length : Nat) : Int))])), (q3, .inl (E.2.1 0, sp_grow cap2 (((out ++ [240 + t / 262144]) ++ [128 + t / 4096 % 64]) ++ [128 + t / 64 % 64]).length, .inl f3))] H := hP
      have hD : va_D A [(h, .inr (6, [.ref en, .ref ca, .ref rb, .ref (E.2.2.1 (mode + 1)), .ref (E.2.2.1 1), .int (iI (bN false))])), (rb, .inr (1, [.int (iI 262144), .ref q3, .int (iI ((((((out ++ [240 + t / 262144]) ++ [128 + t / 4096 % 64]) ++ [128 + t / 64 % 64]) ++ [128 + t % 64]).length : Nat) : Int))])), (q3, .inl (E.2.1 0, sp_grow cap2 (((out ++ [240 + t / 262144]) ++ [128 + t / 4096 % 64]) ++ [128 + t / 64 % 64]).length, .inl f3))] := hD
      have hE := hE0.at hS hA0
      obtain ⟨cap3, ec3⟩ : ∃ x, x = sp_grow cap2 (((out ++ [240 + t / 262144]) ++ [128 + t / 4096 % 64]) ++ [128 + t / 64 % 64]).length := ⟨_, rfl⟩
      rw [← ec3] at hg3 hc4 hB4 hF4 hP hD
      rw [← ec3]
      refine W.widen (k := (cap3 - cap) / 16) (n := 2 * (cap3 - cap)) (by omega) (by omega) ?_
      refine lv_iinc (k := 0) (v := (iI (-1))) (lv' := [(4, .int (iI (-1))), (3, .int (iI 4)), (2, .int (iI ((t : Nat) : Int))), (0, .ref h), (1, .int (iI ((c0 : Nat) : Int)))]) hx hb d_Output_put_132 hl rfl (by decide) (by decide) rfl (fun ls hl => ?_)
      refine lv_goto hx hb d_Output_put_135 rfl ?_
      refine lv_iload hx hb d_Output_put_106 (lv_at hl 0 rfl) ?_
      refine zi_if_lt hx hb d_Output_put_108 rfl (by omega) (fun h108 => ?_) (fun h108 => absurd h108 (by omega))
      have hfin : (((out ++ [240 + t / 262144]) ++ [128 + t / 4096 % 64]) ++ [128 + t / 64 % 64]) ++ [128 + t % 64] = out ++ sp_enc utf t := by simp [henc]
      have hlast : sp_up (out.length + 3 + 1) = sp_up (out.length + 4) := rfl
      have hcf : cap3 = capF := by rw [hn3] at hg3 hm3; omega
      have hP9 := hP.sub (ws' := [(h, .inr (6, [.ref en, .ref ca, .ref rb, .ref (E.2.2.1 (mode + 1)), .ref (E.2.2.1 1), .int (iI (bN false))])), (rb, .inr (1, [.int (iI 262144), .ref q3, .int (iI ((((((out ++ [240 + t / 262144]) ++ [128 + t / 4096 % 64]) ++ [128 + t / 64 % 64]) ++ [128 + t % 64]).length : Nat) : Int))])), (q3, .inl (E.2.1 0, cap3, .inl f3))]) [0, 1, 2] rfl
      have hD9 := hD.sub (ws' := [(h, .inr (6, [.ref en, .ref ca, .ref rb, .ref (E.2.2.1 (mode + 1)), .ref (E.2.2.1 1), .int (iI (bN false))])), (rb, .inr (1, [.int (iI 262144), .ref q3, .int (iI ((((((out ++ [240 + t / 262144]) ++ [128 + t / 4096 % 64]) ++ [128 + t / 64 % 64]) ++ [128 + t % 64]).length : Nat) : Int))])), (q3, .inl (E.2.1 0, cap3, .inl f3))]) [0, 1, 2] (by decide) rfl
      rw [hfin] at hP9 hD9 hB4
      rw [hcf] at hP9 hD9 hB4 hF4
      rw [hcf]
      exact zwv S hr hlk hS (⟨rfl, q3, f3, hP9, hD9, hB4, hF4⟩) (by (try dsimp only); omega) (by (try dsimp only); omega) d_Output_put_138
  · have ho : once = 0 := (hE.turns honce (b := 0) (by omega)).mp h12
    refine lv_aload_n hx hb d_Output_put_15 rfl (lv_at hl 0 rfl) ?_
    refine zgf S hE (ci := 6) rfl i_Output (hP 0 _ rfl) 3 (by decide) zw_157 rfl d_Output_put_16 ?_
    refine lv_goto hx hb d_Output_put_19 rfl ?_
    refine zcR (va_runV (As := [.int (iI ((c0 : Nat) : Int)), .ref (E.2.2.1 (mode + 1))]) (rest := []) S (c_Cases_turned l E ca (sp_many utf ucp) c0 mode (sp_many_le utf ucp) (by omega) hmode) ⟨zcwB (n := 2) S zw_675 zw_9 zw_672 (by decide +kernel) rfl rfl ⟨Nat.le_of_ble_eq_true rfl, Nat.le_of_ble_eq_true rfl⟩, S.2.2.2.2 _ zw_673, S.2.2.2.2 _ zw_674⟩ (zPreV hE (zfz hS hca (hAZ _ hzc)) rfl (zfz hS hca (hAZ _ hzc))) rfl rfl hl.1 rfl (lv_room (Nat.le_of_ble_eq_true rfl)) d_Output_put_26 ⟨by (try dsimp only); omega, by (try dsimp only); omega⟩) ?_
    rw [sp_case_eq hok, ← (show t = sp_case utf ucp mode c0 by rw [ht, hhow]; rw [if_pos ho])]
    refine lv_istore_n (lv' := [(2, .int (iI ((t : Nat) : Int))), (0, .ref h), (1, .int (iI ((c0 : Nat) : Int)))]) hx hb d_Output_put_29 rfl hl (by decide) rfl (fun ls hl => ?_)
    refine lv_aload_n hx hb d_Output_put_30 rfl (lv_at hl 1 rfl) ?_
    refine zgs S hE.asis zw_152 d_Output_put_31 ?_
    refine va_put (D := E.1) (ci := 6) (v := .ref (E.2.2.1 1)) (ty := .object "ReplacementWriter$Turn") (C := "ReplacementWriter$Output") (T := F_Output) (N := 6) hx hb S.2.2.2.2 i_Output t_Output t_Output_ok n_Output S.2.2.2.1 hE.1 hP hD hS 0 rfl rfl 4 (by decide) (S.2.2.2.2 _ zw_158) (fun _ h9 => h9) rfl (by decide +kernel) rfl rfl (Nat.le_of_ble_eq_true rfl) d_Output_put_34 (fun H locs hP hD hS => ?_)
    have hP : va_P E.1 zcl [(h, .inr (6, [.ref en, .ref ca, .ref rb, .ref (E.2.2.1 (mode + 1)), .ref (E.2.2.1 1), .int (iI (bN false))])), (rb, .inr (1, [.int (iI 262144), .ref q, .int (iI ((out.length : Nat) : Int))])), (q, .inl (E.2.1 0, cap, .inl f))] H := hP
    have hD : va_D A [(h, .inr (6, [.ref en, .ref ca, .ref rb, .ref (E.2.2.1 (mode + 1)), .ref (E.2.2.1 1), .int (iI (bN false))])), (rb, .inr (1, [.int (iI 262144), .ref q, .int (iI ((out.length : Nat) : Int))])), (q, .inl (E.2.1 0, cap, .inl f))] := hD
    have hE := hE0.at hS hA0
    refine lv_aload_n hx hb d_Output_put_37 rfl (lv_at hl 1 rfl) ?_
    refine zgf S hE (ci := 6) rfl i_Output (hP 0 _ rfl) 0 (by decide) zw_154 rfl d_Output_put_38 ?_
    refine lv_iload_n hx hb d_Output_put_41 rfl (lv_at hl 0 rfl) ?_
    refine zcR (va_runV (As := [.int (iI ((t : Nat) : Int))]) (rest := []) S (c_Encoding_lengthOf l E en utf t (by omega)) ⟨zcwB (n := 1) S zw_457 zw_7 zw_682 (by decide +kernel) rfl rfl ⟨Nat.le_of_ble_eq_true rfl, Nat.le_of_ble_eq_true rfl⟩, S.2.2.2.2 _ zw_455, S.2.2.2.2 _ zw_456⟩ (zPreV hE (zfz hS hen (hAZ _ hze)) rfl (zfz hS hen (hAZ _ hze))) rfl rfl hl.1 rfl (lv_room (Nat.le_of_ble_eq_true rfl)) d_Output_put_42 ⟨by (try dsimp only); omega, by (try dsimp only); omega⟩) ?_
    have hb42 := sp_len_le utf t
    refine lv_istore_n (lv' := [(3, .int (iI ((sp_len utf t : Nat) : Int))), (2, .int (iI ((t : Nat) : Int))), (0, .ref h), (1, .int (iI ((c0 : Nat) : Int)))]) hx hb d_Output_put_45 rfl hl (by decide) rfl (fun ls hl => ?_)
    refine lv_aload_n hx hb d_Output_put_46 rfl (lv_at hl 2 rfl) ?_
    refine zgf S hE (ci := 6) rfl i_Output (hP 0 _ rfl) 2 (by decide) zw_156 rfl d_Output_put_47 ?_
    refine zcR (va_runV (As := []) (rest := []) S (c_Row_length l E rb out) ⟨zcwB (n := 0) S zw_258 zw_2 zw_683 (by decide +kernel) rfl rfl ⟨Nat.le_of_ble_eq_true rfl, Nat.le_of_ble_eq_true rfl⟩, S.2.2.2.2 _ zw_256, S.2.2.2.2 _ zw_257⟩ (zPreVrow hE (zrow.of (hP 1 _ rfl) (hP 2 _ rfl) hB) (zrow.of (hP 1 _ rfl) (hP 2 _ rfl) hB)) rfl rfl hl.1 rfl (lv_room (Nat.le_of_ble_eq_true rfl)) d_Output_put_50 ⟨by (try dsimp only); omega, by (try dsimp only); omega⟩) ?_
    refine lv_iload_n hx hb d_Output_put_53 rfl (lv_at hl 0 rfl) ?_
    refine zi_iadd hx hb d_Output_put_54 ?_
    refine zldc (n := 262144) S zw_150 (by decide) d_Output_put_55 ?_
    refine zi_icmp_le hx hb d_Output_put_57 rfl (by omega) (by omega) (fun h57 => ?_) (fun h => absurd h (by omega))
    have h4 : sp_len utf t = 1 ∨ sp_len utf t = 2 ∨ sp_len utf t = 3 ∨ sp_len utf t = 4 := by omega
    rcases h4 with e4 | e4 | e4 | e4
    · rw [e4] at hl
      have hl : lv_has ls 5 [(3, .int (iI 1)), (2, .int (iI ((t : Nat) : Int))), (0, .ref h), (1, .int (iI ((c0 : Nat) : Int)))] := hl
      have hr4 : utf = false ∨ t < 128 := by unfold sp_len at e4; split at e4; assumption; split at e4 <;> (try split at e4) <;> omega
      have henc : sp_enc utf t = [t] := by unfold sp_enc; rw [if_pos hr4]
      have hcapF : capF = max cap (sp_up (out.length + 1)) := by rw [hcapF0, List.length_append, sp_enc_len, e4]
      have ht8 : t < 256 := by rcases hr4 with q | q; exact hlt.2 q; omega
      have hB0 := hB
      have hF0 := hF
      have hc0 := hc
      refine lv_iload_n hx hb d_Output_put_66 rfl (lv_at hl 0 rfl) ?_
      refine zi_iconst hx hb d_Output_put_67 ?_
      refine zi_icmp_ne hx hb d_Output_put_68 rfl (by omega) (by omega) (fun h => absurd h (by omega)) (fun h68 => ?_)
      refine lv_aload_n hx hb d_Output_put_71 rfl (lv_at hl 2 rfl) ?_
      refine zgf S hE (ci := 6) rfl i_Output (hP 0 _ rfl) 2 (by decide) zw_156 rfl d_Output_put_72 ?_
      refine lv_iload_n hx hb d_Output_put_75 rfl (lv_at hl 1 rfl) ?_
      have hw0 : (iI ((t : Nat) : Int)).toInt8.toInt32 = sb_b (t) := sb_of (by omega) (by omega)
      have hn0 : (out).length = out.length + 0 := by simp
      have hl0 : (out).length ≤ cap := hB0.1
      have hg0 := sp_grow_up hc0 hl0 (by omega)
      have hm0 : sp_up ((out).length + 1) ≤ sp_up (out.length + 1) := sp_up_mono (by omega)
      have hc1 : sp_capok (sp_grow cap out.length) := by rw [hg0]; exact sp_capok_max hc0 (sp_up_ok _)
      have hPc := hP.sub (ws' := [(rb, .inr (1, [.int (iI 262144), .ref q, .int (iI ((out.length : Nat) : Int))])), (q, .inl (E.2.1 0, cap, .inl f))]) [1, 2] rfl
      have hDc := hD.sub (ws' := [(rb, .inr (1, [.int (iI 262144), .ref q, .int (iI ((out.length : Nat) : Int))])), (q, .inl (E.2.1 0, cap, .inl f))]) [1, 2] (by decide) rfl
      have hFc := va_free (wc := [(rb, .inr (1, [.int (iI 262144), .ref q, .int (iI ((out.length : Nat) : Int))])), (q, .inl (E.2.1 0, cap, .inl f))]) hD hS hA [1, 2] rfl
      refine zcW (va_runV (As := [.int (iI ((t : Nat) : Int))]) (rest := []) S (c_Row_add l E H.size rb q cap (t) 262144 f out (iI ((t : Nat) : Int)) hw0 (by omega) hB0 (by omega) (by omega) (sp_capok_r hc0).1 (sp_capok_r hc0).2.1 hF0) ⟨zcwB (n := 1) S zw_353 zw_2 zw_684 (by decide +kernel) rfl rfl ⟨Nat.le_of_ble_eq_true rfl, Nat.le_of_ble_eq_true rfl⟩, S.2.2.2.2 _ zw_351, S.2.2.2.2 _ zw_352⟩ (zPreV hE (hP 1 _ rfl) rfl ⟨rfl, hPc, hDc.weaken (fun _ _ _ h => hA0 _ h), trivial⟩) rfl rfl hl.1 rfl (lv_room (Nat.le_of_ble_eq_true rfl)) d_Output_put_76 ⟨by (try dsimp only); omega, by (try dsimp only); omega⟩) hS (fun q _ h => hFc q h) hFc (fun v H locs hq hz1 hk1 hS => ?_)
      obtain ⟨rfl, q0, f0, hP1, hD1, hB1, hF1⟩ := hq
      obtain ⟨hP, hD⟩ := va_join (wr := [(h, .inr (6, [.ref en, .ref ca, .ref rb, .ref (E.2.2.1 (mode + 1)), .ref (E.2.2.1 1), .int (iI (bN false))]))]) (w1 := [(rb, .inr (1, [.int (iI 262144), .ref q0, .int (iI (((out ++ [t]).length : Nat) : Int))])), (q0, .inl (E.2.1 0, sp_grow cap out.length, .inl f0))]) hP hD [1, 2] [0] rfl rfl (by decide) (by decide) hk1 hFc hP1 hD1
      have hP : va_P E.1 zcl [(h, .inr (6, [.ref en, .ref ca, .ref rb, .ref (E.2.2.1 (mode + 1)), .ref (E.2.2.1 1), .int (iI (bN false))])), (rb, .inr (1, [.int (iI 262144), .ref q0, .int (iI (((out ++ [t]).length : Nat) : Int))])), (q0, .inl (E.2.1 0, sp_grow cap out.length, .inl f0))] H := hP
      have hD : va_D A [(h, .inr (6, [.ref en, .ref ca, .ref rb, .ref (E.2.2.1 (mode + 1)), .ref (E.2.2.1 1), .int (iI (bN false))])), (rb, .inr (1, [.int (iI 262144), .ref q0, .int (iI (((out ++ [t]).length : Nat) : Int))])), (q0, .inl (E.2.1 0, sp_grow cap out.length, .inl f0))] := hD
      have hE := hE0.at hS hA0
      obtain ⟨cap0, ec0⟩ : ∃ x, x = sp_grow cap out.length := ⟨_, rfl⟩
      rw [← ec0] at hg0 hc1 hB1 hF1 hP hD
      rw [← ec0]
      refine W.widen (k := (cap0 - cap) / 16) (n := 2 * (cap0 - cap)) (by omega) (by omega) ?_
      have hfin : out ++ [t] = out ++ sp_enc utf t := by simp [henc]
      have hlast : sp_up (out.length + 0 + 1) = sp_up (out.length + 1) := rfl
      have hcf : cap0 = capF := by rw [hn0] at hg0 hm0; omega
      have hP9 := hP.sub (ws' := [(h, .inr (6, [.ref en, .ref ca, .ref rb, .ref (E.2.2.1 (mode + 1)), .ref (E.2.2.1 1), .int (iI (bN false))])), (rb, .inr (1, [.int (iI 262144), .ref q0, .int (iI (((out ++ [t]).length : Nat) : Int))])), (q0, .inl (E.2.1 0, cap0, .inl f0))]) [0, 1, 2] rfl
      have hD9 := hD.sub (ws' := [(h, .inr (6, [.ref en, .ref ca, .ref rb, .ref (E.2.2.1 (mode + 1)), .ref (E.2.2.1 1), .int (iI (bN false))])), (rb, .inr (1, [.int (iI 262144), .ref q0, .int (iI (((out ++ [t]).length : Nat) : Int))])), (q0, .inl (E.2.1 0, cap0, .inl f0))]) [0, 1, 2] (by decide) rfl
      rw [hfin] at hP9 hD9 hB1
      rw [hcf] at hP9 hD9 hB1 hF1
      rw [hcf]
      exact zwv S hr hlk hS (⟨rfl, q0, f0, hP9, hD9, hB1, hF1⟩) (by (try dsimp only); omega) (by (try dsimp only); omega) d_Output_put_79
    · rw [e4] at hl
      have hl : lv_has ls 5 [(3, .int (iI 2)), (2, .int (iI ((t : Nat) : Int))), (0, .ref h), (1, .int (iI ((c0 : Nat) : Int)))] := hl
      have hr4 : ¬ (utf = false ∨ t < 128) ∧ t < 2048 := by unfold sp_len at e4; split at e4; omega; split at e4; constructor <;> assumption; split at e4 <;> omega
      have henc : sp_enc utf t = [192 + t / 64, 128 + t % 64] := by unfold sp_enc; rw [if_neg hr4.1, if_pos hr4.2]
      have hcapF : capF = max cap (sp_up (out.length + 2)) := by rw [hcapF0, List.length_append, sp_enc_len, e4]
      have hB0 := hB
      have hF0 := hF
      have hc0 := hc
      refine lv_iload_n hx hb d_Output_put_66 rfl (lv_at hl 0 rfl) ?_
      refine zi_iconst hx hb d_Output_put_67 ?_
      refine zi_icmp_ne hx hb d_Output_put_68 rfl (by omega) (by omega) (fun h68 => ?_) (fun h => absurd h (by omega))
      refine lv_aload_n hx hb d_Output_put_80 rfl (lv_at hl 2 rfl) ?_
      refine zgf S hE (ci := 6) rfl i_Output (hP 0 _ rfl) 2 (by decide) zw_156 rfl d_Output_put_81 ?_
      refine zi_sipush hx hb d_Output_put_84 (by decide) ?_
      refine lv_iload_n hx hb d_Output_put_87 rfl (lv_at hl 0 rfl) ?_
      refine zi_ishr (r := 960) hx hb d_Output_put_88 (by decide) ?_
      refine lv_iload_n hx hb d_Output_put_89 rfl (lv_at hl 1 rfl) ?_
      refine zi_bipush hx hb d_Output_put_90 (by decide) ?_
      refine lv_iload_n hx hb d_Output_put_92 rfl (lv_at hl 0 rfl) ?_
      refine zi_iconst hx hb d_Output_put_93 ?_
      refine zi_isub hx hb d_Output_put_94 ?_
      refine W.eq (g2 := F0 m 95 ls ([.int (iI 1), .int (iI 6), .int (iI ((t : Nat) : Int)), .int (iI 960), .ref rb])) rfl ?_
      refine zi_imul hx hb d_Output_put_95 ?_
      refine W.eq (g2 := F0 m 96 ls ([.int (iI 6), .int (iI ((t : Nat) : Int)), .int (iI 960), .ref rb])) rfl ?_
      refine zi_ishr hx hb d_Output_put_96 (iI_shrN 6 6 (by omega) (by omega) (by decide)) ?_
      refine zi_ior hx hb d_Output_put_97 (iI_orK 960 6 15 (by decide) (by omega) (by omega)) ?_
      have hw0 : (iI (960 + (((t : Nat) : Int) / 2 ^ 6))).toInt8.toInt32 = sb_b (192 + t / 64) := sb_of (by omega) (by omega)
      have hn0 : (out).length = out.length + 0 := by simp
      have hl0 : (out).length ≤ cap := hB0.1
      have hg0 := sp_grow_up hc0 hl0 (by omega)
      have hm0 : sp_up ((out).length + 1) ≤ sp_up (out.length + 2) := sp_up_mono (by omega)
      have hc1 : sp_capok (sp_grow cap out.length) := by rw [hg0]; exact sp_capok_max hc0 (sp_up_ok _)
      have hPc := hP.sub (ws' := [(rb, .inr (1, [.int (iI 262144), .ref q, .int (iI ((out.length : Nat) : Int))])), (q, .inl (E.2.1 0, cap, .inl f))]) [1, 2] rfl
      have hDc := hD.sub (ws' := [(rb, .inr (1, [.int (iI 262144), .ref q, .int (iI ((out.length : Nat) : Int))])), (q, .inl (E.2.1 0, cap, .inl f))]) [1, 2] (by decide) rfl
      have hFc := va_free (wc := [(rb, .inr (1, [.int (iI 262144), .ref q, .int (iI ((out.length : Nat) : Int))])), (q, .inl (E.2.1 0, cap, .inl f))]) hD hS hA [1, 2] rfl
      refine zcW (va_runV (As := [.int (iI (960 + (((t : Nat) : Int) / 2 ^ 6)))]) (rest := []) S (c_Row_add l E H.size rb q cap (192 + t / 64) 262144 f out (iI (960 + (((t : Nat) : Int) / 2 ^ 6))) hw0 (by omega) hB0 (by omega) (by omega) (sp_capok_r hc0).1 (sp_capok_r hc0).2.1 hF0) ⟨zcwB (n := 1) S zw_353 zw_2 zw_684 (by decide +kernel) rfl rfl ⟨Nat.le_of_ble_eq_true rfl, Nat.le_of_ble_eq_true rfl⟩, S.2.2.2.2 _ zw_351, S.2.2.2.2 _ zw_352⟩ (zPreV hE (hP 1 _ rfl) rfl ⟨rfl, hPc, hDc.weaken (fun _ _ _ h => hA0 _ h), trivial⟩) rfl rfl hl.1 rfl (lv_room (Nat.le_of_ble_eq_true rfl)) d_Output_put_98 ⟨by (try dsimp only); omega, by (try dsimp only); omega⟩) hS (fun q _ h => hFc q h) hFc (fun v H locs hq hz1 hk1 hS => ?_)
      obtain ⟨rfl, q0, f0, hP1, hD1, hB1, hF1⟩ := hq
      obtain ⟨hP, hD⟩ := va_join (wr := [(h, .inr (6, [.ref en, .ref ca, .ref rb, .ref (E.2.2.1 (mode + 1)), .ref (E.2.2.1 1), .int (iI (bN false))]))]) (w1 := [(rb, .inr (1, [.int (iI 262144), .ref q0, .int (iI (((out ++ [192 + t / 64]).length : Nat) : Int))])), (q0, .inl (E.2.1 0, sp_grow cap out.length, .inl f0))]) hP hD [1, 2] [0] rfl rfl (by decide) (by decide) hk1 hFc hP1 hD1
      have hP : va_P E.1 zcl [(h, .inr (6, [.ref en, .ref ca, .ref rb, .ref (E.2.2.1 (mode + 1)), .ref (E.2.2.1 1), .int (iI (bN false))])), (rb, .inr (1, [.int (iI 262144), .ref q0, .int (iI (((out ++ [192 + t / 64]).length : Nat) : Int))])), (q0, .inl (E.2.1 0, sp_grow cap out.length, .inl f0))] H := hP
      have hD : va_D A [(h, .inr (6, [.ref en, .ref ca, .ref rb, .ref (E.2.2.1 (mode + 1)), .ref (E.2.2.1 1), .int (iI (bN false))])), (rb, .inr (1, [.int (iI 262144), .ref q0, .int (iI (((out ++ [192 + t / 64]).length : Nat) : Int))])), (q0, .inl (E.2.1 0, sp_grow cap out.length, .inl f0))] := hD
      have hE := hE0.at hS hA0
      obtain ⟨cap0, ec0⟩ : ∃ x, x = sp_grow cap out.length := ⟨_, rfl⟩
      rw [← ec0] at hg0 hc1 hB1 hF1 hP hD
      rw [← ec0]
      refine W.widen (k := (cap0 - cap) / 16) (n := 2 * (cap0 - cap)) (by omega) (by omega) ?_
      refine lv_iload_n hx hb d_Output_put_101 rfl (lv_at hl 0 rfl) ?_
      refine zi_iconst hx hb d_Output_put_102 ?_
      refine zi_isub hx hb d_Output_put_103 ?_
      refine W.eq (g2 := F0 m 104 ls ([.int (iI 0)])) rfl ?_
      refine lv_istore (lv' := [(4, .int (iI 0)), (3, .int (iI 2)), (2, .int (iI ((t : Nat) : Int))), (0, .ref h), (1, .int (iI ((c0 : Nat) : Int)))]) hx hb d_Output_put_104 hl (by decide) rfl (fun ls hl => ?_)
      refine lv_iload hx hb d_Output_put_106 (lv_at hl 0 rfl) ?_
      refine zi_if_lt hx hb d_Output_put_108 rfl (by omega) (fun h108 => absurd h108 (by omega)) (fun h108 => ?_)
      refine lv_aload_n hx hb d_Output_put_111 rfl (lv_at hl 3 rfl) ?_
      refine zgf S hE (ci := 6) rfl i_Output (hP 0 _ rfl) 2 (by decide) zw_156 rfl d_Output_put_112 ?_
      refine zi_sipush hx hb d_Output_put_115 (by decide) ?_
      refine lv_iload_n hx hb d_Output_put_118 rfl (lv_at hl 2 rfl) ?_
      refine zi_bipush hx hb d_Output_put_119 (by decide) ?_
      refine lv_iload hx hb d_Output_put_121 (lv_at hl 0 rfl) ?_
      refine zi_imul hx hb d_Output_put_123 ?_
      refine W.eq (g2 := F0 m 124 ls ([.int (iI 0), .int (iI ((t : Nat) : Int)), .int (iI 128), .ref rb])) rfl ?_
      refine zi_ishr hx hb d_Output_put_124 (iI_shrN 0 0 (by omega) (by omega) (by decide)) ?_
      refine zi_bipush hx hb d_Output_put_125 (by decide) ?_
      refine zi_iand hx hb d_Output_put_127 (iI_mask 6 63 64 (by omega) (by decide) (by decide)) ?_
      refine zi_ior hx hb d_Output_put_128 (iI_orK 128 7 1 (by decide) (by omega) (by omega)) ?_
      have hw1 : (iI (128 + ((((t : Nat) : Int) / 2 ^ 0) % 64))).toInt8.toInt32 = sb_b (128 + t % 64) := sb_of (by omega) (by omega)
      have hn1 : (out ++ [192 + t / 64]).length = out.length + 1 := by simp
      have hl1 : (out ++ [192 + t / 64]).length ≤ cap0 := hB1.1
      have hg1 := sp_grow_up hc1 hl1 (by omega)
      have hm1 : sp_up ((out ++ [192 + t / 64]).length + 1) ≤ sp_up (out.length + 2) := sp_up_mono (by omega)
      have hc2 : sp_capok (sp_grow cap0 (out ++ [192 + t / 64]).length) := by rw [hg1]; exact sp_capok_max hc1 (sp_up_ok _)
      have hPc := hP.sub (ws' := [(rb, .inr (1, [.int (iI 262144), .ref q0, .int (iI (((out ++ [192 + t / 64]).length : Nat) : Int))])), (q0, .inl (E.2.1 0, cap0, .inl f0))]) [1, 2] rfl
      have hDc := hD.sub (ws' := [(rb, .inr (1, [.int (iI 262144), .ref q0, .int (iI (((out ++ [192 + t / 64]).length : Nat) : Int))])), (q0, .inl (E.2.1 0, cap0, .inl f0))]) [1, 2] (by decide) rfl
      have hFc := va_free (wc := [(rb, .inr (1, [.int (iI 262144), .ref q0, .int (iI (((out ++ [192 + t / 64]).length : Nat) : Int))])), (q0, .inl (E.2.1 0, cap0, .inl f0))]) hD hS hA [1, 2] rfl
      refine zcW (va_runV (As := [.int (iI (128 + ((((t : Nat) : Int) / 2 ^ 0) % 64)))]) (rest := []) S (c_Row_add l E H.size rb q0 cap0 (128 + t % 64) 262144 f0 (out ++ [192 + t / 64]) (iI (128 + ((((t : Nat) : Int) / 2 ^ 0) % 64))) hw1 (by omega) hB1 (by omega) (by omega) (sp_capok_r hc1).1 (sp_capok_r hc1).2.1 hF1) ⟨zcwB (n := 1) S zw_353 zw_2 zw_684 (by decide +kernel) rfl rfl ⟨Nat.le_of_ble_eq_true rfl, Nat.le_of_ble_eq_true rfl⟩, S.2.2.2.2 _ zw_351, S.2.2.2.2 _ zw_352⟩ (zPreV hE (hP 1 _ rfl) rfl ⟨rfl, hPc, hDc.weaken (fun _ _ _ h => hA0 _ h), trivial⟩) rfl rfl hl.1 rfl (lv_room (Nat.le_of_ble_eq_true rfl)) d_Output_put_129 ⟨by (try dsimp only); omega, by (try dsimp only); omega⟩) hS (fun q _ h => hFc q h) hFc (fun v H locs hq hz1 hk1 hS => ?_)
      obtain ⟨rfl, q1, f1, hP1, hD1, hB2, hF2⟩ := hq
      obtain ⟨hP, hD⟩ := va_join (wr := [(h, .inr (6, [.ref en, .ref ca, .ref rb, .ref (E.2.2.1 (mode + 1)), .ref (E.2.2.1 1), .int (iI (bN false))]))]) (w1 := [(rb, .inr (1, [.int (iI 262144), .ref q1, .int (iI ((((out ++ [192 + t / 64]) ++ [128 + t % 64]).length : Nat) : Int))])), (q1, .inl (E.2.1 0, sp_grow cap0 (out ++ [192 + t / 64]).length, .inl f1))]) hP hD [1, 2] [0] rfl rfl (by decide) (by decide) hk1 hFc hP1 hD1
      have hP : va_P E.1 zcl [(h, .inr (6, [.ref en, .ref ca, .ref rb, .ref (E.2.2.1 (mode + 1)), .ref (E.2.2.1 1), .int (iI (bN false))])), (rb, .inr (1, [.int (iI 262144), .ref q1, .int (iI ((((out ++ [192 + t / 64]) ++ [128 + t % 64]).length : Nat) : Int))])), (q1, .inl (E.2.1 0, sp_grow cap0 (out ++ [192 + t / 64]).length, .inl f1))] H := hP
      have hD : va_D A [(h, .inr (6, [.ref en, .ref ca, .ref rb, .ref (E.2.2.1 (mode + 1)), .ref (E.2.2.1 1), .int (iI (bN false))])), (rb, .inr (1, [.int (iI 262144), .ref q1, .int (iI ((((out ++ [192 + t / 64]) ++ [128 + t % 64]).length : Nat) : Int))])), (q1, .inl (E.2.1 0, sp_grow cap0 (out ++ [192 + t / 64]).length, .inl f1))] := hD
      have hE := hE0.at hS hA0
      obtain ⟨cap1, ec1⟩ : ∃ x, x = sp_grow cap0 (out ++ [192 + t / 64]).length := ⟨_, rfl⟩
      rw [← ec1] at hg1 hc2 hB2 hF2 hP hD
      rw [← ec1]
      refine W.widen (k := (cap1 - cap) / 16) (n := 2 * (cap1 - cap)) (by omega) (by omega) ?_
      refine lv_iinc (k := 0) (v := (iI (-1))) (lv' := [(4, .int (iI (-1))), (3, .int (iI 2)), (2, .int (iI ((t : Nat) : Int))), (0, .ref h), (1, .int (iI ((c0 : Nat) : Int)))]) hx hb d_Output_put_132 hl rfl (by decide) (by decide) rfl (fun ls hl => ?_)
      refine lv_goto hx hb d_Output_put_135 rfl ?_
      refine lv_iload hx hb d_Output_put_106 (lv_at hl 0 rfl) ?_
      refine zi_if_lt hx hb d_Output_put_108 rfl (by omega) (fun h108 => ?_) (fun h108 => absurd h108 (by omega))
      have hfin : (out ++ [192 + t / 64]) ++ [128 + t % 64] = out ++ sp_enc utf t := by simp [henc]
      have hlast : sp_up (out.length + 1 + 1) = sp_up (out.length + 2) := rfl
      have hcf : cap1 = capF := by rw [hn1] at hg1 hm1; omega
      have hP9 := hP.sub (ws' := [(h, .inr (6, [.ref en, .ref ca, .ref rb, .ref (E.2.2.1 (mode + 1)), .ref (E.2.2.1 1), .int (iI (bN false))])), (rb, .inr (1, [.int (iI 262144), .ref q1, .int (iI ((((out ++ [192 + t / 64]) ++ [128 + t % 64]).length : Nat) : Int))])), (q1, .inl (E.2.1 0, cap1, .inl f1))]) [0, 1, 2] rfl
      have hD9 := hD.sub (ws' := [(h, .inr (6, [.ref en, .ref ca, .ref rb, .ref (E.2.2.1 (mode + 1)), .ref (E.2.2.1 1), .int (iI (bN false))])), (rb, .inr (1, [.int (iI 262144), .ref q1, .int (iI ((((out ++ [192 + t / 64]) ++ [128 + t % 64]).length : Nat) : Int))])), (q1, .inl (E.2.1 0, cap1, .inl f1))]) [0, 1, 2] (by decide) rfl
      rw [hfin] at hP9 hD9 hB2
      rw [hcf] at hP9 hD9 hB2 hF2
      rw [hcf]
      exact zwv S hr hlk hS (⟨rfl, q1, f1, hP9, hD9, hB2, hF2⟩) (by (try dsimp only); omega) (by (try dsimp only); omega) d_Output_put_138
    · rw [e4] at hl
      have hl : lv_has ls 5 [(3, .int (iI 3)), (2, .int (iI ((t : Nat) : Int))), (0, .ref h), (1, .int (iI ((c0 : Nat) : Int)))] := hl
      have hr4 : ¬ (utf = false ∨ t < 128) ∧ ¬ t < 2048 ∧ t < 65536 := by unfold sp_len at e4; split at e4; omega; split at e4; omega; split at e4; exact ⟨by assumption, by assumption, by assumption⟩; omega
      have henc : sp_enc utf t = [224 + t / 4096, 128 + t / 64 % 64, 128 + t % 64] := by unfold sp_enc; rw [if_neg hr4.1, if_neg hr4.2.1, if_pos hr4.2.2]
      have hcapF : capF = max cap (sp_up (out.length + 3)) := by rw [hcapF0, List.length_append, sp_enc_len, e4]
      have hB0 := hB
      have hF0 := hF
      have hc0 := hc
      refine lv_iload_n hx hb d_Output_put_66 rfl (lv_at hl 0 rfl) ?_
      refine zi_iconst hx hb d_Output_put_67 ?_
      refine zi_icmp_ne hx hb d_Output_put_68 rfl (by omega) (by omega) (fun h68 => ?_) (fun h => absurd h (by omega))
      refine lv_aload_n hx hb d_Output_put_80 rfl (lv_at hl 2 rfl) ?_
      refine zgf S hE (ci := 6) rfl i_Output (hP 0 _ rfl) 2 (by decide) zw_156 rfl d_Output_put_81 ?_
      refine zi_sipush hx hb d_Output_put_84 (by decide) ?_
      refine lv_iload_n hx hb d_Output_put_87 rfl (lv_at hl 0 rfl) ?_
      refine zi_ishr (r := 480) hx hb d_Output_put_88 (by decide) ?_
      refine lv_iload_n hx hb d_Output_put_89 rfl (lv_at hl 1 rfl) ?_
      refine zi_bipush hx hb d_Output_put_90 (by decide) ?_
      refine lv_iload_n hx hb d_Output_put_92 rfl (lv_at hl 0 rfl) ?_
      refine zi_iconst hx hb d_Output_put_93 ?_
      refine zi_isub hx hb d_Output_put_94 ?_
      refine W.eq (g2 := F0 m 95 ls ([.int (iI 2), .int (iI 6), .int (iI ((t : Nat) : Int)), .int (iI 480), .ref rb])) rfl ?_
      refine zi_imul hx hb d_Output_put_95 ?_
      refine W.eq (g2 := F0 m 96 ls ([.int (iI 12), .int (iI ((t : Nat) : Int)), .int (iI 480), .ref rb])) rfl ?_
      refine zi_ishr hx hb d_Output_put_96 (iI_shrN 12 12 (by omega) (by omega) (by decide)) ?_
      refine zi_ior hx hb d_Output_put_97 (iI_orK 480 5 15 (by decide) (by omega) (by omega)) ?_
      have hw0 : (iI (480 + (((t : Nat) : Int) / 2 ^ 12))).toInt8.toInt32 = sb_b (224 + t / 4096) := sb_of (by omega) (by omega)
      have hn0 : (out).length = out.length + 0 := by simp
      have hl0 : (out).length ≤ cap := hB0.1
      have hg0 := sp_grow_up hc0 hl0 (by omega)
      have hm0 : sp_up ((out).length + 1) ≤ sp_up (out.length + 3) := sp_up_mono (by omega)
      have hc1 : sp_capok (sp_grow cap out.length) := by rw [hg0]; exact sp_capok_max hc0 (sp_up_ok _)
      have hPc := hP.sub (ws' := [(rb, .inr (1, [.int (iI 262144), .ref q, .int (iI ((out.length : Nat) : Int))])), (q, .inl (E.2.1 0, cap, .inl f))]) [1, 2] rfl
      have hDc := hD.sub (ws' := [(rb, .inr (1, [.int (iI 262144), .ref q, .int (iI ((out.length : Nat) : Int))])), (q, .inl (E.2.1 0, cap, .inl f))]) [1, 2] (by decide) rfl
      have hFc := va_free (wc := [(rb, .inr (1, [.int (iI 262144), .ref q, .int (iI ((out.length : Nat) : Int))])), (q, .inl (E.2.1 0, cap, .inl f))]) hD hS hA [1, 2] rfl
      refine zcW (va_runV (As := [.int (iI (480 + (((t : Nat) : Int) / 2 ^ 12)))]) (rest := []) S (c_Row_add l E H.size rb q cap (224 + t / 4096) 262144 f out (iI (480 + (((t : Nat) : Int) / 2 ^ 12))) hw0 (by omega) hB0 (by omega) (by omega) (sp_capok_r hc0).1 (sp_capok_r hc0).2.1 hF0) ⟨zcwB (n := 1) S zw_353 zw_2 zw_684 (by decide +kernel) rfl rfl ⟨Nat.le_of_ble_eq_true rfl, Nat.le_of_ble_eq_true rfl⟩, S.2.2.2.2 _ zw_351, S.2.2.2.2 _ zw_352⟩ (zPreV hE (hP 1 _ rfl) rfl ⟨rfl, hPc, hDc.weaken (fun _ _ _ h => hA0 _ h), trivial⟩) rfl rfl hl.1 rfl (lv_room (Nat.le_of_ble_eq_true rfl)) d_Output_put_98 ⟨by (try dsimp only); omega, by (try dsimp only); omega⟩) hS (fun q _ h => hFc q h) hFc (fun v H locs hq hz1 hk1 hS => ?_)
      obtain ⟨rfl, q0, f0, hP1, hD1, hB1, hF1⟩ := hq
      obtain ⟨hP, hD⟩ := va_join (wr := [(h, .inr (6, [.ref en, .ref ca, .ref rb, .ref (E.2.2.1 (mode + 1)), .ref (E.2.2.1 1), .int (iI (bN false))]))]) (w1 := [(rb, .inr (1, [.int (iI 262144), .ref q0, .int (iI (((out ++ [224 + t / 4096]).length : Nat) : Int))])), (q0, .inl (E.2.1 0, sp_grow cap out.length, .inl f0))]) hP hD [1, 2] [0] rfl rfl (by decide) (by decide) hk1 hFc hP1 hD1
      have hP : va_P E.1 zcl [(h, .inr (6, [.ref en, .ref ca, .ref rb, .ref (E.2.2.1 (mode + 1)), .ref (E.2.2.1 1), .int (iI (bN false))])), (rb, .inr (1, [.int (iI 262144), .ref q0, .int (iI (((out ++ [224 + t / 4096]).length : Nat) : Int))])), (q0, .inl (E.2.1 0, sp_grow cap out.length, .inl f0))] H := hP
      have hD : va_D A [(h, .inr (6, [.ref en, .ref ca, .ref rb, .ref (E.2.2.1 (mode + 1)), .ref (E.2.2.1 1), .int (iI (bN false))])), (rb, .inr (1, [.int (iI 262144), .ref q0, .int (iI (((out ++ [224 + t / 4096]).length : Nat) : Int))])), (q0, .inl (E.2.1 0, sp_grow cap out.length, .inl f0))] := hD
      have hE := hE0.at hS hA0
      obtain ⟨cap0, ec0⟩ : ∃ x, x = sp_grow cap out.length := ⟨_, rfl⟩
      rw [← ec0] at hg0 hc1 hB1 hF1 hP hD
      rw [← ec0]
      refine W.widen (k := (cap0 - cap) / 16) (n := 2 * (cap0 - cap)) (by omega) (by omega) ?_
      refine lv_iload_n hx hb d_Output_put_101 rfl (lv_at hl 0 rfl) ?_
      refine zi_iconst hx hb d_Output_put_102 ?_
      refine zi_isub hx hb d_Output_put_103 ?_
      refine W.eq (g2 := F0 m 104 ls ([.int (iI 1)])) rfl ?_
      refine lv_istore (lv' := [(4, .int (iI 1)), (3, .int (iI 3)), (2, .int (iI ((t : Nat) : Int))), (0, .ref h), (1, .int (iI ((c0 : Nat) : Int)))]) hx hb d_Output_put_104 hl (by decide) rfl (fun ls hl => ?_)
      refine lv_iload hx hb d_Output_put_106 (lv_at hl 0 rfl) ?_
      refine zi_if_lt hx hb d_Output_put_108 rfl (by omega) (fun h108 => absurd h108 (by omega)) (fun h108 => ?_)
      refine lv_aload_n hx hb d_Output_put_111 rfl (lv_at hl 3 rfl) ?_
      refine zgf S hE (ci := 6) rfl i_Output (hP 0 _ rfl) 2 (by decide) zw_156 rfl d_Output_put_112 ?_
      refine zi_sipush hx hb d_Output_put_115 (by decide) ?_
      refine lv_iload_n hx hb d_Output_put_118 rfl (lv_at hl 2 rfl) ?_
      refine zi_bipush hx hb d_Output_put_119 (by decide) ?_
      refine lv_iload hx hb d_Output_put_121 (lv_at hl 0 rfl) ?_
      refine zi_imul hx hb d_Output_put_123 ?_
      refine W.eq (g2 := F0 m 124 ls ([.int (iI 6), .int (iI ((t : Nat) : Int)), .int (iI 128), .ref rb])) rfl ?_
      refine zi_ishr hx hb d_Output_put_124 (iI_shrN 6 6 (by omega) (by omega) (by decide)) ?_
      refine zi_bipush hx hb d_Output_put_125 (by decide) ?_
      refine zi_iand hx hb d_Output_put_127 (iI_mask 6 63 64 (by omega) (by decide) (by decide)) ?_
      refine zi_ior hx hb d_Output_put_128 (iI_orK 128 7 1 (by decide) (by omega) (by omega)) ?_
      have hw1 : (iI (128 + ((((t : Nat) : Int) / 2 ^ 6) % 64))).toInt8.toInt32 = sb_b (128 + t / 64 % 64) := sb_of (by omega) (by omega)
      have hn1 : (out ++ [224 + t / 4096]).length = out.length + 1 := by simp
      have hl1 : (out ++ [224 + t / 4096]).length ≤ cap0 := hB1.1
      have hg1 := sp_grow_up hc1 hl1 (by omega)
      have hm1 : sp_up ((out ++ [224 + t / 4096]).length + 1) ≤ sp_up (out.length + 3) := sp_up_mono (by omega)
      have hc2 : sp_capok (sp_grow cap0 (out ++ [224 + t / 4096]).length) := by rw [hg1]; exact sp_capok_max hc1 (sp_up_ok _)
      have hPc := hP.sub (ws' := [(rb, .inr (1, [.int (iI 262144), .ref q0, .int (iI (((out ++ [224 + t / 4096]).length : Nat) : Int))])), (q0, .inl (E.2.1 0, cap0, .inl f0))]) [1, 2] rfl
      have hDc := hD.sub (ws' := [(rb, .inr (1, [.int (iI 262144), .ref q0, .int (iI (((out ++ [224 + t / 4096]).length : Nat) : Int))])), (q0, .inl (E.2.1 0, cap0, .inl f0))]) [1, 2] (by decide) rfl
      have hFc := va_free (wc := [(rb, .inr (1, [.int (iI 262144), .ref q0, .int (iI (((out ++ [224 + t / 4096]).length : Nat) : Int))])), (q0, .inl (E.2.1 0, cap0, .inl f0))]) hD hS hA [1, 2] rfl
      refine zcW (va_runV (As := [.int (iI (128 + ((((t : Nat) : Int) / 2 ^ 6) % 64)))]) (rest := []) S (c_Row_add l E H.size rb q0 cap0 (128 + t / 64 % 64) 262144 f0 (out ++ [224 + t / 4096]) (iI (128 + ((((t : Nat) : Int) / 2 ^ 6) % 64))) hw1 (by omega) hB1 (by omega) (by omega) (sp_capok_r hc1).1 (sp_capok_r hc1).2.1 hF1) ⟨zcwB (n := 1) S zw_353 zw_2 zw_684 (by decide +kernel) rfl rfl ⟨Nat.le_of_ble_eq_true rfl, Nat.le_of_ble_eq_true rfl⟩, S.2.2.2.2 _ zw_351, S.2.2.2.2 _ zw_352⟩ (zPreV hE (hP 1 _ rfl) rfl ⟨rfl, hPc, hDc.weaken (fun _ _ _ h => hA0 _ h), trivial⟩) rfl rfl hl.1 rfl (lv_room (Nat.le_of_ble_eq_true rfl)) d_Output_put_129 ⟨by (try dsimp only); omega, by (try dsimp only); omega⟩) hS (fun q _ h => hFc q h) hFc (fun v H locs hq hz1 hk1 hS => ?_)
      obtain ⟨rfl, q1, f1, hP1, hD1, hB2, hF2⟩ := hq
      obtain ⟨hP, hD⟩ := va_join (wr := [(h, .inr (6, [.ref en, .ref ca, .ref rb, .ref (E.2.2.1 (mode + 1)), .ref (E.2.2.1 1), .int (iI (bN false))]))]) (w1 := [(rb, .inr (1, [.int (iI 262144), .ref q1, .int (iI ((((out ++ [224 + t / 4096]) ++ [128 + t / 64 % 64]).length : Nat) : Int))])), (q1, .inl (E.2.1 0, sp_grow cap0 (out ++ [224 + t / 4096]).length, .inl f1))]) hP hD [1, 2] [0] rfl rfl (by decide) (by decide) hk1 hFc hP1 hD1
      have hP : va_P E.1 zcl [(h, .inr (6, [.ref en, .ref ca, .ref rb, .ref (E.2.2.1 (mode + 1)), .ref (E.2.2.1 1), .int (iI (bN false))])), (rb, .inr (1, [.int (iI 262144), .ref q1, .int (iI ((((out ++ [224 + t / 4096]) ++ [128 + t / 64 % 64]).length : Nat) : Int))])), (q1, .inl (E.2.1 0, sp_grow cap0 (out ++ [224 + t / 4096]).length, .inl f1))] H := hP
      have hD : va_D A [(h, .inr (6, [.ref en, .ref ca, .ref rb, .ref (E.2.2.1 (mode + 1)), .ref (E.2.2.1 1), .int (iI (bN false))])), (rb, .inr (1, [.int (iI 262144), .ref q1, .int (iI ((((out ++ [224 + t / 4096]) ++ [128 + t / 64 % 64]).length : Nat) : Int))])), (q1, .inl (E.2.1 0, sp_grow cap0 (out ++ [224 + t / 4096]).length, .inl f1))] := hD
      have hE := hE0.at hS hA0
      obtain ⟨cap1, ec1⟩ : ∃ x, x = sp_grow cap0 (out ++ [224 + t / 4096]).length := ⟨_, rfl⟩
      rw [← ec1] at hg1 hc2 hB2 hF2 hP hD
      rw [← ec1]
      refine W.widen (k := (cap1 - cap) / 16) (n := 2 * (cap1 - cap)) (by omega) (by omega) ?_
      refine lv_iinc (k := 0) (v := (iI 0)) (lv' := [(4, .int (iI 0)), (3, .int (iI 3)), (2, .int (iI ((t : Nat) : Int))), (0, .ref h), (1, .int (iI ((c0 : Nat) : Int)))]) hx hb d_Output_put_132 hl rfl (by decide) (by decide) rfl (fun ls hl => ?_)
      refine lv_goto hx hb d_Output_put_135 rfl ?_
      refine lv_iload hx hb d_Output_put_106 (lv_at hl 0 rfl) ?_
      refine zi_if_lt hx hb d_Output_put_108 rfl (by omega) (fun h108 => absurd h108 (by omega)) (fun h108 => ?_)
      refine lv_aload_n hx hb d_Output_put_111 rfl (lv_at hl 3 rfl) ?_
      refine zgf S hE (ci := 6) rfl i_Output (hP 0 _ rfl) 2 (by decide) zw_156 rfl d_Output_put_112 ?_
      refine zi_sipush hx hb d_Output_put_115 (by decide) ?_
      refine lv_iload_n hx hb d_Output_put_118 rfl (lv_at hl 2 rfl) ?_
      refine zi_bipush hx hb d_Output_put_119 (by decide) ?_
      refine lv_iload hx hb d_Output_put_121 (lv_at hl 0 rfl) ?_
      refine zi_imul hx hb d_Output_put_123 ?_
      refine W.eq (g2 := F0 m 124 ls ([.int (iI 0), .int (iI ((t : Nat) : Int)), .int (iI 128), .ref rb])) rfl ?_
      refine zi_ishr hx hb d_Output_put_124 (iI_shrN 0 0 (by omega) (by omega) (by decide)) ?_
      refine zi_bipush hx hb d_Output_put_125 (by decide) ?_
      refine zi_iand hx hb d_Output_put_127 (iI_mask 6 63 64 (by omega) (by decide) (by decide)) ?_
      refine zi_ior hx hb d_Output_put_128 (iI_orK 128 7 1 (by decide) (by omega) (by omega)) ?_
      have hw2 : (iI (128 + ((((t : Nat) : Int) / 2 ^ 0) % 64))).toInt8.toInt32 = sb_b (128 + t % 64) := sb_of (by omega) (by omega)
      have hn2 : ((out ++ [224 + t / 4096]) ++ [128 + t / 64 % 64]).length = out.length + 2 := by simp
      have hl2 : ((out ++ [224 + t / 4096]) ++ [128 + t / 64 % 64]).length ≤ cap1 := hB2.1
      have hg2 := sp_grow_up hc2 hl2 (by omega)
      have hm2 : sp_up (((out ++ [224 + t / 4096]) ++ [128 + t / 64 % 64]).length + 1) ≤ sp_up (out.length + 3) := sp_up_mono (by omega)
      have hc3 : sp_capok (sp_grow cap1 ((out ++ [224 + t / 4096]) ++ [128 + t / 64 % 64]).length) := by rw [hg2]; exact sp_capok_max hc2 (sp_up_ok _)
      have hPc := hP.sub (ws' := [(rb, .inr (1, [.int (iI 262144), .ref q1, .int (iI ((((out ++ [224 + t / 4096]) ++ [128 + t / 64 % 64]).length : Nat) : Int))])), (q1, .inl (E.2.1 0, cap1, .inl f1))]) [1, 2] rfl
      have hDc := hD.sub (ws' := [(rb, .inr (1, [.int (iI 262144), .ref q1, .int (iI ((((out ++ [224 + t / 4096]) ++ [128 + t / 64 % 64]).length : Nat) : Int))])), (q1, .inl (E.2.1 0, cap1, .inl f1))]) [1, 2] (by decide) rfl
      have hFc := va_free (wc := [(rb, .inr (1, [.int (iI 262144), .ref q1, .int (iI ((((out ++ [224 + t / 4096]) ++ [128 + t / 64 % 64]).length : Nat) : Int))])), (q1, .inl (E.2.1 0, cap1, .inl f1))]) hD hS hA [1, 2] rfl
      refine zcW (va_runV (As := [.int (iI (128 + ((((t : Nat) : Int) / 2 ^ 0) % 64)))]) (rest := []) S (c_Row_add l E H.size rb q1 cap1 (128 + t % 64) 262144 f1 ((out ++ [224 + t / 4096]) ++ [128 + t / 64 % 64]) (iI (128 + ((((t : Nat) : Int) / 2 ^ 0) % 64))) hw2 (by omega) hB2 (by omega) (by omega) (sp_capok_r hc2).1 (sp_capok_r hc2).2.1 hF2) ⟨zcwB (n := 1) S zw_353 zw_2 zw_684 (by decide +kernel) rfl rfl ⟨Nat.le_of_ble_eq_true rfl, Nat.le_of_ble_eq_true rfl⟩, S.2.2.2.2 _ zw_351, S.2.2.2.2 _ zw_352⟩ (zPreV hE (hP 1 _ rfl) rfl ⟨rfl, hPc, hDc.weaken (fun _ _ _ h => hA0 _ h), trivial⟩) rfl rfl hl.1 rfl (lv_room (Nat.le_of_ble_eq_true rfl)) d_Output_put_129 ⟨by (try dsimp only); omega, by (try dsimp only); omega⟩) hS (fun q _ h => hFc q h) hFc (fun v H locs hq hz1 hk1 hS => ?_)
      obtain ⟨rfl, q2, f2, hP1, hD1, hB3, hF3⟩ := hq
      obtain ⟨hP, hD⟩ := va_join (wr := [(h, .inr (6, [.ref en, .ref ca, .ref rb, .ref (E.2.2.1 (mode + 1)), .ref (E.2.2.1 1), .int (iI (bN false))]))]) (w1 := [(rb, .inr (1, [.int (iI 262144), .ref q2, .int (iI (((((out ++ [224 + t / 4096]) ++ [128 + t / 64 % 64]) ++ [128 + t % 64]).length : Nat) : Int))])), (q2, .inl (E.2.1 0, sp_grow cap1 ((out ++ [224 + t / 4096]) ++ [128 + t / 64 % 64]).length, .inl f2))]) hP hD [1, 2] [0] rfl rfl (by decide) (by decide) hk1 hFc hP1 hD1
      have hP : va_P E.1 zcl [(h, .inr (6, [.ref en, .ref ca, .ref rb, .ref (E.2.2.1 (mode + 1)), .ref (E.2.2.1 1), .int (iI (bN false))])), (rb, .inr (1, [.int (iI 262144), .ref q2, .int (iI (((((out ++ [224 + t / 4096]) ++ [128 + t / 64 % 64]) ++ [128 + t % 64]).length : Nat) : Int))])), (q2, .inl (E.2.1 0, sp_grow cap1 ((out ++ [224 + t / 4096]) ++ [128 + t / 64 % 64]).length, .inl f2))] H := hP
      have hD : va_D A [(h, .inr (6, [.ref en, .ref ca, .ref rb, .ref (E.2.2.1 (mode + 1)), .ref (E.2.2.1 1), .int (iI (bN false))])), (rb, .inr (1, [.int (iI 262144), .ref q2, .int (iI (((((out ++ [224 + t / 4096]) ++ [128 + t / 64 % 64]) ++ [128 + t % 64]).length : Nat) : Int))])), (q2, .inl (E.2.1 0, sp_grow cap1 ((out ++ [224 + t / 4096]) ++ [128 + t / 64 % 64]).length, .inl f2))] := hD
      have hE := hE0.at hS hA0
      obtain ⟨cap2, ec2⟩ : ∃ x, x = sp_grow cap1 ((out ++ [224 + t / 4096]) ++ [128 + t / 64 % 64]).length := ⟨_, rfl⟩
      rw [← ec2] at hg2 hc3 hB3 hF3 hP hD
      rw [← ec2]
      refine W.widen (k := (cap2 - cap) / 16) (n := 2 * (cap2 - cap)) (by omega) (by omega) ?_
      refine lv_iinc (k := 0) (v := (iI (-1))) (lv' := [(4, .int (iI (-1))), (3, .int (iI 3)), (2, .int (iI ((t : Nat) : Int))), (0, .ref h), (1, .int (iI ((c0 : Nat) : Int)))]) hx hb d_Output_put_132 hl rfl (by decide) (by decide) rfl (fun ls hl => ?_)
      refine lv_goto hx hb d_Output_put_135 rfl ?_
      refine lv_iload hx hb d_Output_put_106 (lv_at hl 0 rfl) ?_
      refine zi_if_lt hx hb d_Output_put_108 rfl (by omega) (fun h108 => ?_) (fun h108 => absurd h108 (by omega))
      have hfin : ((out ++ [224 + t / 4096]) ++ [128 + t / 64 % 64]) ++ [128 + t % 64] = out ++ sp_enc utf t := by simp [henc]
      have hlast : sp_up (out.length + 2 + 1) = sp_up (out.length + 3) := rfl
      have hcf : cap2 = capF := by rw [hn2] at hg2 hm2; omega
      have hP9 := hP.sub (ws' := [(h, .inr (6, [.ref en, .ref ca, .ref rb, .ref (E.2.2.1 (mode + 1)), .ref (E.2.2.1 1), .int (iI (bN false))])), (rb, .inr (1, [.int (iI 262144), .ref q2, .int (iI (((((out ++ [224 + t / 4096]) ++ [128 + t / 64 % 64]) ++ [128 + t % 64]).length : Nat) : Int))])), (q2, .inl (E.2.1 0, cap2, .inl f2))]) [0, 1, 2] rfl
      have hD9 := hD.sub (ws' := [(h, .inr (6, [.ref en, .ref ca, .ref rb, .ref (E.2.2.1 (mode + 1)), .ref (E.2.2.1 1), .int (iI (bN false))])), (rb, .inr (1, [.int (iI 262144), .ref q2, .int (iI (((((out ++ [224 + t / 4096]) ++ [128 + t / 64 % 64]) ++ [128 + t % 64]).length : Nat) : Int))])), (q2, .inl (E.2.1 0, cap2, .inl f2))]) [0, 1, 2] (by decide) rfl
      rw [hfin] at hP9 hD9 hB3
      rw [hcf] at hP9 hD9 hB3 hF3
      rw [hcf]
      exact zwv S hr hlk hS (⟨rfl, q2, f2, hP9, hD9, hB3, hF3⟩) (by (try dsimp only); omega) (by (try dsimp only); omega) d_Output_put_138
    · rw [e4] at hl
      have hl : lv_has ls 5 [(3, .int (iI 4)), (2, .int (iI ((t : Nat) : Int))), (0, .ref h), (1, .int (iI ((c0 : Nat) : Int)))] := hl
      have hr4 : ¬ (utf = false ∨ t < 128) ∧ ¬ t < 2048 ∧ ¬ t < 65536 := by unfold sp_len at e4; split at e4; omega; split at e4; omega; split at e4; omega; exact ⟨by assumption, by assumption, by assumption⟩
      have henc : sp_enc utf t = [240 + t / 262144, 128 + t / 4096 % 64, 128 + t / 64 % 64, 128 + t % 64] := by unfold sp_enc; rw [if_neg hr4.1, if_neg hr4.2.1, if_neg hr4.2.2]
      have hcapF : capF = max cap (sp_up (out.length + 4)) := by rw [hcapF0, List.length_append, sp_enc_len, e4]
      have hB0 := hB
      have hF0 := hF
      have hc0 := hc
      refine lv_iload_n hx hb d_Output_put_66 rfl (lv_at hl 0 rfl) ?_
      refine zi_iconst hx hb d_Output_put_67 ?_
      refine zi_icmp_ne hx hb d_Output_put_68 rfl (by omega) (by omega) (fun h68 => ?_) (fun h => absurd h (by omega))
      refine lv_aload_n hx hb d_Output_put_80 rfl (lv_at hl 2 rfl) ?_
      refine zgf S hE (ci := 6) rfl i_Output (hP 0 _ rfl) 2 (by decide) zw_156 rfl d_Output_put_81 ?_
      refine zi_sipush hx hb d_Output_put_84 (by decide) ?_
      refine lv_iload_n hx hb d_Output_put_87 rfl (lv_at hl 0 rfl) ?_
      refine zi_ishr (r := 240) hx hb d_Output_put_88 (by decide) ?_
      refine lv_iload_n hx hb d_Output_put_89 rfl (lv_at hl 1 rfl) ?_
      refine zi_bipush hx hb d_Output_put_90 (by decide) ?_
      refine lv_iload_n hx hb d_Output_put_92 rfl (lv_at hl 0 rfl) ?_
      refine zi_iconst hx hb d_Output_put_93 ?_
      refine zi_isub hx hb d_Output_put_94 ?_
      refine W.eq (g2 := F0 m 95 ls ([.int (iI 3), .int (iI 6), .int (iI ((t : Nat) : Int)), .int (iI 240), .ref rb])) rfl ?_
      refine zi_imul hx hb d_Output_put_95 ?_
      refine W.eq (g2 := F0 m 96 ls ([.int (iI 18), .int (iI ((t : Nat) : Int)), .int (iI 240), .ref rb])) rfl ?_
      refine zi_ishr hx hb d_Output_put_96 (iI_shrN 18 18 (by omega) (by omega) (by decide)) ?_
      refine zi_ior hx hb d_Output_put_97 (iI_orK 240 4 15 (by decide) (by omega) (by omega)) ?_
      have hw0 : (iI (240 + (((t : Nat) : Int) / 2 ^ 18))).toInt8.toInt32 = sb_b (240 + t / 262144) := sb_of (by omega) (by omega)
      have hn0 : (out).length = out.length + 0 := by simp
      have hl0 : (out).length ≤ cap := hB0.1
      have hg0 := sp_grow_up hc0 hl0 (by omega)
      have hm0 : sp_up ((out).length + 1) ≤ sp_up (out.length + 4) := sp_up_mono (by omega)
      have hc1 : sp_capok (sp_grow cap out.length) := by rw [hg0]; exact sp_capok_max hc0 (sp_up_ok _)
      have hPc := hP.sub (ws' := [(rb, .inr (1, [.int (iI 262144), .ref q, .int (iI ((out.length : Nat) : Int))])), (q, .inl (E.2.1 0, cap, .inl f))]) [1, 2] rfl
      have hDc := hD.sub (ws' := [(rb, .inr (1, [.int (iI 262144), .ref q, .int (iI ((out.length : Nat) : Int))])), (q, .inl (E.2.1 0, cap, .inl f))]) [1, 2] (by decide) rfl
      have hFc := va_free (wc := [(rb, .inr (1, [.int (iI 262144), .ref q, .int (iI ((out.length : Nat) : Int))])), (q, .inl (E.2.1 0, cap, .inl f))]) hD hS hA [1, 2] rfl
      refine zcW (va_runV (As := [.int (iI (240 + (((t : Nat) : Int) / 2 ^ 18)))]) (rest := []) S (c_Row_add l E H.size rb q cap (240 + t / 262144) 262144 f out (iI (240 + (((t : Nat) : Int) / 2 ^ 18))) hw0 (by omega) hB0 (by omega) (by omega) (sp_capok_r hc0).1 (sp_capok_r hc0).2.1 hF0) ⟨zcwB (n := 1) S zw_353 zw_2 zw_684 (by decide +kernel) rfl rfl ⟨Nat.le_of_ble_eq_true rfl, Nat.le_of_ble_eq_true rfl⟩, S.2.2.2.2 _ zw_351, S.2.2.2.2 _ zw_352⟩ (zPreV hE (hP 1 _ rfl) rfl ⟨rfl, hPc, hDc.weaken (fun _ _ _ h => hA0 _ h), trivial⟩) rfl rfl hl.1 rfl (lv_room (Nat.le_of_ble_eq_true rfl)) d_Output_put_98 ⟨by (try dsimp only); omega, by (try dsimp only); omega⟩) hS (fun q _ h => hFc q h) hFc (fun v H locs hq hz1 hk1 hS => ?_)
      obtain ⟨rfl, q0, f0, hP1, hD1, hB1, hF1⟩ := hq
      obtain ⟨hP, hD⟩ := va_join (wr := [(h, .inr (6, [.ref en, .ref ca, .ref rb, .ref (E.2.2.1 (mode + 1)), .ref (E.2.2.1 1), .int (iI (bN false))]))]) (w1 := [(rb, .inr (1, [.int (iI 262144), .ref q0, .int (iI (((out ++ [240 + t / 262144]).length : Nat) : Int))])), (q0, .inl (E.2.1 0, sp_grow cap out.length, .inl f0))]) hP hD [1, 2] [0] rfl rfl (by decide) (by decide) hk1 hFc hP1 hD1
      have hP : va_P E.1 zcl [(h, .inr (6, [.ref en, .ref ca, .ref rb, .ref (E.2.2.1 (mode + 1)), .ref (E.2.2.1 1), .int (iI (bN false))])), (rb, .inr (1, [.int (iI 262144), .ref q0, .int (iI (((out ++ [240 + t / 262144]).length : Nat) : Int))])), (q0, .inl (E.2.1 0, sp_grow cap out.length, .inl f0))] H := hP
      have hD : va_D A [(h, .inr (6, [.ref en, .ref ca, .ref rb, .ref (E.2.2.1 (mode + 1)), .ref (E.2.2.1 1), .int (iI (bN false))])), (rb, .inr (1, [.int (iI 262144), .ref q0, .int (iI (((out ++ [240 + t / 262144]).length : Nat) : Int))])), (q0, .inl (E.2.1 0, sp_grow cap out.length, .inl f0))] := hD
      have hE := hE0.at hS hA0
      obtain ⟨cap0, ec0⟩ : ∃ x, x = sp_grow cap out.length := ⟨_, rfl⟩
      rw [← ec0] at hg0 hc1 hB1 hF1 hP hD
      rw [← ec0]
      refine W.widen (k := (cap0 - cap) / 16) (n := 2 * (cap0 - cap)) (by omega) (by omega) ?_
      refine lv_iload_n hx hb d_Output_put_101 rfl (lv_at hl 0 rfl) ?_
      refine zi_iconst hx hb d_Output_put_102 ?_
      refine zi_isub hx hb d_Output_put_103 ?_
      refine W.eq (g2 := F0 m 104 ls ([.int (iI 2)])) rfl ?_
      refine lv_istore (lv' := [(4, .int (iI 2)), (3, .int (iI 4)), (2, .int (iI ((t : Nat) : Int))), (0, .ref h), (1, .int (iI ((c0 : Nat) : Int)))]) hx hb d_Output_put_104 hl (by decide) rfl (fun ls hl => ?_)
      refine lv_iload hx hb d_Output_put_106 (lv_at hl 0 rfl) ?_
      refine zi_if_lt hx hb d_Output_put_108 rfl (by omega) (fun h108 => absurd h108 (by omega)) (fun h108 => ?_)
      refine lv_aload_n hx hb d_Output_put_111 rfl (lv_at hl 3 rfl) ?_
      refine zgf S hE (ci := 6) rfl i_Output (hP 0 _ rfl) 2 (by decide) zw_156 rfl d_Output_put_112 ?_
      refine zi_sipush hx hb d_Output_put_115 (by decide) ?_
      refine lv_iload_n hx hb d_Output_put_118 rfl (lv_at hl 2 rfl) ?_
      refine zi_bipush hx hb d_Output_put_119 (by decide) ?_
      refine lv_iload hx hb d_Output_put_121 (lv_at hl 0 rfl) ?_
      refine zi_imul hx hb d_Output_put_123 ?_
      refine W.eq (g2 := F0 m 124 ls ([.int (iI 12), .int (iI ((t : Nat) : Int)), .int (iI 128), .ref rb])) rfl ?_
      refine zi_ishr hx hb d_Output_put_124 (iI_shrN 12 12 (by omega) (by omega) (by decide)) ?_
      refine zi_bipush hx hb d_Output_put_125 (by decide) ?_
      refine zi_iand hx hb d_Output_put_127 (iI_mask 6 63 64 (by omega) (by decide) (by decide)) ?_
      refine zi_ior hx hb d_Output_put_128 (iI_orK 128 7 1 (by decide) (by omega) (by omega)) ?_
      have hw1 : (iI (128 + ((((t : Nat) : Int) / 2 ^ 12) % 64))).toInt8.toInt32 = sb_b (128 + t / 4096 % 64) := sb_of (by omega) (by omega)
      have hn1 : (out ++ [240 + t / 262144]).length = out.length + 1 := by simp
      have hl1 : (out ++ [240 + t / 262144]).length ≤ cap0 := hB1.1
      have hg1 := sp_grow_up hc1 hl1 (by omega)
      have hm1 : sp_up ((out ++ [240 + t / 262144]).length + 1) ≤ sp_up (out.length + 4) := sp_up_mono (by omega)
      have hc2 : sp_capok (sp_grow cap0 (out ++ [240 + t / 262144]).length) := by rw [hg1]; exact sp_capok_max hc1 (sp_up_ok _)
      have hPc := hP.sub (ws' := [(rb, .inr (1, [.int (iI 262144), .ref q0, .int (iI (((out ++ [240 + t / 262144]).length : Nat) : Int))])), (q0, .inl (E.2.1 0, cap0, .inl f0))]) [1, 2] rfl
      have hDc := hD.sub (ws' := [(rb, .inr (1, [.int (iI 262144), .ref q0, .int (iI (((out ++ [240 + t / 262144]).length : Nat) : Int))])), (q0, .inl (E.2.1 0, cap0, .inl f0))]) [1, 2] (by decide) rfl
      have hFc := va_free (wc := [(rb, .inr (1, [.int (iI 262144), .ref q0, .int (iI (((out ++ [240 + t / 262144]).length : Nat) : Int))])), (q0, .inl (E.2.1 0, cap0, .inl f0))]) hD hS hA [1, 2] rfl
      refine zcW (va_runV (As := [.int (iI (128 + ((((t : Nat) : Int) / 2 ^ 12) % 64)))]) (rest := []) S (c_Row_add l E H.size rb q0 cap0 (128 + t / 4096 % 64) 262144 f0 (out ++ [240 + t / 262144]) (iI (128 + ((((t : Nat) : Int) / 2 ^ 12) % 64))) hw1 (by omega) hB1 (by omega) (by omega) (sp_capok_r hc1).1 (sp_capok_r hc1).2.1 hF1) ⟨zcwB (n := 1) S zw_353 zw_2 zw_684 (by decide +kernel) rfl rfl ⟨Nat.le_of_ble_eq_true rfl, Nat.le_of_ble_eq_true rfl⟩, S.2.2.2.2 _ zw_351, S.2.2.2.2 _ zw_352⟩ (zPreV hE (hP 1 _ rfl) rfl ⟨rfl, hPc, hDc.weaken (fun _ _ _ h => hA0 _ h), trivial⟩) rfl rfl hl.1 rfl (lv_room (Nat.le_of_ble_eq_true rfl)) d_Output_put_129 ⟨by (try dsimp only); omega, by (try dsimp only); omega⟩) hS (fun q _ h => hFc q h) hFc (fun v H locs hq hz1 hk1 hS => ?_)
      obtain ⟨rfl, q1, f1, hP1, hD1, hB2, hF2⟩ := hq
      obtain ⟨hP, hD⟩ := va_join (wr := [(h, .inr (6, [.ref en, .ref ca, .ref rb, .ref (E.2.2.1 (mode + 1)), .ref (E.2.2.1 1), .int (iI (bN false))]))]) (w1 := [(rb, .inr (1, [.int (iI 262144), .ref q1, .int (iI ((((out ++ [240 + t / 262144]) ++ [128 + t / 4096 % 64]).length : Nat) : Int))])), (q1, .inl (E.2.1 0, sp_grow cap0 (out ++ [240 + t / 262144]).length, .inl f1))]) hP hD [1, 2] [0] rfl rfl (by decide) (by decide) hk1 hFc hP1 hD1
      have hP : va_P E.1 zcl [(h, .inr (6, [.ref en, .ref ca, .ref rb, .ref (E.2.2.1 (mode + 1)), .ref (E.2.2.1 1), .int (iI (bN false))])), (rb, .inr (1, [.int (iI 262144), .ref q1, .int (iI ((((out ++ [240 + t / 262144]) ++ [128 + t / 4096 % 64]).length : Nat) : Int))])), (q1, .inl (E.2.1 0, sp_grow cap0 (out ++ [240 + t / 262144]).length, .inl f1))] H := hP
      have hD : va_D A [(h, .inr (6, [.ref en, .ref ca, .ref rb, .ref (E.2.2.1 (mode + 1)), .ref (E.2.2.1 1), .int (iI (bN false))])), (rb, .inr (1, [.int (iI 262144), .ref q1, .int (iI ((((out ++ [240 + t / 262144]) ++ [128 + t / 4096 % 64]).length : Nat) : Int))])), (q1, .inl (E.2.1 0, sp_grow cap0 (out ++ [240 + t / 262144]).length, .inl f1))] := hD
      have hE := hE0.at hS hA0
      obtain ⟨cap1, ec1⟩ : ∃ x, x = sp_grow cap0 (out ++ [240 + t / 262144]).length := ⟨_, rfl⟩
      rw [← ec1] at hg1 hc2 hB2 hF2 hP hD
      rw [← ec1]
      refine W.widen (k := (cap1 - cap) / 16) (n := 2 * (cap1 - cap)) (by omega) (by omega) ?_
      refine lv_iinc (k := 0) (v := (iI 1)) (lv' := [(4, .int (iI 1)), (3, .int (iI 4)), (2, .int (iI ((t : Nat) : Int))), (0, .ref h), (1, .int (iI ((c0 : Nat) : Int)))]) hx hb d_Output_put_132 hl rfl (by decide) (by decide) rfl (fun ls hl => ?_)
      refine lv_goto hx hb d_Output_put_135 rfl ?_
      refine lv_iload hx hb d_Output_put_106 (lv_at hl 0 rfl) ?_
      refine zi_if_lt hx hb d_Output_put_108 rfl (by omega) (fun h108 => absurd h108 (by omega)) (fun h108 => ?_)
      refine lv_aload_n hx hb d_Output_put_111 rfl (lv_at hl 3 rfl) ?_
      refine zgf S hE (ci := 6) rfl i_Output (hP 0 _ rfl) 2 (by decide) zw_156 rfl d_Output_put_112 ?_
      refine zi_sipush hx hb d_Output_put_115 (by decide) ?_
      refine lv_iload_n hx hb d_Output_put_118 rfl (lv_at hl 2 rfl) ?_
      refine zi_bipush hx hb d_Output_put_119 (by decide) ?_
      refine lv_iload hx hb d_Output_put_121 (lv_at hl 0 rfl) ?_
      refine zi_imul hx hb d_Output_put_123 ?_
      refine W.eq (g2 := F0 m 124 ls ([.int (iI 6), .int (iI ((t : Nat) : Int)), .int (iI 128), .ref rb])) rfl ?_
      refine zi_ishr hx hb d_Output_put_124 (iI_shrN 6 6 (by omega) (by omega) (by decide)) ?_
      refine zi_bipush hx hb d_Output_put_125 (by decide) ?_
      refine zi_iand hx hb d_Output_put_127 (iI_mask 6 63 64 (by omega) (by decide) (by decide)) ?_
      refine zi_ior hx hb d_Output_put_128 (iI_orK 128 7 1 (by decide) (by omega) (by omega)) ?_
      have hw2 : (iI (128 + ((((t : Nat) : Int) / 2 ^ 6) % 64))).toInt8.toInt32 = sb_b (128 + t / 64 % 64) := sb_of (by omega) (by omega)
      have hn2 : ((out ++ [240 + t / 262144]) ++ [128 + t / 4096 % 64]).length = out.length + 2 := by simp
      have hl2 : ((out ++ [240 + t / 262144]) ++ [128 + t / 4096 % 64]).length ≤ cap1 := hB2.1
      have hg2 := sp_grow_up hc2 hl2 (by omega)
      have hm2 : sp_up (((out ++ [240 + t / 262144]) ++ [128 + t / 4096 % 64]).length + 1) ≤ sp_up (out.length + 4) := sp_up_mono (by omega)
      have hc3 : sp_capok (sp_grow cap1 ((out ++ [240 + t / 262144]) ++ [128 + t / 4096 % 64]).length) := by rw [hg2]; exact sp_capok_max hc2 (sp_up_ok _)
      have hPc := hP.sub (ws' := [(rb, .inr (1, [.int (iI 262144), .ref q1, .int (iI ((((out ++ [240 + t / 262144]) ++ [128 + t / 4096 % 64]).length : Nat) : Int))])), (q1, .inl (E.2.1 0, cap1, .inl f1))]) [1, 2] rfl
      have hDc := hD.sub (ws' := [(rb, .inr (1, [.int (iI 262144), .ref q1, .int (iI ((((out ++ [240 + t / 262144]) ++ [128 + t / 4096 % 64]).length : Nat) : Int))])), (q1, .inl (E.2.1 0, cap1, .inl f1))]) [1, 2] (by decide) rfl
      have hFc := va_free (wc := [(rb, .inr (1, [.int (iI 262144), .ref q1, .int (iI ((((out ++ [240 + t / 262144]) ++ [128 + t / 4096 % 64]).length : Nat) : Int))])), (q1, .inl (E.2.1 0, cap1, .inl f1))]) hD hS hA [1, 2] rfl
      refine zcW (va_runV (As := [.int (iI (128 + ((((t : Nat) : Int) / 2 ^ 6) % 64)))]) (rest := []) S (c_Row_add l E H.size rb q1 cap1 (128 + t / 64 % 64) 262144 f1 ((out ++ [240 + t / 262144]) ++ [128 + t / 4096 % 64]) (iI (128 + ((((t : Nat) : Int) / 2 ^ 6) % 64))) hw2 (by omega) hB2 (by omega) (by omega) (sp_capok_r hc2).1 (sp_capok_r hc2).2.1 hF2) ⟨zcwB (n := 1) S zw_353 zw_2 zw_684 (by decide +kernel) rfl rfl ⟨Nat.le_of_ble_eq_true rfl, Nat.le_of_ble_eq_true rfl⟩, S.2.2.2.2 _ zw_351, S.2.2.2.2 _ zw_352⟩ (zPreV hE (hP 1 _ rfl) rfl ⟨rfl, hPc, hDc.weaken (fun _ _ _ h => hA0 _ h), trivial⟩) rfl rfl hl.1 rfl (lv_room (Nat.le_of_ble_eq_true rfl)) d_Output_put_129 ⟨by (try dsimp only); omega, by (try dsimp only); omega⟩) hS (fun q _ h => hFc q h) hFc (fun v H locs hq hz1 hk1 hS => ?_)
      obtain ⟨rfl, q2, f2, hP1, hD1, hB3, hF3⟩ := hq
      obtain ⟨hP, hD⟩ := va_join (wr := [(h, .inr (6, [.ref en, .ref ca, .ref rb, .ref (E.2.2.1 (mode + 1)), .ref (E.2.2.1 1), .int (iI (bN false))]))]) (w1 := [(rb, .inr (1, [.int (iI 262144), .ref q2, .int (iI (((((out ++ [240 + t / 262144]) ++ [128 + t / 4096 % 64]) ++ [128 + t / 64 % 64]).length : Nat) : Int))])), (q2, .inl (E.2.1 0, sp_grow cap1 ((out ++ [240 + t / 262144]) ++ [128 + t / 4096 % 64]).length, .inl f2))]) hP hD [1, 2] [0] rfl rfl (by decide) (by decide) hk1 hFc hP1 hD1
      have hP : va_P E.1 zcl [(h, .inr (6, [.ref en, .ref ca, .ref rb, .ref (E.2.2.1 (mode + 1)), .ref (E.2.2.1 1), .int (iI (bN false))])), (rb, .inr (1, [.int (iI 262144), .ref q2, .int (iI (((((out ++ [240 + t / 262144]) ++ [128 + t / 4096 % 64]) ++ [128 + t / 64 % 64]).length : Nat) : Int))])), (q2, .inl (E.2.1 0, sp_grow cap1 ((out ++ [240 + t / 262144]) ++ [128 + t / 4096 % 64]).length, .inl f2))] H := hP
      have hD : va_D A [(h, .inr (6, [.ref en, .ref ca, .ref rb, .ref (E.2.2.1 (mode + 1)), .ref (E.2.2.1 1), .int (iI (bN false))])), (rb, .inr (1, [.int (iI 262144), .ref q2, .int (iI (((((out ++ [240 + t / 262144]) ++ [128 + t / 4096 % 64]) ++ [128 + t / 64 % 64]).length : Nat) : Int))])), (q2, .inl (E.2.1 0, sp_grow cap1 ((out ++ [240 + t / 262144]) ++ [128 + t / 4096 % 64]).length, .inl f2))] := hD
      have hE := hE0.at hS hA0
      obtain ⟨cap2, ec2⟩ : ∃ x, x = sp_grow cap1 ((out ++ [240 + t / 262144]) ++ [128 + t / 4096 % 64]).length := ⟨_, rfl⟩
      rw [← ec2] at hg2 hc3 hB3 hF3 hP hD
      rw [← ec2]
      refine W.widen (k := (cap2 - cap) / 16) (n := 2 * (cap2 - cap)) (by omega) (by omega) ?_
      refine lv_iinc (k := 0) (v := (iI 0)) (lv' := [(4, .int (iI 0)), (3, .int (iI 4)), (2, .int (iI ((t : Nat) : Int))), (0, .ref h), (1, .int (iI ((c0 : Nat) : Int)))]) hx hb d_Output_put_132 hl rfl (by decide) (by decide) rfl (fun ls hl => ?_)
      refine lv_goto hx hb d_Output_put_135 rfl ?_
      refine lv_iload hx hb d_Output_put_106 (lv_at hl 0 rfl) ?_
      refine zi_if_lt hx hb d_Output_put_108 rfl (by omega) (fun h108 => absurd h108 (by omega)) (fun h108 => ?_)
      refine lv_aload_n hx hb d_Output_put_111 rfl (lv_at hl 3 rfl) ?_
      refine zgf S hE (ci := 6) rfl i_Output (hP 0 _ rfl) 2 (by decide) zw_156 rfl d_Output_put_112 ?_
      refine zi_sipush hx hb d_Output_put_115 (by decide) ?_
      refine lv_iload_n hx hb d_Output_put_118 rfl (lv_at hl 2 rfl) ?_
      refine zi_bipush hx hb d_Output_put_119 (by decide) ?_
      refine lv_iload hx hb d_Output_put_121 (lv_at hl 0 rfl) ?_
      refine zi_imul hx hb d_Output_put_123 ?_
      refine W.eq (g2 := F0 m 124 ls ([.int (iI 0), .int (iI ((t : Nat) : Int)), .int (iI 128), .ref rb])) rfl ?_
      refine zi_ishr hx hb d_Output_put_124 (iI_shrN 0 0 (by omega) (by omega) (by decide)) ?_
      refine zi_bipush hx hb d_Output_put_125 (by decide) ?_
      refine zi_iand hx hb d_Output_put_127 (iI_mask 6 63 64 (by omega) (by decide) (by decide)) ?_
      refine zi_ior hx hb d_Output_put_128 (iI_orK 128 7 1 (by decide) (by omega) (by omega)) ?_
      have hw3 : (iI (128 + ((((t : Nat) : Int) / 2 ^ 0) % 64))).toInt8.toInt32 = sb_b (128 + t % 64) := sb_of (by omega) (by omega)
      have hn3 : (((out ++ [240 + t / 262144]) ++ [128 + t / 4096 % 64]) ++ [128 + t / 64 % 64]).length = out.length + 3 := by simp
      have hl3 : (((out ++ [240 + t / 262144]) ++ [128 + t / 4096 % 64]) ++ [128 + t / 64 % 64]).length ≤ cap2 := hB3.1
      have hg3 := sp_grow_up hc3 hl3 (by omega)
      have hm3 : sp_up ((((out ++ [240 + t / 262144]) ++ [128 + t / 4096 % 64]) ++ [128 + t / 64 % 64]).length + 1) ≤ sp_up (out.length + 4) := sp_up_mono (by omega)
      have hc4 : sp_capok (sp_grow cap2 (((out ++ [240 + t / 262144]) ++ [128 + t / 4096 % 64]) ++ [128 + t / 64 % 64]).length) := by rw [hg3]; exact sp_capok_max hc3 (sp_up_ok _)
      have hPc := hP.sub (ws' := [(rb, .inr (1, [.int (iI 262144), .ref q2, .int (iI (((((out ++ [240 + t / 262144]) ++ [128 + t / 4096 % 64]) ++ [128 + t / 64 % 64]).length : Nat) : Int))])), (q2, .inl (E.2.1 0, cap2, .inl f2))]) [1, 2] rfl
      have hDc := hD.sub (ws' := [(rb, .inr (1, [.int (iI 262144), .ref q2, .int (iI (((((out ++ [240 + t / 262144]) ++ [128 + t / 4096 % 64]) ++ [128 + t / 64 % 64]).length : Nat) : Int))])), (q2, .inl (E.2.1 0, cap2, .inl f2))]) [1, 2] (by decide) rfl
      have hFc := va_free (wc := [(rb, .inr (1, [.int (iI 262144), .ref q2, .int (iI (((((out ++ [240 + t / 262144]) ++ [128 + t / 4096 % 64]) ++ [128 + t / 64 % 64]).length : Nat) : Int))])), (q2, .inl (E.2.1 0, cap2, .inl f2))]) hD hS hA [1, 2] rfl
      refine zcW (va_runV (As := [.int (iI (128 + ((((t : Nat) : Int) / 2 ^ 0) % 64)))]) (rest := []) S (c_Row_add l E H.size rb q2 cap2 (128 + t % 64) 262144 f2 (((out ++ [240 + t / 262144]) ++ [128 + t / 4096 % 64]) ++ [128 + t / 64 % 64]) (iI (128 + ((((t : Nat) : Int) / 2 ^ 0) % 64))) hw3 (by omega) hB3 (by omega) (by omega) (sp_capok_r hc3).1 (sp_capok_r hc3).2.1 hF3) ⟨zcwB (n := 1) S zw_353 zw_2 zw_684 (by decide +kernel) rfl rfl ⟨Nat.le_of_ble_eq_true rfl, Nat.le_of_ble_eq_true rfl⟩, S.2.2.2.2 _ zw_351, S.2.2.2.2 _ zw_352⟩ (zPreV hE (hP 1 _ rfl) rfl ⟨rfl, hPc, hDc.weaken (fun _ _ _ h => hA0 _ h), trivial⟩) rfl rfl hl.1 rfl (lv_room (Nat.le_of_ble_eq_true rfl)) d_Output_put_129 ⟨by (try dsimp only); omega, by (try dsimp only); omega⟩) hS (fun q _ h => hFc q h) hFc (fun v H locs hq hz1 hk1 hS => ?_)
      obtain ⟨rfl, q3, f3, hP1, hD1, hB4, hF4⟩ := hq
      obtain ⟨hP, hD⟩ := va_join (wr := [(h, .inr (6, [.ref en, .ref ca, .ref rb, .ref (E.2.2.1 (mode + 1)), .ref (E.2.2.1 1), .int (iI (bN false))]))]) (w1 := [(rb, .inr (1, [.int (iI 262144), .ref q3, .int (iI ((((((out ++ [240 + t / 262144]) ++ [128 + t / 4096 % 64]) ++ [128 + t / 64 % 64]) ++ [128 + t % 64]).length : Nat) : Int))])), (q3, .inl (E.2.1 0, sp_grow cap2 (((out ++ [240 + t / 262144]) ++ [128 + t / 4096 % 64]) ++ [128 + t / 64 % 64]).length, .inl f3))]) hP hD [1, 2] [0] rfl rfl (by decide) (by decide) hk1 hFc hP1 hD1
      have hP : va_P E.1 zcl [(h, .inr (6, [.ref en, .ref ca, .ref rb, .ref (E.2.2.1 (mode + 1)), .ref (E.2.2.1 1), .int (iI (bN false))])), (rb, .inr (1, [.int (iI 262144), .ref q3, .int (iI ((((((out ++ [240 + t / 262144]) ++ [128 + t / 4096 % 64]) ++ [128 + t / 64 % 64]) ++ [128 + t % 64]).length : Nat) : Int))])), (q3, .inl (E.2.1 0, sp_grow cap2 (((out ++ [240 + t / 262144]) ++ [128 + t / 4096 % 64]) ++ [128 + t / 64 % 64]).length, .inl f3))] H := hP
      have hD : va_D A [(h, .inr (6, [.ref en, .ref ca, .ref rb, .ref (E.2.2.1 (mode + 1)), .ref (E.2.2.1 1), .int (iI (bN false))])), (rb, .inr (1, [.int (iI 262144), .ref q3, .int (iI ((((((out ++ [240 + t / 262144]) ++ [128 + t / 4096 % 64]) ++ [128 + t / 64 % 64]) ++ [128 + t % 64]).length : Nat) : Int))])), (q3, .inl (E.2.1 0, sp_grow cap2 (((out ++ [240 + t / 262144]) ++ [128 + t / 4096 % 64]) ++ [128 + t / 64 % 64]).length, .inl f3))] := hD
      have hE := hE0.at hS hA0
      obtain ⟨cap3, ec3⟩ : ∃ x, x = sp_grow cap2 (((out ++ [240 + t / 262144]) ++ [128 + t / 4096 % 64]) ++ [128 + t / 64 % 64]).length := ⟨_, rfl⟩
      rw [← ec3] at hg3 hc4 hB4 hF4 hP hD
      rw [← ec3]
      refine W.widen (k := (cap3 - cap) / 16) (n := 2 * (cap3 - cap)) (by omega) (by omega) ?_
      refine lv_iinc (k := 0) (v := (iI (-1))) (lv' := [(4, .int (iI (-1))), (3, .int (iI 4)), (2, .int (iI ((t : Nat) : Int))), (0, .ref h), (1, .int (iI ((c0 : Nat) : Int)))]) hx hb d_Output_put_132 hl rfl (by decide) (by decide) rfl (fun ls hl => ?_)
      refine lv_goto hx hb d_Output_put_135 rfl ?_
      refine lv_iload hx hb d_Output_put_106 (lv_at hl 0 rfl) ?_
      refine zi_if_lt hx hb d_Output_put_108 rfl (by omega) (fun h108 => ?_) (fun h108 => absurd h108 (by omega))
      have hfin : (((out ++ [240 + t / 262144]) ++ [128 + t / 4096 % 64]) ++ [128 + t / 64 % 64]) ++ [128 + t % 64] = out ++ sp_enc utf t := by simp [henc]
      have hlast : sp_up (out.length + 3 + 1) = sp_up (out.length + 4) := rfl
      have hcf : cap3 = capF := by rw [hn3] at hg3 hm3; omega
      have hP9 := hP.sub (ws' := [(h, .inr (6, [.ref en, .ref ca, .ref rb, .ref (E.2.2.1 (mode + 1)), .ref (E.2.2.1 1), .int (iI (bN false))])), (rb, .inr (1, [.int (iI 262144), .ref q3, .int (iI ((((((out ++ [240 + t / 262144]) ++ [128 + t / 4096 % 64]) ++ [128 + t / 64 % 64]) ++ [128 + t % 64]).length : Nat) : Int))])), (q3, .inl (E.2.1 0, cap3, .inl f3))]) [0, 1, 2] rfl
      have hD9 := hD.sub (ws' := [(h, .inr (6, [.ref en, .ref ca, .ref rb, .ref (E.2.2.1 (mode + 1)), .ref (E.2.2.1 1), .int (iI (bN false))])), (rb, .inr (1, [.int (iI 262144), .ref q3, .int (iI ((((((out ++ [240 + t / 262144]) ++ [128 + t / 4096 % 64]) ++ [128 + t / 64 % 64]) ++ [128 + t % 64]).length : Nat) : Int))])), (q3, .inl (E.2.1 0, cap3, .inl f3))]) [0, 1, 2] (by decide) rfl
      rw [hfin] at hP9 hD9 hB4
      rw [hcf] at hP9 hD9 hB4 hF4
      rw [hcf]
      exact zwv S hr hlk hS (⟨rfl, q3, f3, hP9, hD9, hB4, hF4⟩) (by (try dsimp only); omega) (by (try dsimp only); omega) d_Output_put_138
