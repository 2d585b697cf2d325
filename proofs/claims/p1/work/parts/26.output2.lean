set_option maxRecDepth 100000 in
set_option maxHeartbeats 4000000 in
theorem c_Output_put_full (l : Launch) (E : zP) (sz : Nat) (Z : Nat → Prop) (h rb q en ca cap mode once c0 how t : Nat) (utf ucp : Bool) (f : Nat → Int32) (out : List Nat) (hB : zbytes out cap f) (hF : zfit cap f) (hc : sp_capok cap) (hmode : mode ≤ 2) (honce : once ≤ 2) (hok : sp_ok utf c0 = true) (hhow : how = if once = 0 then mode else once) (ht : t = sp_case utf ucp how c0) (hfits : ¬ out.length + sp_len utf t ≤ 262144) : Met l y_Output_put (.code y_Output_put b_Output_put 5 ( Option.none : Option FieldType ) :: zw) { frames := 2, cells := (0), slots := (0), locals := 50 } (zPc E [.ref h, .int (iI ((c0 : Nat) : Int))] (fun H => H.size = sz ∧ va_P E.1 zcl [(h, .inr (6, [.ref en, .ref ca, .ref rb, .ref (E.2.2.1 (mode + 1)), .ref (E.2.2.1 (once + 1)), .int (iI (bN false))])), (rb, .inr (1, [.int (iI 262144), .ref q, .int (iI ((out.length : Nat) : Int))])), (q, .inl (E.2.1 0, cap, .inl f))] H ∧ va_D (fun x => zOld E x ∧ ¬ Z x) [(h, .inr (6, [.ref en, .ref ca, .ref rb, .ref (E.2.2.1 (mode + 1)), .ref (E.2.2.1 (once + 1)), .int (iI (bN false))])), (rb, .inr (1, [.int (iI 262144), .ref q, .int (iI ((out.length : Nat) : Int))])), (q, .inl (E.2.1 0, cap, .inl f))] ∧ (∀ q, Z q → q < sz) ∧ (Z en ∧ Z ca ∧ zO E 2 en [.int (iI (bN utf))] H ∧ zO E 3 ca [.int (iI ((5 * sp_many utf ucp : Nat) : Int))] H))) (zW (fun v H => v = none ∧ va_P E.1 zcl [(h, .inr (6, [.ref en, .ref ca, .ref rb, .ref (E.2.2.1 (mode + 1)), .ref (E.2.2.1 (0 + 1)), .int (iI (bN true))])), (rb, .inr (1, [.int (iI 262144), .ref q, .int (iI ((out.length : Nat) : Int))])), (q, .inl (E.2.1 0, cap, .inl f))] H ∧ va_D (va_A [(h, .inr (6, [.ref en, .ref ca, .ref rb, .ref (E.2.2.1 (mode + 1)), .ref (E.2.2.1 (once + 1)), .int (iI (bN false))])), (rb, .inr (1, [.int (iI 262144), .ref q, .int (iI ((out.length : Nat) : Int))])), (q, .inl (E.2.1 0, cap, .inl f))] sz) [(h, .inr (6, [.ref en, .ref ca, .ref rb, .ref (E.2.2.1 (mode + 1)), .ref (E.2.2.1 (0 + 1)), .int (iI (bN true))])), (rb, .inr (1, [.int (iI 262144), .ref q, .int (iI ((out.length : Nat) : Int))])), (q, .inl (E.2.1 0, cap, .inl f))]) (va_A [(h, .inr (6, [.ref en, .ref ca, .ref rb, .ref (E.2.2.1 (mode + 1)), .ref (E.2.2.1 (once + 1)), .int (iI (bN false))])), (rb, .inr (1, [.int (iI 262144), .ref q, .int (iI ((out.length : Nat) : Int))])), (q, .inl (E.2.1 0, cap, .inl f))] sz)) (0) (0) (va_A [(h, .inr (6, [.ref en, .ref ca, .ref rb, .ref (E.2.2.1 (mode + 1)), .ref (E.2.2.1 (once + 1)), .int (iI (bN false))])), (rb, .inr (1, [.int (iI 262144), .ref q, .int (iI ((out.length : Nat) : Int))])), (q, .inl (E.2.1 0, cap, .inl f))] sz) := by
  refine zMet (by decide) (Nat.le_of_ble_eq_true rfl) ?_
  intro p e s m below meth c ls S hr hlk hnm hE ⟨hsz, hP, hDo, hZb, hze, hzc, hen, hca⟩ hl
  have hx := S.1
  have hb := S.2.1
  have hE0 := hE
  have hl : lv_has ls 5 [(0, .ref h), (1, .int (iI ((c0 : Nat) : Int)))] := hl
  subst hsz
  have hD := hDo.self (sz := s.heap.size)
  generalize hAe : va_A [(h, .inr (6, [.ref en, .ref ca, .ref rb, .ref (E.2.2.1 (mode + 1)), .ref (E.2.2.1 (once + 1)), .int (iI (bN false))])), (rb, .inr (1, [.int (iI 262144), .ref q, .int (iI ((out.length : Nat) : Int))])), (q, .inl (E.2.1 0, cap, .inl f))] s.heap.size = A at hD ⊢
  have hA : ∀ q : Nat, s.heap.size ≤ q → A q := fun q h => by rw [← hAe]; exact Or.inr h
  have hA1 := zAZ hE hDo hZb hAe
  have hA0 : ∀ q, A q → zOld E q := fun q h => (hA1 q h).1
  have hAZ : ∀ q, Z q → ¬ A q := fun q z h => (hA1 q h).2 z
  have hS : va_S A s.heap s.heap [] := va_S.rf
  have hlt := sp_case_lt (ucp := ucp) (how := how) hok
  rw [← ht] at hlt
  have hln := sp_len_le utf t
  have hc0b : c0 < 2097152 := by cases utf <;> simp [sp_ok] at hok <;> omega
  have hob := hB.1
  have hcr := sp_capok_r hc
  refine lv_aload_n hx hb d_Output_put_0 rfl (lv_at hl 0 rfl) ?_
  refine zgf S hE (ci := 6) rfl i_Output (hP 0 _ rfl) 1 (by decide) zw_155 rfl d_Output_put_1 ?_
  refine lv_iload_n hx hb d_Output_put_4 rfl (lv_at hl 1 rfl) ?_
  refine lv_aload_n hx hb d_Output_put_5 rfl (lv_at hl 0 rfl) ?_
  refine zgf S hE (ci := 6) rfl i_Output (hP 0 _ rfl) 4 (by decide) zw_158 rfl d_Output_put_6 ?_
  refine zgs S hE.asis zw_152 d_Output_put_9 ?_
  refine zacmp_ne hx hb d_Output_put_12 rfl (fun h12 => ?_) (fun h12 => ?_)
  · have ho : once ≠ 0 := fun q => h12 (by rw [q])
    refine lv_aload_n hx hb d_Output_put_22 rfl (lv_at hl 0 rfl) ?_
    refine zgf S hE (ci := 6) rfl i_Output (hP 0 _ rfl) 4 (by decide) zw_158 rfl d_Output_put_23 ?_
    refine zcR (va_runV (As := [.int (iI ((c0 : Nat) : Int)), .ref (E.2.2.1 (once + 1))]) (rest := []) S (c_Cases_turned l E ca (sp_many utf ucp) c0 once (sp_many_le utf ucp) (by omega) honce) ⟨zcwB (n := 2) S zw_675 zw_9 zw_672 (by decide +kernel) rfl rfl ⟨Nat.le_of_ble_eq_true rfl, Nat.le_of_ble_eq_true rfl⟩, S.2.2.2.2 _ zw_673, S.2.2.2.2 _ zw_674⟩ (zPreV hE (zfz hS hca (hAZ _ hzc)) rfl (zfz hS hca (hAZ _ hzc))) rfl rfl hl.1 rfl (lv_room (Nat.le_of_ble_eq_true rfl)) d_Output_put_26 ⟨by (try dsimp only); omega, by (try dsimp only); omega⟩) ?_
    rw [sp_case_eq hok, ← (show t = sp_case utf ucp once c0 by rw [ht, hhow]; rw [if_neg ho])]
    refine lv_istore_n (lv' := [(2, .int (iI ((t : Nat) : Int))), (0, .ref h), (1, .int (iI ((c0 : Nat) : Int)))]) hx hb d_Output_put_29 rfl hl (by decide) rfl (fun ls hl => ?_)
    refine lv_aload_n hx hb d_Output_put_30 rfl (lv_at hl 1 rfl) ?_
    refine zgs S hE.asis zw_152 d_Output_put_31 ?_
    refine va_put (D := E.1) (ci := 6) (v := .ref (E.2.2.1 1)) (ty := .object "ReplacementWriter$Turn") (C := "ReplacementWriter$Output") (T := F_Output) (N := 6) hx hb S.2.2.2.2 i_Output t_Output t_Output_ok n_Output S.2.2.2.1 hE.1 hP hD hS 0 rfl rfl 4 (by decide) (S.2.2.2.2 _ zw_158) (fun _ h9 => h9) rfl (by decide +kernel) rfl rfl (Nat.le_of_ble_eq_true rfl) d_Output_put_34 (fun H locs hP hD hS => ?_)
    have hP : va_P E.1 zcl [(h, .inr (6, [.ref en, .ref ca, .ref rb, .ref (E.2.2.1 (mode + 1)), .ref (E.2.2.1 1), .int (iI (bN false))])), (rb, .inr (1, [.int (iI 262144), .ref q, .int (iI ((out.length : Nat) : Int))])), (q, .inl (E.2.1 0, cap, .inl f))] H := hP
    have hD : va_D A [(h, .inr (6, [.ref en, .ref ca, .ref rb, .ref (E.2.2.1 (mode + 1)), .ref (E.2.2.1 1), .int (iI (bN false))])), (rb, .inr (1, [.int (iI 262144), .ref q, .int (iI ((out.length : Nat) : Int))])), (q, .inl (E.2.1 0, cap, .inl f))] := hD
    have hE := hE0.at hS hA0
    refine lv_aload_n hx hb d_Output_put_37 rfl (lv_at hl 1 rfl) ?_
    refine zgf S hE (ci := 6) rfl i_Output (hP 0 _ rfl) 0 (by decide) zw_154 rfl d_Output_put_38 ?_
    refine lv_iload_n hx hb d_Output_put_41 rfl (lv_at hl 0 rfl) ?_
    refine zcR (va_runV (As := [.int (iI ((t : Nat) : Int))]) (rest := []) S (c_Encoding_lengthOf l E en utf t (by omega)) ⟨zcwB (n := 1) S zw_457 zw_7 zw_682 (by decide +kernel) rfl rfl ⟨Nat.le_of_ble_eq_true rfl, Nat.le_of_ble_eq_true rfl⟩, S.2.2.2.2 _ zw_455, S.2.2.2.2 _ zw_456⟩ (zPreV hE (zfz hS hen (hAZ _ hze)) rfl (zfz hS hen (hAZ _ hze))) rfl rfl hl.1 rfl (lv_room (Nat.le_of_ble_eq_true rfl)) d_Output_put_42 ⟨by (try dsimp only); omega, by (try dsimp only); omega⟩) ?_
    have hb42 := sp_len_le utf t
    refine lv_istore_n (lv' := [(3, .int (iI ((sp_len utf t : Nat) : Int))), (2, .int (iI ((t : Nat) : Int))), (0, .ref h), (1, .int (iI ((c0 : Nat) : Int)))]) hx hb d_Output_put_45 rfl hl (by decide) rfl (fun ls hl => ?_)
    refine lv_aload_n hx hb d_Output_put_46 rfl (lv_at hl 2 rfl) ?_
    refine zgf S hE (ci := 6) rfl i_Output (hP 0 _ rfl) 2 (by decide) zw_156 rfl d_Output_put_47 ?_
    refine zcR (va_runV (As := []) (rest := []) S (c_Row_length l E rb out) ⟨zcwB (n := 0) S zw_258 zw_2 zw_683 (by decide +kernel) rfl rfl ⟨Nat.le_of_ble_eq_true rfl, Nat.le_of_ble_eq_true rfl⟩, S.2.2.2.2 _ zw_256, S.2.2.2.2 _ zw_257⟩ (zPreVrow hE (zrow.of (hP 1 _ rfl) (hP 2 _ rfl) hB) (zrow.of (hP 1 _ rfl) (hP 2 _ rfl) hB)) rfl rfl hl.1 rfl (lv_room (Nat.le_of_ble_eq_true rfl)) d_Output_put_50 ⟨by (try dsimp only); omega, by (try dsimp only); omega⟩) ?_
    refine lv_iload_n hx hb d_Output_put_53 rfl (lv_at hl 0 rfl) ?_
    refine zi_iadd hx hb d_Output_put_54 ?_
    refine zldc (n := 262144) S zw_150 (by decide) d_Output_put_55 ?_
    refine zi_icmp_le hx hb d_Output_put_57 rfl (by omega) (by omega) (fun h => absurd h (by omega)) (fun h57 => ?_)
    refine lv_aload_n hx hb d_Output_put_60 rfl (lv_at hl 2 rfl) ?_
    refine zi_iconst hx hb d_Output_put_61 ?_
    refine va_put (D := E.1) (ci := 6) (v := .int (iI (bN true))) (ty := .boolean) (C := "ReplacementWriter$Output") (T := F_Output) (N := 6) hx hb S.2.2.2.2 i_Output t_Output t_Output_ok n_Output S.2.2.2.1 hE.1 hP hD hS 0 rfl rfl 5 (by decide) (S.2.2.2.2 _ zw_159) (fun _ h9 => h9) rfl (by decide +kernel) (bN_nar _) (bN_fit _) (Nat.le_of_ble_eq_true rfl) d_Output_put_62 (fun H locs hP hD hS => ?_)
    have hP : va_P E.1 zcl [(h, .inr (6, [.ref en, .ref ca, .ref rb, .ref (E.2.2.1 (mode + 1)), .ref (E.2.2.1 1), .int (iI (bN true))])), (rb, .inr (1, [.int (iI 262144), .ref q, .int (iI ((out.length : Nat) : Int))])), (q, .inl (E.2.1 0, cap, .inl f))] H := hP
    have hD : va_D A [(h, .inr (6, [.ref en, .ref ca, .ref rb, .ref (E.2.2.1 (mode + 1)), .ref (E.2.2.1 1), .int (iI (bN true))])), (rb, .inr (1, [.int (iI 262144), .ref q, .int (iI ((out.length : Nat) : Int))])), (q, .inl (E.2.1 0, cap, .inl f))] := hD
    have hE := hE0.at hS hA0
    exact zwv S hr hlk hS (⟨rfl, hP, hD⟩) (by (try dsimp only); omega) (by (try dsimp only); omega) d_Output_put_65
  · have ho : once = 0 := (hE.turns honce (b := 0) (by omega)).mp h12
    refine lv_aload_n hx hb d_Output_put_15 rfl (lv_at hl 0 rfl) ?_
    refine zgf S hE (ci := 6) rfl i_Output (hP 0 _ rfl) 3 (by decide) zw_157 rfl d_Output_put_16 ?_
    refine lv_goto hx hb d_Output_put_19 rfl ?_
    refine zcR (va_runV (As := [.int (iI ((c0 : Nat) : Int)), .ref (E.2.2.1 (mode + 1))]) (rest := []) S (c_Cases_turned l E ca (sp_many utf ucp) c0 mode (sp_many_le utf ucp) (by omega) hmode) ⟨zcwB (n := 2) S zw_675 zw_9 zw_672 (by decide +kernel) rfl rfl ⟨Nat.le_of_ble_eq_true rfl, Nat.le_of_ble_eq_true rfl⟩, S.2.2.2.2 _ zw_673, S.2.2.2.2 _ zw_674⟩ (zPreV hE (zfz hS hca (hAZ _ hzc)) rfl (zfz hS hca (hAZ _ hzc))) rfl rfl hl.1 rfl (lv_room (Nat.le_of_ble_eq_true rfl)) d_Output_put_26 ⟨by (try dsimp only); omega, by (try dsimp only); omega⟩) ?_
    rw [sp_case_eq hok, ← (show t = sp_case utf ucp mode c0 by rw [ht, hhow]; rw [if_pos ho])]
    refine lv_istore_n (lv' := [(2, .int (iI ((t : Nat) : Int))), (0, .ref h), (1, .int (iI ((c0 : Nat) : Int)))]) hx hb d_Output_put_29 rfl hl (by decide) rfl (fun ls hl => ?_)
    refine lv_aload_n hx hb d_Output_put_30 rfl (lv_at hl 1 rfl) ?_
    refine zgs S hE.asis zw_152 d_Output_put_31 ?_
    refine va_put (D := E.1) (ci := 6) (v := .ref (E.2.2.1 1)) (ty := .object "ReplacementWriter$Turn") (C := "ReplacementWriter$Output") (T := F_Output) (N := 6) hx hb S.2.2.2.2 i_Output t_Output t_Output_ok n_Output S.2.2.2.1 hE.1 hP hD hS 0 rfl rfl 4 (by decide) (S.2.2.2.2 _ zw_158) (fun _ h9 => h9) rfl (by decide +kernel) rfl rfl (Nat.le_of_ble_eq_true rfl) d_Output_put_34 (fun H locs hP hD hS => ?_)
    have hP : va_P E.1 zcl [(h, .inr (6, [.ref en, .ref ca, .ref rb, .ref (E.2.2.1 (mode + 1)), .ref (E.2.2.1 1), .int (iI (bN false))])), (rb, .inr (1, [.int (iI 262144), .ref q, .int (iI ((out.length : Nat) : Int))])), (q, .inl (E.2.1 0, cap, .inl f))] H := hP
    have hD : va_D A [(h, .inr (6, [.ref en, .ref ca, .ref rb, .ref (E.2.2.1 (mode + 1)), .ref (E.2.2.1 1), .int (iI (bN false))])), (rb, .inr (1, [.int (iI 262144), .ref q, .int (iI ((out.length : Nat) : Int))])), (q, .inl (E.2.1 0, cap, .inl f))] := hD
    have hE := hE0.at hS hA0
    refine lv_aload_n hx hb d_Output_put_37 rfl (lv_at hl 1 rfl) ?_
    refine zgf S hE (ci := 6) rfl i_Output (hP 0 _ rfl) 0 (by decide) zw_154 rfl d_Output_put_38 ?_
    refine lv_iload_n hx hb d_Output_put_41 rfl (lv_at hl 0 rfl) ?_
    refine zcR (va_runV (As := [.int (iI ((t : Nat) : Int))]) (rest := []) S (c_Encoding_lengthOf l E en utf t (by omega)) ⟨zcwB (n := 1) S zw_457 zw_7 zw_682 (by decide +kernel) rfl rfl ⟨Nat.le_of_ble_eq_true rfl, Nat.le_of_ble_eq_true rfl⟩, S.2.2.2.2 _ zw_455, S.2.2.2.2 _ zw_456⟩ (zPreV hE (zfz hS hen (hAZ _ hze)) rfl (zfz hS hen (hAZ _ hze))) rfl rfl hl.1 rfl (lv_room (Nat.le_of_ble_eq_true rfl)) d_Output_put_42 ⟨by (try dsimp only); omega, by (try dsimp only); omega⟩) ?_
    have hb42 := sp_len_le utf t
    refine lv_istore_n (lv' := [(3, .int (iI ((sp_len utf t : Nat) : Int))), (2, .int (iI ((t : Nat) : Int))), (0, .ref h), (1, .int (iI ((c0 : Nat) : Int)))]) hx hb d_Output_put_45 rfl hl (by decide) rfl (fun ls hl => ?_)
    refine lv_aload_n hx hb d_Output_put_46 rfl (lv_at hl 2 rfl) ?_
    refine zgf S hE (ci := 6) rfl i_Output (hP 0 _ rfl) 2 (by decide) zw_156 rfl d_Output_put_47 ?_
    refine zcR (va_runV (As := []) (rest := []) S (c_Row_length l E rb out) ⟨zcwB (n := 0) S zw_258 zw_2 zw_683 (by decide +kernel) rfl rfl ⟨Nat.le_of_ble_eq_true rfl, Nat.le_of_ble_eq_true rfl⟩, S.2.2.2.2 _ zw_256, S.2.2.2.2 _ zw_257⟩ (zPreVrow hE (zrow.of (hP 1 _ rfl) (hP 2 _ rfl) hB) (zrow.of (hP 1 _ rfl) (hP 2 _ rfl) hB)) rfl rfl hl.1 rfl (lv_room (Nat.le_of_ble_eq_true rfl)) d_Output_put_50 ⟨by (try dsimp only); omega, by (try dsimp only); omega⟩) ?_
    refine lv_iload_n hx hb d_Output_put_53 rfl (lv_at hl 0 rfl) ?_
    refine zi_iadd hx hb d_Output_put_54 ?_
    refine zldc (n := 262144) S zw_150 (by decide) d_Output_put_55 ?_
    refine zi_icmp_le hx hb d_Output_put_57 rfl (by omega) (by omega) (fun h => absurd h (by omega)) (fun h57 => ?_)
    refine lv_aload_n hx hb d_Output_put_60 rfl (lv_at hl 2 rfl) ?_
    refine zi_iconst hx hb d_Output_put_61 ?_
    refine va_put (D := E.1) (ci := 6) (v := .int (iI (bN true))) (ty := .boolean) (C := "ReplacementWriter$Output") (T := F_Output) (N := 6) hx hb S.2.2.2.2 i_Output t_Output t_Output_ok n_Output S.2.2.2.1 hE.1 hP hD hS 0 rfl rfl 5 (by decide) (S.2.2.2.2 _ zw_159) (fun _ h9 => h9) rfl (by decide +kernel) (bN_nar _) (bN_fit _) (Nat.le_of_ble_eq_true rfl) d_Output_put_62 (fun H locs hP hD hS => ?_)
    have hP : va_P E.1 zcl [(h, .inr (6, [.ref en, .ref ca, .ref rb, .ref (E.2.2.1 (mode + 1)), .ref (E.2.2.1 1), .int (iI (bN true))])), (rb, .inr (1, [.int (iI 262144), .ref q, .int (iI ((out.length : Nat) : Int))])), (q, .inl (E.2.1 0, cap, .inl f))] H := hP
    have hD : va_D A [(h, .inr (6, [.ref en, .ref ca, .ref rb, .ref (E.2.2.1 (mode + 1)), .ref (E.2.2.1 1), .int (iI (bN true))])), (rb, .inr (1, [.int (iI 262144), .ref q, .int (iI ((out.length : Nat) : Int))])), (q, .inl (E.2.1 0, cap, .inl f))] := hD
    have hE := hE0.at hS hA0
    exact zwv S hr hlk hS (⟨rfl, hP, hD⟩) (by (try dsimp only); omega) (by (try dsimp only); omega) d_Output_put_65

set_option maxRecDepth 100000 in
set_option maxHeartbeats 4000000 in
theorem c_Output_isFull (l : Launch) (E : zP) (h e1 e2 e3 e4 e5 : Nat) (fl : Bool) : Met l y_Output_isFull (.code y_Output_isFull b_Output_isFull 1 ( some FieldType.boolean ) :: zw) { frames := 0, cells := 0, slots := 0, locals := 0 } (zPc E [.ref h] (zO E 6 h [.ref e1, .ref e2, .ref e3, .ref e4, .ref e5, .int (iI (bN fl))])) (zR (some (.int (iI (bN fl))))) 0 0 (fun _ => False) := by
  refine zMet (by decide) (Nat.le_of_ble_eq_true rfl) ?_
  intro p e s m below meth c ls S hr hlk hnm hE hp hl
  have hx := S.1
  have hb := S.2.1
  have hl : lv_has ls 1 [(0, .ref h)] := hl
  refine lv_aload_n hx hb d_Output_isFull_0 rfl (lv_at hl 0 rfl) ?_
  refine zgf S hE (ci := 6) rfl i_Output hp 5 (by decide) zw_159 rfl d_Output_isFull_1 ?_
  exact zretZ S hr hlk d_Output_isFull_4 (by rfl)

set_option maxRecDepth 100000 in
set_option maxHeartbeats 4000000 in
theorem c_Output_bytes (l : Launch) (E : zP) (h e1 e2 e3 e4 e5 : Nat) (fl : Bool) : Met l y_Output_bytes (.code y_Output_bytes b_Output_bytes 1 ( some ( FieldType.object "ReplacementWriter$Row" ) ) :: zw) { frames := 0, cells := 0, slots := 0, locals := 0 } (zPc E [.ref h] (zO E 6 h [.ref e1, .ref e2, .ref e3, .ref e4, .ref e5, .int (iI (bN fl))])) (zR (some (.ref e3))) 0 0 (fun _ => False) := by
  refine zMet (by decide) (Nat.le_of_ble_eq_true rfl) ?_
  intro p e s m below meth c ls S hr hlk hnm hE hp hl
  have hx := S.1
  have hb := S.2.1
  have hl : lv_has ls 1 [(0, .ref h)] := hl
  refine lv_aload_n hx hb d_Output_bytes_0 rfl (lv_at hl 0 rfl) ?_
  refine zgf S hE (ci := 6) rfl i_Output hp 2 (by decide) zw_156 rfl d_Output_bytes_1 ?_
  exact zretA S hr (Or.inl ⟨_, rfl⟩) hlk d_Output_bytes_4 rfl

set_option maxRecDepth 100000 in
set_option maxHeartbeats 4000000 in
theorem c_Output_startAnew (l : Launch) (E : zP) (sz : Nat) (h rb q en ca cap mode once : Nat) (fl : Bool) (f : Nat → Int32) (out : List Nat) (hB : zbytes out cap f) : Met l y_Output_startAnew (.code y_Output_startAnew b_Output_startAnew 1 ( Option.none : Option FieldType ) :: zw) { frames := 1, cells := (0), slots := (0), locals := 21 } (zPc E [.ref h] (fun H => H.size = sz ∧ va_P E.1 zcl [(h, .inr (6, [.ref en, .ref ca, .ref rb, .ref (E.2.2.1 (mode + 1)), .ref (E.2.2.1 (once + 1)), .int (iI (bN fl))])), (rb, .inr (1, [.int (iI 262144), .ref q, .int (iI ((out.length : Nat) : Int))])), (q, .inl (E.2.1 0, cap, .inl f))] H ∧ va_D (zOld E) [(h, .inr (6, [.ref en, .ref ca, .ref rb, .ref (E.2.2.1 (mode + 1)), .ref (E.2.2.1 (once + 1)), .int (iI (bN fl))])), (rb, .inr (1, [.int (iI 262144), .ref q, .int (iI ((out.length : Nat) : Int))])), (q, .inl (E.2.1 0, cap, .inl f))] ∧ (True))) (zW (fun v H => v = none ∧ va_P E.1 zcl [(h, .inr (6, [.ref en, .ref ca, .ref rb, .ref (E.2.2.1 (0 + 1)), .ref (E.2.2.1 (0 + 1)), .int (iI (bN false))])), (rb, .inr (1, [.int (iI 262144), .ref q, .int (iI ((([] : List Nat).length : Nat) : Int))])), (q, .inl (E.2.1 0, cap, .inl f))] H ∧ va_D (va_A [(h, .inr (6, [.ref en, .ref ca, .ref rb, .ref (E.2.2.1 (mode + 1)), .ref (E.2.2.1 (once + 1)), .int (iI (bN fl))])), (rb, .inr (1, [.int (iI 262144), .ref q, .int (iI ((out.length : Nat) : Int))])), (q, .inl (E.2.1 0, cap, .inl f))] sz) [(h, .inr (6, [.ref en, .ref ca, .ref rb, .ref (E.2.2.1 (0 + 1)), .ref (E.2.2.1 (0 + 1)), .int (iI (bN false))])), (rb, .inr (1, [.int (iI 262144), .ref q, .int (iI ((([] : List Nat).length : Nat) : Int))])), (q, .inl (E.2.1 0, cap, .inl f))] ∧ zbytes [] cap f) (va_A [(h, .inr (6, [.ref en, .ref ca, .ref rb, .ref (E.2.2.1 (mode + 1)), .ref (E.2.2.1 (once + 1)), .int (iI (bN fl))])), (rb, .inr (1, [.int (iI 262144), .ref q, .int (iI ((out.length : Nat) : Int))])), (q, .inl (E.2.1 0, cap, .inl f))] sz)) (0) (0) (va_A [(h, .inr (6, [.ref en, .ref ca, .ref rb, .ref (E.2.2.1 (mode + 1)), .ref (E.2.2.1 (once + 1)), .int (iI (bN fl))])), (rb, .inr (1, [.int (iI 262144), .ref q, .int (iI ((out.length : Nat) : Int))])), (q, .inl (E.2.1 0, cap, .inl f))] sz) := by
  refine zMet (by decide) (Nat.le_of_ble_eq_true rfl) ?_
  intro p e s m below meth c ls S hr hlk hnm hE ⟨hsz, hP, hDo, hX⟩ hl
  have hx := S.1
  have hb := S.2.1
  have hE0 := hE
  have hl : lv_has ls 1 [(0, .ref h)] := hl
  subst hsz
  have hD := hDo.self (sz := s.heap.size)
  generalize hAe : va_A [(h, .inr (6, [.ref en, .ref ca, .ref rb, .ref (E.2.2.1 (mode + 1)), .ref (E.2.2.1 (once + 1)), .int (iI (bN fl))])), (rb, .inr (1, [.int (iI 262144), .ref q, .int (iI ((out.length : Nat) : Int))])), (q, .inl (E.2.1 0, cap, .inl f))] s.heap.size = A at hD ⊢
  have hA : ∀ q : Nat, s.heap.size ≤ q → A q := fun q h => by rw [← hAe]; exact Or.inr h
  have hA0 := zA0 hE hDo hAe
  have hS : va_S A s.heap s.heap [] := va_S.rf
  refine lv_aload_n hx hb d_Output_startAnew_0 rfl (lv_at hl 0 rfl) ?_
  refine zgf S hE (ci := 6) rfl i_Output (hP 0 _ rfl) 2 (by decide) zw_156 rfl d_Output_startAnew_1 ?_
  refine zi_iconst hx hb d_Output_startAnew_4 ?_
  have hPc := hP.sub (ws' := [(rb, .inr (1, [.int (iI 262144), .ref q, .int (iI ((out.length : Nat) : Int))]))]) [1] rfl
  have hDc := hD.sub (ws' := [(rb, .inr (1, [.int (iI 262144), .ref q, .int (iI ((out.length : Nat) : Int))]))]) [1] (by decide) rfl
  have hFc := va_free (wc := [(rb, .inr (1, [.int (iI 262144), .ref q, .int (iI ((out.length : Nat) : Int))]))]) hD hS hA [1] rfl
  refine zcW (va_runV (As := [.int (iI 0)]) (rest := []) S (c_Row_cutTo l E s.heap.size rb q out.length 262144 0 (by omega) (by have := hB.1; have := hB.2.1; omega)) ⟨zcwB (n := 1) S zw_396 zw_2 zw_653 (by decide +kernel) rfl rfl ⟨Nat.le_of_ble_eq_true rfl, Nat.le_of_ble_eq_true rfl⟩, S.2.2.2.2 _ zw_394, S.2.2.2.2 _ zw_395⟩ (zPreV hE (hP 1 _ rfl) rfl ⟨rfl, hPc, hDc.weaken (fun _ _ _ h => hA0 _ h), trivial⟩) rfl rfl hl.1 rfl (lv_room (Nat.le_of_ble_eq_true rfl)) d_Output_startAnew_5 ⟨by (try dsimp only); omega, by (try dsimp only); omega⟩) hS (fun q _ h => hFc q h) hFc (fun v H locs hq hz1 hk1 hS => ?_)
  obtain ⟨rfl, hP1, hD1⟩ := hq
  obtain ⟨hP, hD⟩ := va_join (wr := [(h, .inr (6, [.ref en, .ref ca, .ref rb, .ref (E.2.2.1 (mode + 1)), .ref (E.2.2.1 (once + 1)), .int (iI (bN fl))])), (q, .inl (E.2.1 0, cap, .inl f))]) (w1 := [(rb, .inr (1, [.int (iI 262144), .ref q, .int (iI (if (0 : Int) ≤ 0 ∧ (0 : Int) < (out.length : Int) then 0 else (out.length : Int)))]))]) hP hD [1] [0, 2] rfl rfl (by decide) (by decide) hk1 hFc hP1 hD1
  have hP : va_P E.1 zcl [(h, .inr (6, [.ref en, .ref ca, .ref rb, .ref (E.2.2.1 (mode + 1)), .ref (E.2.2.1 (once + 1)), .int (iI (bN fl))])), (q, .inl (E.2.1 0, cap, .inl f)), (rb, .inr (1, [.int (iI 262144), .ref q, .int (iI (if (0 : Int) ≤ 0 ∧ (0 : Int) < (out.length : Int) then 0 else (out.length : Int)))]))] H := hP
  have hD : va_D A [(h, .inr (6, [.ref en, .ref ca, .ref rb, .ref (E.2.2.1 (mode + 1)), .ref (E.2.2.1 (once + 1)), .int (iI (bN fl))])), (q, .inl (E.2.1 0, cap, .inl f)), (rb, .inr (1, [.int (iI 262144), .ref q, .int (iI (if (0 : Int) ≤ 0 ∧ (0 : Int) < (out.length : Int) then 0 else (out.length : Int)))]))] := hD
  have hE := hE0.at hS hA0
  have e0 : (if (0 : Int) ≤ 0 ∧ (0 : Int) < (out.length : Int) then 0 else (out.length : Int)) = ((([] : List Nat).length : Nat) : Int) := by simp only [List.length_nil]; omega
  rw [e0] at hP hD
  refine lv_aload_n hx hb d_Output_startAnew_8 rfl (lv_at hl 0 rfl) ?_
  refine zgs S hE.asis zw_152 d_Output_startAnew_9 ?_
  refine va_put (D := E.1) (ci := 6) (v := .ref (E.2.2.1 1)) (ty := .object "ReplacementWriter$Turn") (C := "ReplacementWriter$Output") (T := F_Output) (N := 6) hx hb S.2.2.2.2 i_Output t_Output t_Output_ok n_Output S.2.2.2.1 hE.1 hP hD hS 0 rfl rfl 3 (by decide) (S.2.2.2.2 _ zw_157) (fun _ h9 => h9) rfl (by decide +kernel) rfl rfl (Nat.le_of_ble_eq_true rfl) d_Output_startAnew_12 (fun H locs hP hD hS => ?_)
  have hP : va_P E.1 zcl [(h, .inr (6, [.ref en, .ref ca, .ref rb, .ref (E.2.2.1 1), .ref (E.2.2.1 (once + 1)), .int (iI (bN fl))])), (q, .inl (E.2.1 0, cap, .inl f)), (rb, .inr (1, [.int (iI 262144), .ref q, .int (iI ((([] : List Nat).length : Nat) : Int))]))] H := hP
  have hD : va_D A [(h, .inr (6, [.ref en, .ref ca, .ref rb, .ref (E.2.2.1 1), .ref (E.2.2.1 (once + 1)), .int (iI (bN fl))])), (q, .inl (E.2.1 0, cap, .inl f)), (rb, .inr (1, [.int (iI 262144), .ref q, .int (iI ((([] : List Nat).length : Nat) : Int))]))] := hD
  have hE := hE0.at hS hA0
  refine lv_aload_n hx hb d_Output_startAnew_15 rfl (lv_at hl 0 rfl) ?_
  refine zgs S hE.asis zw_152 d_Output_startAnew_16 ?_
  refine va_put (D := E.1) (ci := 6) (v := .ref (E.2.2.1 1)) (ty := .object "ReplacementWriter$Turn") (C := "ReplacementWriter$Output") (T := F_Output) (N := 6) hx hb S.2.2.2.2 i_Output t_Output t_Output_ok n_Output S.2.2.2.1 hE.1 hP hD hS 0 rfl rfl 4 (by decide) (S.2.2.2.2 _ zw_158) (fun _ h9 => h9) rfl (by decide +kernel) rfl rfl (Nat.le_of_ble_eq_true rfl) d_Output_startAnew_19 (fun H locs hP hD hS => ?_)
  have hP : va_P E.1 zcl [(h, .inr (6, [.ref en, .ref ca, .ref rb, .ref (E.2.2.1 1), .ref (E.2.2.1 1), .int (iI (bN fl))])), (q, .inl (E.2.1 0, cap, .inl f)), (rb, .inr (1, [.int (iI 262144), .ref q, .int (iI ((([] : List Nat).length : Nat) : Int))]))] H := hP
  have hD : va_D A [(h, .inr (6, [.ref en, .ref ca, .ref rb, .ref (E.2.2.1 1), .ref (E.2.2.1 1), .int (iI (bN fl))])), (q, .inl (E.2.1 0, cap, .inl f)), (rb, .inr (1, [.int (iI 262144), .ref q, .int (iI ((([] : List Nat).length : Nat) : Int))]))] := hD
  have hE := hE0.at hS hA0
  refine lv_aload_n hx hb d_Output_startAnew_22 rfl (lv_at hl 0 rfl) ?_
  refine zi_iconst hx hb d_Output_startAnew_23 ?_
  refine va_put (D := E.1) (ci := 6) (v := .int (iI (bN false))) (ty := .boolean) (C := "ReplacementWriter$Output") (T := F_Output) (N := 6) hx hb S.2.2.2.2 i_Output t_Output t_Output_ok n_Output S.2.2.2.1 hE.1 hP hD hS 0 rfl rfl 5 (by decide) (S.2.2.2.2 _ zw_159) (fun _ h9 => h9) rfl (by decide +kernel) (bN_nar _) (bN_fit _) (Nat.le_of_ble_eq_true rfl) d_Output_startAnew_24 (fun H locs hP hD hS => ?_)
  have hP : va_P E.1 zcl [(h, .inr (6, [.ref en, .ref ca, .ref rb, .ref (E.2.2.1 1), .ref (E.2.2.1 1), .int (iI (bN false))])), (q, .inl (E.2.1 0, cap, .inl f)), (rb, .inr (1, [.int (iI 262144), .ref q, .int (iI ((([] : List Nat).length : Nat) : Int))]))] H := hP
  have hD : va_D A [(h, .inr (6, [.ref en, .ref ca, .ref rb, .ref (E.2.2.1 1), .ref (E.2.2.1 1), .int (iI (bN false))])), (q, .inl (E.2.1 0, cap, .inl f)), (rb, .inr (1, [.int (iI 262144), .ref q, .int (iI ((([] : List Nat).length : Nat) : Int))]))] := hD
  have hE := hE0.at hS hA0
  exact zwv S hr hlk hS (⟨rfl, hP.sub (ws' := [(h, .inr (6, [.ref en, .ref ca, .ref rb, .ref (E.2.2.1 (0 + 1)), .ref (E.2.2.1 (0 + 1)), .int (iI (bN false))])), (rb, .inr (1, [.int (iI 262144), .ref q, .int (iI ((([] : List Nat).length : Nat) : Int))])), (q, .inl (E.2.1 0, cap, .inl f))]) [0, 2, 1] rfl, hD.sub (ws' := [(h, .inr (6, [.ref en, .ref ca, .ref rb, .ref (E.2.2.1 (0 + 1)), .ref (E.2.2.1 (0 + 1)), .int (iI (bN false))])), (rb, .inr (1, [.int (iI 262144), .ref q, .int (iI ((([] : List Nat).length : Nat) : Int))])), (q, .inl (E.2.1 0, cap, .inl f))]) [0, 2, 1] (by decide) rfl, zbytes_cut (k := 0) hB⟩) (by (try dsimp only); omega) (by (try dsimp only); omega) d_Output_startAnew_27

set_option maxRecDepth 100000 in
set_option maxHeartbeats 4000000 in
theorem c_Output_copy (l : Launch) (E : zP) (sz : Nat) (Z : Nat → Prop) (h rb q en ca cap mode once r k0 : Nat) (utf ucp : Bool) (f : Nat → Int32) (out b cs rst : List Nat) (oF : sp_O) (hB : zbytes out cap f) (hF : zfit cap f) (hc : sp_capok cap) (hmode : mode ≤ 2) (honce : once ≤ 2) (hdr : b.drop k0 = sp_encs utf cs ++ rst) (hoks : sp_oks utf cs) (hk0 : k0 ≤ b.length) (hall : sp_all utf ucp cs (out, mode, once) = some oF) : Met l y_Output_copy (.code y_Output_copy b_Output_copy 5 ( Option.none : Option FieldType ) :: zw) { frames := 4, cells := ((max cap (sp_up oF.1.length) - cap) / 16), slots := (2 * (max cap (sp_up oF.1.length) - cap)), locals := 106 } (zPc E [.ref h, .ref r, .int (iI ((k0 : Nat) : Int)), .int (iI ((k0 + (sp_encs utf cs).length : Nat) : Int))] (fun H => H.size = sz ∧ va_P E.1 zcl [(h, .inr (6, [.ref en, .ref ca, .ref rb, .ref (E.2.2.1 (mode + 1)), .ref (E.2.2.1 (once + 1)), .int (iI (bN false))])), (rb, .inr (1, [.int (iI 262144), .ref q, .int (iI ((out.length : Nat) : Int))])), (q, .inl (E.2.1 0, cap, .inl f))] H ∧ va_D (fun x => zOld E x ∧ ¬ Z x) [(h, .inr (6, [.ref en, .ref ca, .ref rb, .ref (E.2.2.1 (mode + 1)), .ref (E.2.2.1 (once + 1)), .int (iI (bN false))])), (rb, .inr (1, [.int (iI 262144), .ref q, .int (iI ((out.length : Nat) : Int))])), (q, .inl (E.2.1 0, cap, .inl f))] ∧ (∀ q, Z q → q < sz) ∧ (Z en ∧ Z ca ∧ zO E 2 en [.int (iI (bN utf))] H ∧ zO E 3 ca [.int (iI ((5 * sp_many utf ucp : Nat) : Int))] H ∧ zrowZ E Z r b H))) (zW (fun v H => v = none ∧ ∃ (q2 : Nat) (f2 : Nat → Int32), va_P E.1 zcl [(h, .inr (6, [.ref en, .ref ca, .ref rb, .ref (E.2.2.1 (oF.2.1 + 1)), .ref (E.2.2.1 (oF.2.2 + 1)), .int (iI (bN false))])), (rb, .inr (1, [.int (iI 262144), .ref q2, .int (iI ((oF.1.length : Nat) : Int))])), (q2, .inl (E.2.1 0, max cap (sp_up oF.1.length), .inl f2))] H ∧ va_D (va_A [(h, .inr (6, [.ref en, .ref ca, .ref rb, .ref (E.2.2.1 (mode + 1)), .ref (E.2.2.1 (once + 1)), .int (iI (bN false))])), (rb, .inr (1, [.int (iI 262144), .ref q, .int (iI ((out.length : Nat) : Int))])), (q, .inl (E.2.1 0, cap, .inl f))] sz) [(h, .inr (6, [.ref en, .ref ca, .ref rb, .ref (E.2.2.1 (oF.2.1 + 1)), .ref (E.2.2.1 (oF.2.2 + 1)), .int (iI (bN false))])), (rb, .inr (1, [.int (iI 262144), .ref q2, .int (iI ((oF.1.length : Nat) : Int))])), (q2, .inl (E.2.1 0, max cap (sp_up oF.1.length), .inl f2))] ∧ zbytes oF.1 (max cap (sp_up oF.1.length)) f2 ∧ zfit (max cap (sp_up oF.1.length)) f2) (va_A [(h, .inr (6, [.ref en, .ref ca, .ref rb, .ref (E.2.2.1 (mode + 1)), .ref (E.2.2.1 (once + 1)), .int (iI (bN false))])), (rb, .inr (1, [.int (iI 262144), .ref q, .int (iI ((out.length : Nat) : Int))])), (q, .inl (E.2.1 0, cap, .inl f))] sz)) ((max cap (sp_up oF.1.length) - cap) / 16) (2 * (max cap (sp_up oF.1.length) - cap)) (va_A [(h, .inr (6, [.ref en, .ref ca, .ref rb, .ref (E.2.2.1 (mode + 1)), .ref (E.2.2.1 (once + 1)), .int (iI (bN false))])), (rb, .inr (1, [.int (iI 262144), .ref q, .int (iI ((out.length : Nat) : Int))])), (q, .inl (E.2.1 0, cap, .inl f))] sz) := by
  refine zMet (by decide) (Nat.le_of_ble_eq_true rfl) ?_
  intro p e s m below meth c ls S hr hlk hnm hE ⟨hsz, hP, hDo, hZb, hze, hzc, hen, hca, hrow⟩ hl
  have hx := S.1
  have hb := S.2.1
  have hE0 := hE
  have hl : lv_has ls 5 [(0, .ref h), (1, .ref r), (2, .int (iI ((k0 : Nat) : Int))), (3, .int (iI ((k0 + (sp_encs utf cs).length : Nat) : Int)))] := hl
  subst hsz
  have hD := hDo.self (sz := s.heap.size)
  generalize hAe : va_A [(h, .inr (6, [.ref en, .ref ca, .ref rb, .ref (E.2.2.1 (mode + 1)), .ref (E.2.2.1 (once + 1)), .int (iI (bN false))])), (rb, .inr (1, [.int (iI 262144), .ref q, .int (iI ((out.length : Nat) : Int))])), (q, .inl (E.2.1 0, cap, .inl f))] s.heap.size = A at hD ⊢
  have hA : ∀ q : Nat, s.heap.size ≤ q → A q := fun q h => by rw [← hAe]; exact Or.inr h
  have hA1 := zAZ hE hDo hZb hAe
  have hA0 : ∀ q, A q → zOld E q := fun q h => (hA1 q h).1
  have hAZ : ∀ q, Z q → ¬ A q := fun q z h => (hA1 q h).2 z
  have hS : va_S A s.heap s.heap [] := va_S.rf
  have hbl := (zrowZ.row hrow).len
  have hcr := sp_capok_r hc
  have hlt0 : (b.drop k0).length = (sp_encs utf cs ++ rst).length := by rw [hdr]
  rw [List.length_drop, List.length_append] at hlt0
  obtain ⟨capF, hcapF0⟩ : ∃ x, x = max cap (sp_up oF.1.length) := ⟨_, rfl⟩
  rw [← hcapF0]
  refine lv_iload_n hx hb d_Output_copy_0 rfl (lv_at hl 2 rfl) ?_
  refine lv_istore (lv' := [(4, .int (iI ((k0 : Nat) : Int))), (0, .ref h), (1, .ref r), (2, .int (iI ((k0 : Nat) : Int))), (3, .int (iI ((k0 + (sp_encs utf cs).length : Nat) : Int)))]) hx hb d_Output_copy_1 hl (by decide) rfl (fun ls hl => ?_)
  have hP := hP.sub (ws' := [(h, .inr (6, [.ref en, .ref ca, .ref rb, .ref (E.2.2.1 (mode + 1)), .ref (E.2.2.1 (once + 1)), .int (iI (bN false))])), (rb, .inr (1, [.int (iI 262144), .ref q, .int (iI ((out.length : Nat) : Int))])), (q, .inl (E.2.1 0, cap, .inl f))]) [0, 1, 2] rfl
  have hD := hD.sub (ws' := [(h, .inr (6, [.ref en, .ref ca, .ref rb, .ref (E.2.2.1 (mode + 1)), .ref (E.2.2.1 (once + 1)), .int (iI (bN false))])), (rb, .inr (1, [.int (iI 262144), .ref q, .int (iI ((out.length : Nat) : Int))])), (q, .inl (E.2.1 0, cap, .inl f))]) [0, 1, 2] (by decide) rfl
  refine zloop (fun (x : (List Nat) × Nat × (List Nat) × Nat × Nat × Nat × (Nat → Int32)) H locs ls cells slots => match x with | (cs1, k, out1, once1, q1, cap1, f1) => cells = (cap1 - cap) / 16 ∧ slots = 2 * (cap1 - cap) ∧ lv_has ls 5 [(4, .int (iI ((k : Nat) : Int))), (0, .ref h), (1, .ref r), (2, .int (iI ((k0 : Nat) : Int))), (3, .int (iI ((k0 + (sp_encs utf cs).length : Nat) : Int)))] ∧ va_P E.1 zcl [(h, .inr (6, [.ref en, .ref ca, .ref rb, .ref (E.2.2.1 (mode + 1)), .ref (E.2.2.1 (once1 + 1)), .int (iI (bN false))])), (rb, .inr (1, [.int (iI 262144), .ref q1, .int (iI ((out1.length : Nat) : Int))])), (q1, .inl (E.2.1 0, cap1, .inl f1))] H ∧ va_D A [(h, .inr (6, [.ref en, .ref ca, .ref rb, .ref (E.2.2.1 (mode + 1)), .ref (E.2.2.1 (once1 + 1)), .int (iI (bN false))])), (rb, .inr (1, [.int (iI 262144), .ref q1, .int (iI ((out1.length : Nat) : Int))])), (q1, .inl (E.2.1 0, cap1, .inl f1))] ∧ va_S A s.heap H locs ∧ (b.drop k = sp_encs utf cs1 ++ rst ∧ sp_oks utf cs1 ∧ k + (sp_encs utf cs1).length = k0 + (sp_encs utf cs).length ∧ sp_all utf ucp cs1 (out1, mode, once1) = some oF ∧ zbytes out1 cap1 f1 ∧ zfit cap1 f1 ∧ sp_capok cap1 ∧ once1 ≤ 2 ∧ cap ≤ cap1 ∧ max cap1 (sp_up oF.1.length) = capF)) (fun x => match x with | (cs1, k, out1, once1, q1, cap1, f1) => cs1.length) ?_ (cs, k0, out, once, q, cap, f) ⟨by simp, by simp, hl, hP, hD, hS, ⟨hdr, hoks, rfl, hall, hB, hF, hc, honce, Nat.le_refl _, hcapF0.symm⟩⟩
  clear hl hP hD hS
  rintro ⟨cs1, k, out1, once1, q1, cap1, f1⟩ H locs ls cells slots ⟨rfl, rfl, hl, hP, hD, hS, ⟨i1, i2, i3, i4, i5, i6, i7, i8, i9, i10⟩⟩ ih
  have hE := hE0.at hS hA0
  have hcr1 := sp_capok_r i7
  have hbl := (zrowZ.row hrow).len
  have hlt1 : (b.drop k).length = (sp_encs utf cs1 ++ rst).length := by rw [i1]
  rw [List.length_drop, List.length_append] at hlt1
  refine lv_iload hx hb d_Output_copy_3 (lv_at hl 0 rfl) ?_
  refine lv_iload_n hx hb d_Output_copy_5 rfl (lv_at hl 4 rfl) ?_
  refine zi_icmp_ge hx hb d_Output_copy_6 rfl (by omega) (by omega) (fun h6 => ?_) (fun h6 => ?_)
  · have ec : cs1 = [] := sp_encs_zero (utf := utf) (by omega)
    rw [ec] at i4
    have eo : (out1, mode, once1) = oF := Option.some.inj i4
    subst eo
    have ecap : cap1 = capF := by rw [← i10, Nat.max_eq_left (sp_up_le i7 i5.1)]
    subst ecap
    exact zwv S hr hlk hS (⟨rfl, q1, f1, hP, hD, i5, i6⟩) (by (try dsimp only); omega) (by (try dsimp only); omega) d_Output_copy_55
  · obtain ⟨c, cs2, ec⟩ := sp_encs_pos (utf := utf) (cs := cs1) (by omega)
    have hokc : sp_ok utf c = true := i2 c (by rw [ec]; exact List.mem_cons_self)
    have i1c := i1
    rw [ec, sp_encs_cons, List.append_assoc] at i1c
    obtain ⟨e1, e2, e3, e4⟩ := sp_enc_at i1c hokc
    have hln1 := sp_len_le utf c
    have hkb : k < b.length := by omega
    obtain ⟨how, hhow⟩ : ∃ x, x = if once1 = 0 then mode else once1 := ⟨_, rfl⟩
    obtain ⟨t, ht⟩ : ∃ x, x = sp_case utf ucp how c := ⟨_, rfl⟩
    refine lv_aload_n hx hb d_Output_copy_9 rfl (lv_at hl 1 rfl) ?_
    refine zgf S hE (ci := 6) rfl i_Output (hP 0 _ rfl) 5 (by decide) zw_159 rfl d_Output_copy_10 ?_
    refine zb_ifne hx hb d_Output_copy_13 rfl (fun h => absurd h (by decide)) (fun _ => ?_)
    refine lv_aload_n hx hb d_Output_copy_16 rfl (lv_at hl 1 rfl) ?_
    refine lv_aload_n hx hb d_Output_copy_17 rfl (lv_at hl 1 rfl) ?_
    refine zgf S hE (ci := 6) rfl i_Output (hP 0 _ rfl) 0 (by decide) zw_154 rfl d_Output_copy_18 ?_
    refine lv_aload_n hx hb d_Output_copy_21 rfl (lv_at hl 2 rfl) ?_
    refine lv_iload hx hb d_Output_copy_22 (lv_at hl 0 rfl) ?_
    refine zcR (va_runV (As := [.ref r, .int (iI ((k : Nat) : Int))]) (rest := [.ref h]) S (c_Encoding_characterAt l E en r utf b k hkb (by omega)) ⟨zcwB (n := 2) S zw_445 zw_7 zw_667 (by decide +kernel) rfl rfl ⟨Nat.le_of_ble_eq_true rfl, Nat.le_of_ble_eq_true rfl⟩, S.2.2.2.2 _ zw_443, S.2.2.2.2 _ zw_444⟩ (zPreV hE (zfz hS hen (hAZ _ hze)) rfl ⟨(zfz hS hen (hAZ _ hze)), (zrowZ.row (zrowZ.fz hrow hS hAZ))⟩) rfl rfl hl.1 rfl (lv_room (Nat.le_of_ble_eq_true rfl)) d_Output_copy_24 ⟨by (try dsimp only); omega, by (try dsimp only); omega⟩) ?_
    rw [e2]
    have hfit : out1.length + sp_len utf t ≤ 262144 := by
      by_cases hf : out1.length + sp_len utf t ≤ 262144
      · exact hf
      · rw [ec, sp_all, sp_one_none hhow ht hf] at i4; cases i4
    have h1 := sp_one_some (ucp := ucp) hhow ht hfit
    have hlen : (out1 ++ sp_enc utf t).length ≤ oF.1.length := by have i4b := i4; rw [ec, sp_all_cons h1] at i4b; exact (sp_all_len _ _ _ i4b).1
    have hroom : max cap1 (sp_up (out1 ++ sp_enc utf t).length) ≤ capF := by rw [← i10]; have := sp_up_mono hlen; omega
    have hPc := hP.sub (ws' := [(h, .inr (6, [.ref en, .ref ca, .ref rb, .ref (E.2.2.1 (mode + 1)), .ref (E.2.2.1 (once1 + 1)), .int (iI (bN false))])), (rb, .inr (1, [.int (iI 262144), .ref q1, .int (iI ((out1.length : Nat) : Int))])), (q1, .inl (E.2.1 0, cap1, .inl f1))]) [0, 1, 2] rfl
    have hDc := hD.sub (ws' := [(h, .inr (6, [.ref en, .ref ca, .ref rb, .ref (E.2.2.1 (mode + 1)), .ref (E.2.2.1 (once1 + 1)), .int (iI (bN false))])), (rb, .inr (1, [.int (iI 262144), .ref q1, .int (iI ((out1.length : Nat) : Int))])), (q1, .inl (E.2.1 0, cap1, .inl f1))]) [0, 1, 2] (by decide) rfl
    have hFc := va_free (wc := [(h, .inr (6, [.ref en, .ref ca, .ref rb, .ref (E.2.2.1 (mode + 1)), .ref (E.2.2.1 (once1 + 1)), .int (iI (bN false))])), (rb, .inr (1, [.int (iI 262144), .ref q1, .int (iI ((out1.length : Nat) : Int))])), (q1, .inl (E.2.1 0, cap1, .inl f1))]) hD hS hA [0, 1, 2] rfl
    refine zcW (va_runV (As := [.int (iI ((c : Nat) : Int))]) (rest := []) S (c_Output_put l E H.size Z h rb q1 en ca cap1 mode once1 c how t utf ucp f1 out1 i5 i6 i7 hmode i8 hokc hhow ht hfit) ⟨zcwB (n := 1) S zw_671 zw_8 zw_668 (by decide +kernel) rfl rfl ⟨Nat.le_of_ble_eq_true rfl, Nat.le_of_ble_eq_true rfl⟩, S.2.2.2.2 _ zw_669, S.2.2.2.2 _ zw_670⟩ (zPreV hE (hP 0 _ rfl) rfl ⟨rfl, hPc, hDc.weaken (fun _ _ _ h => ⟨hA0 _ h, fun z => hAZ _ z h⟩), (fun q z => Nat.lt_of_lt_of_le (hZb q z) hS.1), hze, hzc, (zfz hS hen (hAZ _ hze)), (zfz hS hca (hAZ _ hzc))⟩) rfl rfl hl.1 rfl (lv_room (Nat.le_of_ble_eq_true rfl)) d_Output_copy_27 ⟨by (try dsimp only); omega, by (try dsimp only); omega⟩) hS (fun q _ h => hFc q h) hFc (fun v H locs hq hz1 hk1 hS => ?_)
    obtain ⟨rfl, q2, f2, hP1, hD1, hB2, hF2⟩ := hq
    obtain ⟨hP, hD⟩ := va_join (wr := []) (w1 := [(h, .inr (6, [.ref en, .ref ca, .ref rb, .ref (E.2.2.1 (mode + 1)), .ref (E.2.2.1 (0 + 1)), .int (iI (bN false))])), (rb, .inr (1, [.int (iI 262144), .ref q2, .int (iI (((out1 ++ sp_enc utf t).length : Nat) : Int))])), (q2, .inl (E.2.1 0, max cap1 (sp_up (out1 ++ sp_enc utf t).length), .inl f2))]) hP hD [0, 1, 2] [] rfl rfl (by decide) (by decide) hk1 hFc hP1 hD1
    have hP : va_P E.1 zcl [(h, .inr (6, [.ref en, .ref ca, .ref rb, .ref (E.2.2.1 (mode + 1)), .ref (E.2.2.1 (0 + 1)), .int (iI (bN false))])), (rb, .inr (1, [.int (iI 262144), .ref q2, .int (iI (((out1 ++ sp_enc utf t).length : Nat) : Int))])), (q2, .inl (E.2.1 0, max cap1 (sp_up (out1 ++ sp_enc utf t).length), .inl f2))] H := hP
    have hD : va_D A [(h, .inr (6, [.ref en, .ref ca, .ref rb, .ref (E.2.2.1 (mode + 1)), .ref (E.2.2.1 (0 + 1)), .int (iI (bN false))])), (rb, .inr (1, [.int (iI 262144), .ref q2, .int (iI (((out1 ++ sp_enc utf t).length : Nat) : Int))])), (q2, .inl (E.2.1 0, max cap1 (sp_up (out1 ++ sp_enc utf t).length), .inl f2))] := hD
    have hE := hE0.at hS hA0
    have hcm : cap1 ≤ max cap1 (sp_up (out1 ++ sp_enc utf t).length) := Nat.le_max_left _ _
    refine lv_iload hx hb d_Output_copy_30 (lv_at hl 0 rfl) ?_
    refine zi_iconst hx hb d_Output_copy_32 ?_
    refine lv_aload_n hx hb d_Output_copy_33 rfl (lv_at hl 1 rfl) ?_
    refine zgf S hE (ci := 6) rfl i_Output (hP 0 _ rfl) 0 (by decide) zw_154 rfl d_Output_copy_34 ?_
    refine lv_aload_n hx hb d_Output_copy_37 rfl (lv_at hl 2 rfl) ?_
    refine lv_iload hx hb d_Output_copy_38 (lv_at hl 0 rfl) ?_
    refine zcR (va_runV (As := [.int (iI ((k : Nat) : Int))]) (rest := [.ref en, .int (iI 1), .int (iI ((k : Nat) : Int))]) S (c_Row_at l E r b ((k : Nat) : Int) (by omega)) ⟨zcwB (n := 1) S zw_437 zw_2 zw_685 (by decide +kernel) rfl rfl ⟨Nat.le_of_ble_eq_true rfl, Nat.le_of_ble_eq_true rfl⟩, S.2.2.2.2 _ zw_435, S.2.2.2.2 _ zw_436⟩ (zPreVrow hE (zrowZ.row (zrowZ.fz hrow hS hAZ)) (zrowZ.row (zrowZ.fz hrow hS hAZ))) rfl rfl hl.1 rfl (lv_room (Nat.le_of_ble_eq_true rfl)) d_Output_copy_40 ⟨by (try dsimp only); omega, by (try dsimp only); omega⟩) ?_
    rw [sp_at_in (n := k) (by omega) (by omega)]
    have hb40 := sp_b_lt (zrow.lt (zrowZ.row (zrowZ.fz hrow hS hAZ))) (k)
    have hbk := sp_b_lt (zrow.lt (zrowZ.row hrow)) k
    refine zcR (va_runV (As := [.int (iI ((sp_b b k : Nat) : Int))]) (rest := [.int (iI 1), .int (iI ((k : Nat) : Int))]) S (c_Encoding_lengthBehind l E en utf (sp_b b k) hbk) ⟨zcwB (n := 1) S zw_441 zw_7 zw_686 (by decide +kernel) rfl rfl ⟨Nat.le_of_ble_eq_true rfl, Nat.le_of_ble_eq_true rfl⟩, S.2.2.2.2 _ zw_439, S.2.2.2.2 _ zw_440⟩ (zPreV hE (zfz hS hen (hAZ _ hze)) rfl (zfz hS hen (hAZ _ hze))) rfl rfl hl.1 rfl (lv_room (Nat.le_of_ble_eq_true rfl)) d_Output_copy_43 ⟨by (try dsimp only); omega, by (try dsimp only); omega⟩) ?_
    rw [e1]
    refine zcR (va_runS (As := [.int (iI 1), .int (iI ((sp_len utf c : Nat) : Int))]) (rest := [.int (iI ((k : Nat) : Int))]) S (c_Math_max l E 1 ((sp_len utf c : Nat) : Int) (by omega) (by omega)) ⟨zcwB (n := 2) S zw_461 zw_23 zw_687 (by decide +kernel) rfl rfl ⟨Nat.le_of_ble_eq_true rfl, Nat.le_of_ble_eq_true rfl⟩, S.2.2.2.2 _ zw_460⟩ (zPreS hE trivial) rfl rfl hl.1 rfl (lv_room (Nat.le_of_ble_eq_true rfl)) d_Output_copy_46 ⟨by (try dsimp only); omega, by (try dsimp only); omega⟩) ?_
    rw [show max (1 : Int) ((sp_len utf c : Nat) : Int) = ((sp_len utf c : Nat) : Int) by omega]
    refine zi_iadd hx hb d_Output_copy_49 ?_
    rw [show ((k : Nat) : Int) + ((sp_len utf c : Nat) : Int) = ((k + sp_len utf c : Nat) : Int) by omega]
    refine lv_istore (lv' := [(4, .int (iI ((k + sp_len utf c : Nat) : Int))), (0, .ref h), (1, .ref r), (2, .int (iI ((k0 : Nat) : Int))), (3, .int (iI ((k0 + (sp_encs utf cs).length : Nat) : Int)))]) hx hb d_Output_copy_50 hl (by decide) rfl (fun ls hl => ?_)
    refine lv_goto hx hb d_Output_copy_52 rfl ?_
    refine W.widen (k := (max cap1 (sp_up (out1 ++ sp_enc utf t).length) - cap) / 16) (n := 2 * (max cap1 (sp_up (out1 ++ sp_enc utf t).length) - cap)) (by (try dsimp only); omega) (by (try dsimp only); omega) ?_
    exact ih (cs2, k + sp_len utf c, out1 ++ sp_enc utf t, 0, q2, max cap1 (sp_up (out1 ++ sp_enc utf t).length), f2) H locs ls _ _ (by dsimp only; rw [ec]; simp) ⟨rfl, rfl, lv_sub hl [0, 1, 2, 3, 4] rfl, hP.sub (ws' := [(h, .inr (6, [.ref en, .ref ca, .ref rb, .ref (E.2.2.1 (mode + 1)), .ref (E.2.2.1 (0 + 1)), .int (iI (bN false))])), (rb, .inr (1, [.int (iI 262144), .ref q2, .int (iI (((out1 ++ sp_enc utf t).length : Nat) : Int))])), (q2, .inl (E.2.1 0, max cap1 (sp_up (out1 ++ sp_enc utf t).length), .inl f2))]) [0, 1, 2] rfl, hD.sub (ws' := [(h, .inr (6, [.ref en, .ref ca, .ref rb, .ref (E.2.2.1 (mode + 1)), .ref (E.2.2.1 (0 + 1)), .int (iI (bN false))])), (rb, .inr (1, [.int (iI 262144), .ref q2, .int (iI (((out1 ++ sp_enc utf t).length : Nat) : Int))])), (q2, .inl (E.2.1 0, max cap1 (sp_up (out1 ++ sp_enc utf t).length), .inl f2))]) [0, 1, 2] (by decide) rfl, hS, ⟨e4, fun x hx => i2 x (by rw [ec]; exact List.mem_cons_of_mem _ hx), by rw [ec, sp_encs_cons, List.length_append, sp_enc_len] at i3; omega, by rw [← i4, ec, sp_all_cons h1], hB2, hF2, sp_capok_max i7 (sp_up_ok _), by omega, by omega, by rw [← i10]; exact sp_max_max hlen⟩⟩

set_option maxRecDepth 100000 in
set_option maxHeartbeats 4000000 in
theorem c_Output_copy_full (l : Launch) (E : zP) (sz : Nat) (Z : Nat → Prop) (h rb q en ca cap mode once r k0 : Nat) (utf ucp : Bool) (f : Nat → Int32) (out b cs rst : List Nat) (hB : zbytes out cap f) (hF : zfit cap f) (hc : sp_capok cap) (hmode : mode ≤ 2) (honce : once ≤ 2) (hdr : b.drop k0 = sp_encs utf cs ++ rst) (hoks : sp_oks utf cs) (hk0 : k0 ≤ b.length) (hall : sp_all utf ucp cs (out, mode, once) = none) : Met l y_Output_copy (.code y_Output_copy b_Output_copy 5 ( Option.none : Option FieldType ) :: zw) { frames := 4, cells := ((262144 - cap) / 16), slots := (2 * (262144 - cap)), locals := 106 } (zPc E [.ref h, .ref r, .int (iI ((k0 : Nat) : Int)), .int (iI ((k0 + (sp_encs utf cs).length : Nat) : Int))] (fun H => H.size = sz ∧ va_P E.1 zcl [(h, .inr (6, [.ref en, .ref ca, .ref rb, .ref (E.2.2.1 (mode + 1)), .ref (E.2.2.1 (once + 1)), .int (iI (bN false))])), (rb, .inr (1, [.int (iI 262144), .ref q, .int (iI ((out.length : Nat) : Int))])), (q, .inl (E.2.1 0, cap, .inl f))] H ∧ va_D (fun x => zOld E x ∧ ¬ Z x) [(h, .inr (6, [.ref en, .ref ca, .ref rb, .ref (E.2.2.1 (mode + 1)), .ref (E.2.2.1 (once + 1)), .int (iI (bN false))])), (rb, .inr (1, [.int (iI 262144), .ref q, .int (iI ((out.length : Nat) : Int))])), (q, .inl (E.2.1 0, cap, .inl f))] ∧ (∀ q, Z q → q < sz) ∧ (Z en ∧ Z ca ∧ zO E 2 en [.int (iI (bN utf))] H ∧ zO E 3 ca [.int (iI ((5 * sp_many utf ucp : Nat) : Int))] H ∧ zrowZ E Z r b H))) (zW (fun v H => v = none ∧ ∃ (q2 : Nat) (f2 : Nat → Int32) (out2 : List Nat), va_P E.1 zcl [(h, .inr (6, [.ref en, .ref ca, .ref rb, .ref (E.2.2.1 (mode + 1)), .ref (E.2.2.1 (0 + 1)), .int (iI (bN true))])), (rb, .inr (1, [.int (iI 262144), .ref q2, .int (iI ((out2.length : Nat) : Int))])), (q2, .inl (E.2.1 0, 262144, .inl f2))] H ∧ va_D (va_A [(h, .inr (6, [.ref en, .ref ca, .ref rb, .ref (E.2.2.1 (mode + 1)), .ref (E.2.2.1 (once + 1)), .int (iI (bN false))])), (rb, .inr (1, [.int (iI 262144), .ref q, .int (iI ((out.length : Nat) : Int))])), (q, .inl (E.2.1 0, cap, .inl f))] sz) [(h, .inr (6, [.ref en, .ref ca, .ref rb, .ref (E.2.2.1 (mode + 1)), .ref (E.2.2.1 (0 + 1)), .int (iI (bN true))])), (rb, .inr (1, [.int (iI 262144), .ref q2, .int (iI ((out2.length : Nat) : Int))])), (q2, .inl (E.2.1 0, 262144, .inl f2))] ∧ zbytes out2 262144 f2 ∧ zfit 262144 f2) (va_A [(h, .inr (6, [.ref en, .ref ca, .ref rb, .ref (E.2.2.1 (mode + 1)), .ref (E.2.2.1 (once + 1)), .int (iI (bN false))])), (rb, .inr (1, [.int (iI 262144), .ref q, .int (iI ((out.length : Nat) : Int))])), (q, .inl (E.2.1 0, cap, .inl f))] sz)) ((262144 - cap) / 16) (2 * (262144 - cap)) (va_A [(h, .inr (6, [.ref en, .ref ca, .ref rb, .ref (E.2.2.1 (mode + 1)), .ref (E.2.2.1 (once + 1)), .int (iI (bN false))])), (rb, .inr (1, [.int (iI 262144), .ref q, .int (iI ((out.length : Nat) : Int))])), (q, .inl (E.2.1 0, cap, .inl f))] sz) := by
  refine zMet (by decide) (Nat.le_of_ble_eq_true rfl) ?_
  intro p e s m below meth c ls S hr hlk hnm hE ⟨hsz, hP, hDo, hZb, hze, hzc, hen, hca, hrow⟩ hl
  have hx := S.1
  have hb := S.2.1
  have hE0 := hE
  have hl : lv_has ls 5 [(0, .ref h), (1, .ref r), (2, .int (iI ((k0 : Nat) : Int))), (3, .int (iI ((k0 + (sp_encs utf cs).length : Nat) : Int)))] := hl
  subst hsz
  have hD := hDo.self (sz := s.heap.size)
  generalize hAe : va_A [(h, .inr (6, [.ref en, .ref ca, .ref rb, .ref (E.2.2.1 (mode + 1)), .ref (E.2.2.1 (once + 1)), .int (iI (bN false))])), (rb, .inr (1, [.int (iI 262144), .ref q, .int (iI ((out.length : Nat) : Int))])), (q, .inl (E.2.1 0, cap, .inl f))] s.heap.size = A at hD ⊢
  have hA : ∀ q : Nat, s.heap.size ≤ q → A q := fun q h => by rw [← hAe]; exact Or.inr h
  have hA1 := zAZ hE hDo hZb hAe
  have hA0 : ∀ q, A q → zOld E q := fun q h => (hA1 q h).1
  have hAZ : ∀ q, Z q → ¬ A q := fun q z h => (hA1 q h).2 z
  have hS : va_S A s.heap s.heap [] := va_S.rf
  have hbl := (zrowZ.row hrow).len
  have hcr := sp_capok_r hc
  have hlt0 : (b.drop k0).length = (sp_encs utf cs ++ rst).length := by rw [hdr]
  rw [List.length_drop, List.length_append] at hlt0
  refine lv_iload_n hx hb d_Output_copy_0 rfl (lv_at hl 2 rfl) ?_
  refine lv_istore (lv' := [(4, .int (iI ((k0 : Nat) : Int))), (0, .ref h), (1, .ref r), (2, .int (iI ((k0 : Nat) : Int))), (3, .int (iI ((k0 + (sp_encs utf cs).length : Nat) : Int)))]) hx hb d_Output_copy_1 hl (by decide) rfl (fun ls hl => ?_)
  have hP := hP.sub (ws' := [(h, .inr (6, [.ref en, .ref ca, .ref rb, .ref (E.2.2.1 (mode + 1)), .ref (E.2.2.1 (once + 1)), .int (iI (bN false))])), (rb, .inr (1, [.int (iI 262144), .ref q, .int (iI ((out.length : Nat) : Int))])), (q, .inl (E.2.1 0, cap, .inl f))]) [0, 1, 2] rfl
  have hD := hD.sub (ws' := [(h, .inr (6, [.ref en, .ref ca, .ref rb, .ref (E.2.2.1 (mode + 1)), .ref (E.2.2.1 (once + 1)), .int (iI (bN false))])), (rb, .inr (1, [.int (iI 262144), .ref q, .int (iI ((out.length : Nat) : Int))])), (q, .inl (E.2.1 0, cap, .inl f))]) [0, 1, 2] (by decide) rfl
  refine zloop (fun (x : (List Nat) × Nat × (List Nat) × Nat × Nat × Nat × (Nat → Int32)) H locs ls cells slots => match x with | (cs1, k, out1, once1, q1, cap1, f1) => cells = (cap1 - cap) / 16 ∧ slots = 2 * (cap1 - cap) ∧ lv_has ls 5 [(4, .int (iI ((k : Nat) : Int))), (0, .ref h), (1, .ref r), (2, .int (iI ((k0 : Nat) : Int))), (3, .int (iI ((k0 + (sp_encs utf cs).length : Nat) : Int)))] ∧ va_P E.1 zcl [(h, .inr (6, [.ref en, .ref ca, .ref rb, .ref (E.2.2.1 (mode + 1)), .ref (E.2.2.1 (once1 + 1)), .int (iI (bN false))])), (rb, .inr (1, [.int (iI 262144), .ref q1, .int (iI ((out1.length : Nat) : Int))])), (q1, .inl (E.2.1 0, cap1, .inl f1))] H ∧ va_D A [(h, .inr (6, [.ref en, .ref ca, .ref rb, .ref (E.2.2.1 (mode + 1)), .ref (E.2.2.1 (once1 + 1)), .int (iI (bN false))])), (rb, .inr (1, [.int (iI 262144), .ref q1, .int (iI ((out1.length : Nat) : Int))])), (q1, .inl (E.2.1 0, cap1, .inl f1))] ∧ va_S A s.heap H locs ∧ (b.drop k = sp_encs utf cs1 ++ rst ∧ sp_oks utf cs1 ∧ k + (sp_encs utf cs1).length = k0 + (sp_encs utf cs).length ∧ sp_all utf ucp cs1 (out1, mode, once1) = none ∧ zbytes out1 cap1 f1 ∧ zfit cap1 f1 ∧ sp_capok cap1 ∧ once1 ≤ 2 ∧ cap ≤ cap1)) (fun x => match x with | (cs1, k, out1, once1, q1, cap1, f1) => cs1.length) ?_ (cs, k0, out, once, q, cap, f) ⟨by simp, by simp, hl, hP, hD, hS, ⟨hdr, hoks, rfl, hall, hB, hF, hc, honce, Nat.le_refl _⟩⟩
  clear hl hP hD hS
  rintro ⟨cs1, k, out1, once1, q1, cap1, f1⟩ H locs ls cells slots ⟨rfl, rfl, hl, hP, hD, hS, ⟨i1, i2, i3, i4, i5, i6, i7, i8, i9⟩⟩ ih
  have hE := hE0.at hS hA0
  have hcr1 := sp_capok_r i7
  have hbl := (zrowZ.row hrow).len
  have hlt1 : (b.drop k).length = (sp_encs utf cs1 ++ rst).length := by rw [i1]
  rw [List.length_drop, List.length_append] at hlt1
  refine lv_iload hx hb d_Output_copy_3 (lv_at hl 0 rfl) ?_
  refine lv_iload_n hx hb d_Output_copy_5 rfl (lv_at hl 4 rfl) ?_
  refine zi_icmp_ge hx hb d_Output_copy_6 rfl (by omega) (by omega) (fun h6 => ?_) (fun h6 => ?_)
  · have ec : cs1 = [] := sp_encs_zero (utf := utf) (by omega)
    rw [ec] at i4
    cases i4
  · obtain ⟨c, cs2, ec⟩ := sp_encs_pos (utf := utf) (cs := cs1) (by omega)
    have hokc : sp_ok utf c = true := i2 c (by rw [ec]; exact List.mem_cons_self)
    have i1c := i1
    rw [ec, sp_encs_cons, List.append_assoc] at i1c
    obtain ⟨e1, e2, e3, e4⟩ := sp_enc_at i1c hokc
    have hln1 := sp_len_le utf c
    have hkb : k < b.length := by omega
    obtain ⟨how, hhow⟩ : ∃ x, x = if once1 = 0 then mode else once1 := ⟨_, rfl⟩
    obtain ⟨t, ht⟩ : ∃ x, x = sp_case utf ucp how c := ⟨_, rfl⟩
    refine lv_aload_n hx hb d_Output_copy_9 rfl (lv_at hl 1 rfl) ?_
    refine zgf S hE (ci := 6) rfl i_Output (hP 0 _ rfl) 5 (by decide) zw_159 rfl d_Output_copy_10 ?_
    refine zb_ifne hx hb d_Output_copy_13 rfl (fun h => absurd h (by decide)) (fun _ => ?_)
    refine lv_aload_n hx hb d_Output_copy_16 rfl (lv_at hl 1 rfl) ?_
    refine lv_aload_n hx hb d_Output_copy_17 rfl (lv_at hl 1 rfl) ?_
    refine zgf S hE (ci := 6) rfl i_Output (hP 0 _ rfl) 0 (by decide) zw_154 rfl d_Output_copy_18 ?_
    refine lv_aload_n hx hb d_Output_copy_21 rfl (lv_at hl 2 rfl) ?_
    refine lv_iload hx hb d_Output_copy_22 (lv_at hl 0 rfl) ?_
    refine zcR (va_runV (As := [.ref r, .int (iI ((k : Nat) : Int))]) (rest := [.ref h]) S (c_Encoding_characterAt l E en r utf b k hkb (by omega)) ⟨zcwB (n := 2) S zw_445 zw_7 zw_667 (by decide +kernel) rfl rfl ⟨Nat.le_of_ble_eq_true rfl, Nat.le_of_ble_eq_true rfl⟩, S.2.2.2.2 _ zw_443, S.2.2.2.2 _ zw_444⟩ (zPreV hE (zfz hS hen (hAZ _ hze)) rfl ⟨(zfz hS hen (hAZ _ hze)), (zrowZ.row (zrowZ.fz hrow hS hAZ))⟩) rfl rfl hl.1 rfl (lv_room (Nat.le_of_ble_eq_true rfl)) d_Output_copy_24 ⟨by (try dsimp only); omega, by (try dsimp only); omega⟩) ?_
    rw [e2]
    by_cases hfit : out1.length + sp_len utf t ≤ 262144
    · skip
      have h1 := sp_one_some (ucp := ucp) hhow ht hfit
      have hroom : max cap1 (sp_up (out1 ++ sp_enc utf t).length) ≤ 262144 := (sp_capok_r (sp_capok_max i7 (sp_up_ok _))).2.1
      have hPc := hP.sub (ws' := [(h, .inr (6, [.ref en, .ref ca, .ref rb, .ref (E.2.2.1 (mode + 1)), .ref (E.2.2.1 (once1 + 1)), .int (iI (bN false))])), (rb, .inr (1, [.int (iI 262144), .ref q1, .int (iI ((out1.length : Nat) : Int))])), (q1, .inl (E.2.1 0, cap1, .inl f1))]) [0, 1, 2] rfl
      have hDc := hD.sub (ws' := [(h, .inr (6, [.ref en, .ref ca, .ref rb, .ref (E.2.2.1 (mode + 1)), .ref (E.2.2.1 (once1 + 1)), .int (iI (bN false))])), (rb, .inr (1, [.int (iI 262144), .ref q1, .int (iI ((out1.length : Nat) : Int))])), (q1, .inl (E.2.1 0, cap1, .inl f1))]) [0, 1, 2] (by decide) rfl
      have hFc := va_free (wc := [(h, .inr (6, [.ref en, .ref ca, .ref rb, .ref (E.2.2.1 (mode + 1)), .ref (E.2.2.1 (once1 + 1)), .int (iI (bN false))])), (rb, .inr (1, [.int (iI 262144), .ref q1, .int (iI ((out1.length : Nat) : Int))])), (q1, .inl (E.2.1 0, cap1, .inl f1))]) hD hS hA [0, 1, 2] rfl
      refine zcW (va_runV (As := [.int (iI ((c : Nat) : Int))]) (rest := []) S (c_Output_put l E H.size Z h rb q1 en ca cap1 mode once1 c how t utf ucp f1 out1 i5 i6 i7 hmode i8 hokc hhow ht hfit) ⟨zcwB (n := 1) S zw_671 zw_8 zw_668 (by decide +kernel) rfl rfl ⟨Nat.le_of_ble_eq_true rfl, Nat.le_of_ble_eq_true rfl⟩, S.2.2.2.2 _ zw_669, S.2.2.2.2 _ zw_670⟩ (zPreV hE (hP 0 _ rfl) rfl ⟨rfl, hPc, hDc.weaken (fun _ _ _ h => ⟨hA0 _ h, fun z => hAZ _ z h⟩), (fun q z => Nat.lt_of_lt_of_le (hZb q z) hS.1), hze, hzc, (zfz hS hen (hAZ _ hze)), (zfz hS hca (hAZ _ hzc))⟩) rfl rfl hl.1 rfl (lv_room (Nat.le_of_ble_eq_true rfl)) d_Output_copy_27 ⟨by (try dsimp only); omega, by (try dsimp only); omega⟩) hS (fun q _ h => hFc q h) hFc (fun v H locs hq hz1 hk1 hS => ?_)
      obtain ⟨rfl, q2, f2, hP1, hD1, hB2, hF2⟩ := hq
      obtain ⟨hP, hD⟩ := va_join (wr := []) (w1 := [(h, .inr (6, [.ref en, .ref ca, .ref rb, .ref (E.2.2.1 (mode + 1)), .ref (E.2.2.1 (0 + 1)), .int (iI (bN false))])), (rb, .inr (1, [.int (iI 262144), .ref q2, .int (iI (((out1 ++ sp_enc utf t).length : Nat) : Int))])), (q2, .inl (E.2.1 0, max cap1 (sp_up (out1 ++ sp_enc utf t).length), .inl f2))]) hP hD [0, 1, 2] [] rfl rfl (by decide) (by decide) hk1 hFc hP1 hD1
      have hP : va_P E.1 zcl [(h, .inr (6, [.ref en, .ref ca, .ref rb, .ref (E.2.2.1 (mode + 1)), .ref (E.2.2.1 (0 + 1)), .int (iI (bN false))])), (rb, .inr (1, [.int (iI 262144), .ref q2, .int (iI (((out1 ++ sp_enc utf t).length : Nat) : Int))])), (q2, .inl (E.2.1 0, max cap1 (sp_up (out1 ++ sp_enc utf t).length), .inl f2))] H := hP
      have hD : va_D A [(h, .inr (6, [.ref en, .ref ca, .ref rb, .ref (E.2.2.1 (mode + 1)), .ref (E.2.2.1 (0 + 1)), .int (iI (bN false))])), (rb, .inr (1, [.int (iI 262144), .ref q2, .int (iI (((out1 ++ sp_enc utf t).length : Nat) : Int))])), (q2, .inl (E.2.1 0, max cap1 (sp_up (out1 ++ sp_enc utf t).length), .inl f2))] := hD
      have hE := hE0.at hS hA0
      have hcm : cap1 ≤ max cap1 (sp_up (out1 ++ sp_enc utf t).length) := Nat.le_max_left _ _
      refine lv_iload hx hb d_Output_copy_30 (lv_at hl 0 rfl) ?_
      refine zi_iconst hx hb d_Output_copy_32 ?_
      refine lv_aload_n hx hb d_Output_copy_33 rfl (lv_at hl 1 rfl) ?_
      refine zgf S hE (ci := 6) rfl i_Output (hP 0 _ rfl) 0 (by decide) zw_154 rfl d_Output_copy_34 ?_
      refine lv_aload_n hx hb d_Output_copy_37 rfl (lv_at hl 2 rfl) ?_
      refine lv_iload hx hb d_Output_copy_38 (lv_at hl 0 rfl) ?_
      refine zcR (va_runV (As := [.int (iI ((k : Nat) : Int))]) (rest := [.ref en, .int (iI 1), .int (iI ((k : Nat) : Int))]) S (c_Row_at l E r b ((k : Nat) : Int) (by omega)) ⟨zcwB (n := 1) S zw_437 zw_2 zw_685 (by decide +kernel) rfl rfl ⟨Nat.le_of_ble_eq_true rfl, Nat.le_of_ble_eq_true rfl⟩, S.2.2.2.2 _ zw_435, S.2.2.2.2 _ zw_436⟩ (zPreVrow hE (zrowZ.row (zrowZ.fz hrow hS hAZ)) (zrowZ.row (zrowZ.fz hrow hS hAZ))) rfl rfl hl.1 rfl (lv_room (Nat.le_of_ble_eq_true rfl)) d_Output_copy_40 ⟨by (try dsimp only); omega, by (try dsimp only); omega⟩) ?_
      rw [sp_at_in (n := k) (by omega) (by omega)]
      have hb40 := sp_b_lt (zrow.lt (zrowZ.row (zrowZ.fz hrow hS hAZ))) (k)
      have hbk := sp_b_lt (zrow.lt (zrowZ.row hrow)) k
      refine zcR (va_runV (As := [.int (iI ((sp_b b k : Nat) : Int))]) (rest := [.int (iI 1), .int (iI ((k : Nat) : Int))]) S (c_Encoding_lengthBehind l E en utf (sp_b b k) hbk) ⟨zcwB (n := 1) S zw_441 zw_7 zw_686 (by decide +kernel) rfl rfl ⟨Nat.le_of_ble_eq_true rfl, Nat.le_of_ble_eq_true rfl⟩, S.2.2.2.2 _ zw_439, S.2.2.2.2 _ zw_440⟩ (zPreV hE (zfz hS hen (hAZ _ hze)) rfl (zfz hS hen (hAZ _ hze))) rfl rfl hl.1 rfl (lv_room (Nat.le_of_ble_eq_true rfl)) d_Output_copy_43 ⟨by (try dsimp only); omega, by (try dsimp only); omega⟩) ?_
      rw [e1]
      refine zcR (va_runS (As := [.int (iI 1), .int (iI ((sp_len utf c : Nat) : Int))]) (rest := [.int (iI ((k : Nat) : Int))]) S (c_Math_max l E 1 ((sp_len utf c : Nat) : Int) (by omega) (by omega)) ⟨zcwB (n := 2) S zw_461 zw_23 zw_687 (by decide +kernel) rfl rfl ⟨Nat.le_of_ble_eq_true rfl, Nat.le_of_ble_eq_true rfl⟩, S.2.2.2.2 _ zw_460⟩ (zPreS hE trivial) rfl rfl hl.1 rfl (lv_room (Nat.le_of_ble_eq_true rfl)) d_Output_copy_46 ⟨by (try dsimp only); omega, by (try dsimp only); omega⟩) ?_
      rw [show max (1 : Int) ((sp_len utf c : Nat) : Int) = ((sp_len utf c : Nat) : Int) by omega]
      refine zi_iadd hx hb d_Output_copy_49 ?_
      rw [show ((k : Nat) : Int) + ((sp_len utf c : Nat) : Int) = ((k + sp_len utf c : Nat) : Int) by omega]
      refine lv_istore (lv' := [(4, .int (iI ((k + sp_len utf c : Nat) : Int))), (0, .ref h), (1, .ref r), (2, .int (iI ((k0 : Nat) : Int))), (3, .int (iI ((k0 + (sp_encs utf cs).length : Nat) : Int)))]) hx hb d_Output_copy_50 hl (by decide) rfl (fun ls hl => ?_)
      refine lv_goto hx hb d_Output_copy_52 rfl ?_
      refine W.widen (k := (max cap1 (sp_up (out1 ++ sp_enc utf t).length) - cap) / 16) (n := 2 * (max cap1 (sp_up (out1 ++ sp_enc utf t).length) - cap)) (by (try dsimp only); omega) (by (try dsimp only); omega) ?_
      exact ih (cs2, k + sp_len utf c, out1 ++ sp_enc utf t, 0, q2, max cap1 (sp_up (out1 ++ sp_enc utf t).length), f2) H locs ls _ _ (by dsimp only; rw [ec]; simp) ⟨rfl, rfl, lv_sub hl [0, 1, 2, 3, 4] rfl, hP.sub (ws' := [(h, .inr (6, [.ref en, .ref ca, .ref rb, .ref (E.2.2.1 (mode + 1)), .ref (E.2.2.1 (0 + 1)), .int (iI (bN false))])), (rb, .inr (1, [.int (iI 262144), .ref q2, .int (iI (((out1 ++ sp_enc utf t).length : Nat) : Int))])), (q2, .inl (E.2.1 0, max cap1 (sp_up (out1 ++ sp_enc utf t).length), .inl f2))]) [0, 1, 2] rfl, hD.sub (ws' := [(h, .inr (6, [.ref en, .ref ca, .ref rb, .ref (E.2.2.1 (mode + 1)), .ref (E.2.2.1 (0 + 1)), .int (iI (bN false))])), (rb, .inr (1, [.int (iI 262144), .ref q2, .int (iI (((out1 ++ sp_enc utf t).length : Nat) : Int))])), (q2, .inl (E.2.1 0, max cap1 (sp_up (out1 ++ sp_enc utf t).length), .inl f2))]) [0, 1, 2] (by decide) rfl, hS, ⟨e4, fun x hx => i2 x (by rw [ec]; exact List.mem_cons_of_mem _ hx), by rw [ec, sp_encs_cons, List.length_append, sp_enc_len] at i3; omega, by rw [← i4, ec, sp_all_cons h1], hB2, hF2, sp_capok_max i7 (sp_up_ok _), by omega, by omega⟩⟩
    · skip
      have hPc := hP.sub (ws' := [(h, .inr (6, [.ref en, .ref ca, .ref rb, .ref (E.2.2.1 (mode + 1)), .ref (E.2.2.1 (once1 + 1)), .int (iI (bN false))])), (rb, .inr (1, [.int (iI 262144), .ref q1, .int (iI ((out1.length : Nat) : Int))])), (q1, .inl (E.2.1 0, cap1, .inl f1))]) [0, 1, 2] rfl
      have hDc := hD.sub (ws' := [(h, .inr (6, [.ref en, .ref ca, .ref rb, .ref (E.2.2.1 (mode + 1)), .ref (E.2.2.1 (once1 + 1)), .int (iI (bN false))])), (rb, .inr (1, [.int (iI 262144), .ref q1, .int (iI ((out1.length : Nat) : Int))])), (q1, .inl (E.2.1 0, cap1, .inl f1))]) [0, 1, 2] (by decide) rfl
      have hFc := va_free (wc := [(h, .inr (6, [.ref en, .ref ca, .ref rb, .ref (E.2.2.1 (mode + 1)), .ref (E.2.2.1 (once1 + 1)), .int (iI (bN false))])), (rb, .inr (1, [.int (iI 262144), .ref q1, .int (iI ((out1.length : Nat) : Int))])), (q1, .inl (E.2.1 0, cap1, .inl f1))]) hD hS hA [0, 1, 2] rfl
      refine zcW (va_runV (As := [.int (iI ((c : Nat) : Int))]) (rest := []) S (c_Output_put_full l E H.size Z h rb q1 en ca cap1 mode once1 c how t utf ucp f1 out1 i5 i6 i7 hmode i8 hokc hhow ht hfit) ⟨zcwB (n := 1) S zw_671 zw_8 zw_668 (by decide +kernel) rfl rfl ⟨Nat.le_of_ble_eq_true rfl, Nat.le_of_ble_eq_true rfl⟩, S.2.2.2.2 _ zw_669, S.2.2.2.2 _ zw_670⟩ (zPreV hE (hP 0 _ rfl) rfl ⟨rfl, hPc, hDc.weaken (fun _ _ _ h => ⟨hA0 _ h, fun z => hAZ _ z h⟩), (fun q z => Nat.lt_of_lt_of_le (hZb q z) hS.1), hze, hzc, (zfz hS hen (hAZ _ hze)), (zfz hS hca (hAZ _ hzc))⟩) rfl rfl hl.1 rfl (lv_room (Nat.le_of_ble_eq_true rfl)) d_Output_copy_27 ⟨by (try dsimp only); omega, by (try dsimp only); omega⟩) hS (fun q _ h => hFc q h) hFc (fun v H locs hq hz1 hk1 hS => ?_)
      obtain ⟨rfl, hP1, hD1⟩ := hq
      obtain ⟨hP, hD⟩ := va_join (wr := []) (w1 := [(h, .inr (6, [.ref en, .ref ca, .ref rb, .ref (E.2.2.1 (mode + 1)), .ref (E.2.2.1 (0 + 1)), .int (iI (bN true))])), (rb, .inr (1, [.int (iI 262144), .ref q1, .int (iI ((out1.length : Nat) : Int))])), (q1, .inl (E.2.1 0, cap1, .inl f1))]) hP hD [0, 1, 2] [] rfl rfl (by decide) (by decide) hk1 hFc hP1 hD1
      have hP : va_P E.1 zcl [(h, .inr (6, [.ref en, .ref ca, .ref rb, .ref (E.2.2.1 (mode + 1)), .ref (E.2.2.1 (0 + 1)), .int (iI (bN true))])), (rb, .inr (1, [.int (iI 262144), .ref q1, .int (iI ((out1.length : Nat) : Int))])), (q1, .inl (E.2.1 0, cap1, .inl f1))] H := hP
      have hD : va_D A [(h, .inr (6, [.ref en, .ref ca, .ref rb, .ref (E.2.2.1 (mode + 1)), .ref (E.2.2.1 (0 + 1)), .int (iI (bN true))])), (rb, .inr (1, [.int (iI 262144), .ref q1, .int (iI ((out1.length : Nat) : Int))])), (q1, .inl (E.2.1 0, cap1, .inl f1))] := hD
      have hE := hE0.at hS hA0
      have hltt := sp_case_lt (ucp := ucp) (how := how) hokc
      have hlnt := sp_len_le utf t
      have hcap : cap1 = 262144 := by have := i5.1; unfold sp_capok at i7; omega
      subst hcap
      refine lv_iload hx hb d_Output_copy_30 (lv_at hl 0 rfl) ?_
      refine zi_iconst hx hb d_Output_copy_32 ?_
      refine lv_aload_n hx hb d_Output_copy_33 rfl (lv_at hl 1 rfl) ?_
      refine zgf S hE (ci := 6) rfl i_Output (hP 0 _ rfl) 0 (by decide) zw_154 rfl d_Output_copy_34 ?_
      refine lv_aload_n hx hb d_Output_copy_37 rfl (lv_at hl 2 rfl) ?_
      refine lv_iload hx hb d_Output_copy_38 (lv_at hl 0 rfl) ?_
      refine zcR (va_runV (As := [.int (iI ((k : Nat) : Int))]) (rest := [.ref en, .int (iI 1), .int (iI ((k : Nat) : Int))]) S (c_Row_at l E r b ((k : Nat) : Int) (by omega)) ⟨zcwB (n := 1) S zw_437 zw_2 zw_685 (by decide +kernel) rfl rfl ⟨Nat.le_of_ble_eq_true rfl, Nat.le_of_ble_eq_true rfl⟩, S.2.2.2.2 _ zw_435, S.2.2.2.2 _ zw_436⟩ (zPreVrow hE (zrowZ.row (zrowZ.fz hrow hS hAZ)) (zrowZ.row (zrowZ.fz hrow hS hAZ))) rfl rfl hl.1 rfl (lv_room (Nat.le_of_ble_eq_true rfl)) d_Output_copy_40 ⟨by (try dsimp only); omega, by (try dsimp only); omega⟩) ?_
      rw [sp_at_in (n := k) (by omega) (by omega)]
      have hb40 := sp_b_lt (zrow.lt (zrowZ.row (zrowZ.fz hrow hS hAZ))) (k)
      have hbk := sp_b_lt (zrow.lt (zrowZ.row hrow)) k
      refine zcR (va_runV (As := [.int (iI ((sp_b b k : Nat) : Int))]) (rest := [.int (iI 1), .int (iI ((k : Nat) : Int))]) S (c_Encoding_lengthBehind l E en utf (sp_b b k) hbk) ⟨zcwB (n := 1) S zw_441 zw_7 zw_686 (by decide +kernel) rfl rfl ⟨Nat.le_of_ble_eq_true rfl, Nat.le_of_ble_eq_true rfl⟩, S.2.2.2.2 _ zw_439, S.2.2.2.2 _ zw_440⟩ (zPreV hE (zfz hS hen (hAZ _ hze)) rfl (zfz hS hen (hAZ _ hze))) rfl rfl hl.1 rfl (lv_room (Nat.le_of_ble_eq_true rfl)) d_Output_copy_43 ⟨by (try dsimp only); omega, by (try dsimp only); omega⟩) ?_
      rw [e1]
      refine zcR (va_runS (As := [.int (iI 1), .int (iI ((sp_len utf c : Nat) : Int))]) (rest := [.int (iI ((k : Nat) : Int))]) S (c_Math_max l E 1 ((sp_len utf c : Nat) : Int) (by omega) (by omega)) ⟨zcwB (n := 2) S zw_461 zw_23 zw_687 (by decide +kernel) rfl rfl ⟨Nat.le_of_ble_eq_true rfl, Nat.le_of_ble_eq_true rfl⟩, S.2.2.2.2 _ zw_460⟩ (zPreS hE trivial) rfl rfl hl.1 rfl (lv_room (Nat.le_of_ble_eq_true rfl)) d_Output_copy_46 ⟨by (try dsimp only); omega, by (try dsimp only); omega⟩) ?_
      rw [show max (1 : Int) ((sp_len utf c : Nat) : Int) = ((sp_len utf c : Nat) : Int) by omega]
      refine zi_iadd hx hb d_Output_copy_49 ?_
      rw [show ((k : Nat) : Int) + ((sp_len utf c : Nat) : Int) = ((k + sp_len utf c : Nat) : Int) by omega]
      refine lv_istore (lv' := [(4, .int (iI ((k + sp_len utf c : Nat) : Int))), (0, .ref h), (1, .ref r), (2, .int (iI ((k0 : Nat) : Int))), (3, .int (iI ((k0 + (sp_encs utf cs).length : Nat) : Int)))]) hx hb d_Output_copy_50 hl (by decide) rfl (fun ls hl => ?_)
      refine lv_goto hx hb d_Output_copy_52 rfl ?_
      refine lv_iload hx hb d_Output_copy_3 (lv_at hl 0 rfl) ?_
      refine lv_iload_n hx hb d_Output_copy_5 rfl (lv_at hl 4 rfl) ?_
      refine zi_icmp_ge hx hb d_Output_copy_6 rfl (by omega) (by omega) (fun h6 => ?_) (fun h6 => ?_)
      · exact zwv S hr hlk hS (⟨rfl, q1, f1, out1, hP.sub (ws' := [(h, .inr (6, [.ref en, .ref ca, .ref rb, .ref (E.2.2.1 (mode + 1)), .ref (E.2.2.1 (0 + 1)), .int (iI (bN true))])), (rb, .inr (1, [.int (iI 262144), .ref q1, .int (iI ((out1.length : Nat) : Int))])), (q1, .inl (E.2.1 0, 262144, .inl f1))]) [0, 1, 2] rfl, hD.sub (ws' := [(h, .inr (6, [.ref en, .ref ca, .ref rb, .ref (E.2.2.1 (mode + 1)), .ref (E.2.2.1 (0 + 1)), .int (iI (bN true))])), (rb, .inr (1, [.int (iI 262144), .ref q1, .int (iI ((out1.length : Nat) : Int))])), (q1, .inl (E.2.1 0, 262144, .inl f1))]) [0, 1, 2] (by decide) rfl, i5, i6⟩) (by (try dsimp only); omega) (by (try dsimp only); omega) d_Output_copy_55
      · refine lv_aload_n hx hb d_Output_copy_9 rfl (lv_at hl 1 rfl) ?_
        refine zgf S hE (ci := 6) rfl i_Output (hP 0 _ rfl) 5 (by decide) zw_159 rfl d_Output_copy_10 ?_
        refine zb_ifne hx hb d_Output_copy_13 rfl (fun _ => ?_) (fun h => absurd h (by decide))
        exact zwv S hr hlk hS (⟨rfl, q1, f1, out1, hP.sub (ws' := [(h, .inr (6, [.ref en, .ref ca, .ref rb, .ref (E.2.2.1 (mode + 1)), .ref (E.2.2.1 (0 + 1)), .int (iI (bN true))])), (rb, .inr (1, [.int (iI 262144), .ref q1, .int (iI ((out1.length : Nat) : Int))])), (q1, .inl (E.2.1 0, 262144, .inl f1))]) [0, 1, 2] rfl, hD.sub (ws' := [(h, .inr (6, [.ref en, .ref ca, .ref rb, .ref (E.2.2.1 (mode + 1)), .ref (E.2.2.1 (0 + 1)), .int (iI (bN true))])), (rb, .inr (1, [.int (iI 262144), .ref q1, .int (iI ((out1.length : Nat) : Int))])), (q1, .inl (E.2.1 0, 262144, .inl f1))]) [0, 1, 2] (by decide) rfl, i5, i6⟩) (by (try dsimp only); omega) (by (try dsimp only); omega) d_Output_copy_55
