set_option maxRecDepth 100000 in
set_option maxHeartbeats 4000000 in
theorem c_Writing_fail (l : Launch) (E : zP) (sz : Nat) (Z : Nat → Prop) (w tx gr h en es : Nat) (rich uemp uunk utf : Bool) (cd of c1 o1 : Int) (t : List Nat) (hcd : r32 cd) : Met l y_Writing_fail (.code y_Writing_fail b_Writing_fail 3 ( some FieldType.int ) :: zw) { frames := 1, cells := (0), slots := (0), locals := 20 } (zPc E [.ref w, .int (iI c1), .int (iI o1)] (fun H => H.size = sz ∧ va_P E.1 zcl [(w, .inr (8, [.ref tx, .ref gr, .ref h, .ref en, .ref es, .int (iI (bN rich)), .int (iI (bN uemp)), .int (iI (bN uunk)), .int (iI cd), .int (iI of)]))] H ∧ va_D (fun x => zOld E x ∧ ¬ Z x) [(w, .inr (8, [.ref tx, .ref gr, .ref h, .ref en, .ref es, .int (iI (bN rich)), .int (iI (bN uemp)), .int (iI (bN uunk)), .int (iI cd), .int (iI of)]))] ∧ (∀ q, Z q → q < sz) ∧ (zrowZ E Z tx (sp_encs utf t) H))) (zW (fun v H => v = some (.int (iI (((sp_encs utf t).length : Nat) : Int))) ∧ va_P E.1 zcl [(w, .inr (8, [.ref tx, .ref gr, .ref h, .ref en, .ref es, .int (iI (bN rich)), .int (iI (bN uemp)), .int (iI (bN uunk)), .int (iI (if cd = 0 then c1 else cd)), .int (iI (if cd = 0 then o1 else of))]))] H ∧ va_D (va_A [(w, .inr (8, [.ref tx, .ref gr, .ref h, .ref en, .ref es, .int (iI (bN rich)), .int (iI (bN uemp)), .int (iI (bN uunk)), .int (iI cd), .int (iI of)]))] sz) [(w, .inr (8, [.ref tx, .ref gr, .ref h, .ref en, .ref es, .int (iI (bN rich)), .int (iI (bN uemp)), .int (iI (bN uunk)), .int (iI (if cd = 0 then c1 else cd)), .int (iI (if cd = 0 then o1 else of))]))]) (va_A [(w, .inr (8, [.ref tx, .ref gr, .ref h, .ref en, .ref es, .int (iI (bN rich)), .int (iI (bN uemp)), .int (iI (bN uunk)), .int (iI cd), .int (iI of)]))] sz)) (0) (0) (va_A [(w, .inr (8, [.ref tx, .ref gr, .ref h, .ref en, .ref es, .int (iI (bN rich)), .int (iI (bN uemp)), .int (iI (bN uunk)), .int (iI cd), .int (iI of)]))] sz) := by
  refine zMet (by decide) (Nat.le_of_ble_eq_true rfl) ?_
  intro p e s m below meth c ls S hr hlk hnm hE ⟨hsz, hP, hDo, hZb, hrowz⟩ hl
  have hx := S.1
  have hb := S.2.1
  have hE0 := hE
  have hl : lv_has ls 3 [(0, .ref w), (1, .int (iI c1)), (2, .int (iI o1))] := hl
  subst hsz
  have hD := hDo.self (sz := s.heap.size)
  generalize hAe : va_A [(w, .inr (8, [.ref tx, .ref gr, .ref h, .ref en, .ref es, .int (iI (bN rich)), .int (iI (bN uemp)), .int (iI (bN uunk)), .int (iI cd), .int (iI of)]))] s.heap.size = A at hD ⊢
  have hA : ∀ q : Nat, s.heap.size ≤ q → A q := fun q h => by rw [← hAe]; exact Or.inr h
  have hA1 := zAZ hE hDo hZb hAe
  have hA0 : ∀ q, A q → zOld E q := fun q h => (hA1 q h).1
  have hAZ : ∀ q, Z q → ¬ A q := fun q z h => (hA1 q h).2 z
  have hS : va_S A s.heap s.heap [] := va_S.rf
  refine lv_aload_n hx hb d_Writing_fail_0 rfl (lv_at hl 0 rfl) ?_
  refine zgf S hE (ci := 8) rfl i_Writing (hP 0 _ rfl) 8 (by decide) zw_206 rfl d_Writing_fail_1 ?_
  refine zi_if_ne hx hb d_Writing_fail_4 rfl (by omega) (fun h4 => ?_) (fun h4 => ?_)
  · refine lv_aload_n hx hb d_Writing_fail_17 rfl (lv_at hl 0 rfl) ?_
    refine zgf S hE (ci := 8) rfl i_Writing (hP 0 _ rfl) 0 (by decide) zw_198 rfl d_Writing_fail_18 ?_
    refine zcR (va_runV (As := []) (rest := []) S (c_Row_length l E tx (sp_encs utf t)) ⟨zcwB (n := 0) S zw_258 zw_2 zw_662 (by decide +kernel) rfl rfl ⟨Nat.le_of_ble_eq_true rfl, Nat.le_of_ble_eq_true rfl⟩, S.2.2.2.2 _ zw_256, S.2.2.2.2 _ zw_257⟩ (zPreVrow hE (zrowZ.row (zrowZ.fz hrowz hS hAZ)) (zrowZ.row (zrowZ.fz hrowz hS hAZ))) rfl rfl hl.1 rfl (lv_room (Nat.le_of_ble_eq_true rfl)) d_Writing_fail_21 ⟨by (try dsimp only); omega, by (try dsimp only); omega⟩) ?_
    exact zwi S hr hlk hS (⟨rfl, by first | (rw [if_pos (by omega), if_pos (by omega)]; exact hP) | (rw [if_neg (by omega), if_neg (by omega)]; exact hP), by first | (rw [if_pos (by omega), if_pos (by omega)]; exact hD) | (rw [if_neg (by omega), if_neg (by omega)]; exact hD)⟩) (by (try dsimp only); omega) (by (try dsimp only); omega) d_Writing_fail_24
  · refine lv_aload_n hx hb d_Writing_fail_7 rfl (lv_at hl 0 rfl) ?_
    refine lv_iload_n hx hb d_Writing_fail_8 rfl (lv_at hl 1 rfl) ?_
    refine va_put (D := E.1) (ci := 8) (v := .int (iI c1)) (ty := .int) (C := "ReplacementWriter$Writing") (T := F_Writing) (N := 10) hx hb S.2.2.2.2 i_Writing t_Writing t_Writing_ok n_Writing S.2.2.2.1 hE.1 hP hD hS 0 rfl rfl 8 (by decide) (S.2.2.2.2 _ zw_206) (fun _ h9 => h9) rfl (by decide +kernel) rfl rfl (Nat.le_of_ble_eq_true rfl) d_Writing_fail_9 (fun H locs hP hD hS => ?_)
    have hP : va_P E.1 zcl [(w, .inr (8, [.ref tx, .ref gr, .ref h, .ref en, .ref es, .int (iI (bN rich)), .int (iI (bN uemp)), .int (iI (bN uunk)), .int (iI c1), .int (iI of)]))] H := hP
    have hD : va_D A [(w, .inr (8, [.ref tx, .ref gr, .ref h, .ref en, .ref es, .int (iI (bN rich)), .int (iI (bN uemp)), .int (iI (bN uunk)), .int (iI c1), .int (iI of)]))] := hD
    have hE := hE0.at hS hA0
    refine lv_aload_n hx hb d_Writing_fail_12 rfl (lv_at hl 0 rfl) ?_
    refine lv_iload_n hx hb d_Writing_fail_13 rfl (lv_at hl 2 rfl) ?_
    refine va_put (D := E.1) (ci := 8) (v := .int (iI o1)) (ty := .int) (C := "ReplacementWriter$Writing") (T := F_Writing) (N := 10) hx hb S.2.2.2.2 i_Writing t_Writing t_Writing_ok n_Writing S.2.2.2.1 hE.1 hP hD hS 0 rfl rfl 9 (by decide) (S.2.2.2.2 _ zw_207) (fun _ h9 => h9) rfl (by decide +kernel) rfl rfl (Nat.le_of_ble_eq_true rfl) d_Writing_fail_14 (fun H locs hP hD hS => ?_)
    have hP : va_P E.1 zcl [(w, .inr (8, [.ref tx, .ref gr, .ref h, .ref en, .ref es, .int (iI (bN rich)), .int (iI (bN uemp)), .int (iI (bN uunk)), .int (iI c1), .int (iI o1)]))] H := hP
    have hD : va_D A [(w, .inr (8, [.ref tx, .ref gr, .ref h, .ref en, .ref es, .int (iI (bN rich)), .int (iI (bN uemp)), .int (iI (bN uunk)), .int (iI c1), .int (iI o1)]))] := hD
    have hE := hE0.at hS hA0
    refine lv_aload_n hx hb d_Writing_fail_17 rfl (lv_at hl 0 rfl) ?_
    refine zgf S hE (ci := 8) rfl i_Writing (hP 0 _ rfl) 0 (by decide) zw_198 rfl d_Writing_fail_18 ?_
    refine zcR (va_runV (As := []) (rest := []) S (c_Row_length l E tx (sp_encs utf t)) ⟨zcwB (n := 0) S zw_258 zw_2 zw_662 (by decide +kernel) rfl rfl ⟨Nat.le_of_ble_eq_true rfl, Nat.le_of_ble_eq_true rfl⟩, S.2.2.2.2 _ zw_256, S.2.2.2.2 _ zw_257⟩ (zPreVrow hE (zrowZ.row (zrowZ.fz hrowz hS hAZ)) (zrowZ.row (zrowZ.fz hrowz hS hAZ))) rfl rfl hl.1 rfl (lv_room (Nat.le_of_ble_eq_true rfl)) d_Writing_fail_21 ⟨by (try dsimp only); omega, by (try dsimp only); omega⟩) ?_
    exact zwi S hr hlk hS (⟨rfl, by first | (rw [if_pos (by omega), if_pos (by omega)]; exact hP) | (rw [if_neg (by omega), if_neg (by omega)]; exact hP), by first | (rw [if_pos (by omega), if_pos (by omega)]; exact hD) | (rw [if_neg (by omega), if_neg (by omega)]; exact hD)⟩) (by (try dsimp only); omega) (by (try dsimp only); omega) d_Writing_fail_24
