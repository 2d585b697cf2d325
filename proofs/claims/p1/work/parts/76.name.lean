set_option maxRecDepth 100000 in
set_option maxHeartbeats 4000000 in
theorem cx_RW_name (l : Launch) (htl : ∀ e : Env, l.admits e → e.platform.stackTraces = false) (E : zP) (sz : Nat) (x en tx gr h w : Nat) (lc lo : Int) (ta sa al mk : Nat) (ng : Int) (G : sp_Src) (utf : Bool) (k0 : Int) (hk0 : r32 k0) (hk : k0 < 1 ∨ ((G.1 : Nat) : Int) < k0) : MetX l y_RW_name (.code y_RW_name b_RW_name 2 ( some FieldType.int ) :: zw) { frames := 7, cells := 1, slots := 6, locals := 81 } (zPc E [.ref x, .int (iI k0)] (fun H => H.size = sz ∧ va_P E.1 zcl [(x, .inr (0, [.ref en, .ref tx, .ref gr, .ref h, .ref w, .int (iI lc), .int (iI lo)])), (gr, .inr (5, [.ref ta, .ref sa, .ref al, .ref mk, .int (iI ((G.1 : Nat) : Int)), .int (iI ng)]))] H ∧ va_D (zOld E) [(x, .inr (0, [.ref en, .ref tx, .ref gr, .ref h, .ref w, .int (iI lc), .int (iI lo)])), (gr, .inr (5, [.ref ta, .ref sa, .ref al, .ref mk, .int (iI ((G.1 : Nat) : Int)), .int (iI ng)]))] ∧ (zgrp E (fun _ => True) utf gr G H))) (zX "java/lang/IllegalArgumentException" (fun H => va_P E.1 zcl [(x, .inr (0, [.ref en, .ref tx, .ref gr, .ref h, .ref w, .int (iI lc), .int (iI lo)])), (gr, .inr (5, [.ref ta, .ref sa, .ref al, .ref mk, .int (iI ((G.1 : Nat) : Int)), .int (iI ng)]))] H) (va_A [(x, .inr (0, [.ref en, .ref tx, .ref gr, .ref h, .ref w, .int (iI lc), .int (iI lo)])), (gr, .inr (5, [.ref ta, .ref sa, .ref al, .ref mk, .int (iI ((G.1 : Nat) : Int)), .int (iI ng)]))] sz)) (1) (6) (va_A [(x, .inr (0, [.ref en, .ref tx, .ref gr, .ref h, .ref w, .int (iI lc), .int (iI lo)])), (gr, .inr (5, [.ref ta, .ref sa, .ref al, .ref mk, .int (iI ((G.1 : Nat) : Int)), .int (iI ng)]))] sz) := by
  refine zMetX (by decide) (Nat.le_of_ble_eq_true rfl) ?_
  intro p e s m below meth c ls S hr hlk hnm hnh hadm hE ⟨hsz, hP, hDo, hgrp⟩ hl
  have hx := S.1
  have hb := S.2.1
  have hE0 := hE
  have hl : lv_has ls 2 [(0, .ref x), (1, .int (iI k0))] := hl
  subst hsz
  have hD := hDo.self (sz := s.heap.size)
  generalize hAe : va_A [(x, .inr (0, [.ref en, .ref tx, .ref gr, .ref h, .ref w, .int (iI lc), .int (iI lo)])), (gr, .inr (5, [.ref ta, .ref sa, .ref al, .ref mk, .int (iI ((G.1 : Nat) : Int)), .int (iI ng)]))] s.heap.size = A at hD ⊢
  have hA : ∀ q : Nat, s.heap.size ≤ q → A q := fun q h => by rw [← hAe]; exact Or.inr h
  have hA0 := zA0 hE hDo hAe
  have hS : va_S A s.heap s.heap [] := va_S.rf
  obtain ⟨hka, hkb⟩ := hk0
  refine lv_iload_n hx hb d_RW_name_0 rfl (lv_at hl 1 rfl) ?_
  refine zi_iconst hx hb d_RW_name_1 ?_
  refine zi_icmp_lt hx hb d_RW_name_2 rfl (by omega) (by omega) (fun h2 => ?_) (fun h2 => ?_)
  · skip
    exact zthrow (names := zexn) S hlk hnh (htl e hadm) (by decide) (by decide) (zown_IllegalArgumentException (args := _) hE) zw_378 zw_379 zw_25 hl.1 d_RW_name_16 d_RW_name_19 d_RW_name_20 d_RW_name_23 (Nat.le_of_ble_eq_true rfl) (Nat.le_of_ble_eq_true rfl) (by (try dsimp only); omega) (by (try dsimp only); omega) (by (try dsimp only); omega) (by (try dsimp only); omega) hS (fun H1 hz1 hk1 => hP.kept (fun k9 x9 h9 => hk1 x9.1 (hP k9 x9 h9).lt))
  · skip
    refine lv_aload_n hx hb d_RW_name_5 rfl (lv_at hl 0 rfl) ?_
    refine zgf S hE (ci := 0) rfl i_RW (hP 0 _ rfl) 2 (by decide) zw_231 rfl d_RW_name_6 ?_
    refine lv_iload_n hx hb d_RW_name_9 rfl (lv_at hl 1 rfl) ?_
    refine zcR (va_runV (As := [.int (iI k0)]) (rest := []) S (c_Groups_has l E (fun _ => True) utf gr G k0 (by omega)) ⟨zcwB (n := 1) S zw_424 zw_3 zw_421 (by decide +kernel) rfl rfl ⟨Nat.le_of_ble_eq_true rfl, Nat.le_of_ble_eq_true rfl⟩, S.2.2.2.2 _ zw_422, S.2.2.2.2 _ zw_423⟩ (zPreV hE (hP 1 _ rfl) rfl hgrp) rfl rfl hl.1 rfl (lv_room (Nat.le_of_ble_eq_true rfl)) d_RW_name_10 ⟨by (try dsimp only); omega, by (try dsimp only); omega⟩) ?_
    refine zb_ifne hx hb d_RW_name_13 rfl (fun h13 => absurd (of_decide_eq_true h13) (by omega)) (fun h13 => ?_)
    exact zthrow (names := zexn) S hlk hnh (htl e hadm) (by decide) (by decide) (zown_IllegalArgumentException (args := _) hE) zw_378 zw_379 zw_25 hl.1 d_RW_name_16 d_RW_name_19 d_RW_name_20 d_RW_name_23 (Nat.le_of_ble_eq_true rfl) (Nat.le_of_ble_eq_true rfl) (by (try dsimp only); omega) (by (try dsimp only); omega) (by (try dsimp only); omega) (by (try dsimp only); omega) hS (fun H1 hz1 hk1 => hP.kept (fun k9 x9 h9 => hk1 x9.1 (hP k9 x9 h9).lt))

set_option maxRecDepth 100000 in
set_option maxHeartbeats 4000000 in
theorem cx2_RW_name (l : Launch) (htl : ∀ e : Env, l.admits e → e.platform.stackTraces = false) (E : zP) (own : Bool) (nn : Nat) (ad : Nat → Nat) (en : Nat → va_E) (S : zSp) (C : zCp) (sz : Nat) (k0 : Int) (hk0 : r32 k0) (hk : k0 < 1 ∨ ((S.2.2.1.1.1 : Nat) : Int) < k0) : MetX l y_RW_name (.code y_RW_name b_RW_name 2 ( some FieldType.int ) :: zw) { frames := 7, cells := 1, slots := 6, locals := 81 } (zPc E [.ref (ad 0), .int (iI k0)] (fun H => H.size = sz ∧ zSt E own nn ad en S C H)) (zX "java/lang/IllegalArgumentException" (fun H => zSt E own nn ad en S C H) (zAo (zRo own nn) ad sz)) (1) (6) (zAo (zRo own nn) ad sz) := by
  refine zMetX_use (fun U hE hp => ?_)
  obtain ⟨hsz, hst⟩ := hp
  subst hsz
  have hst0 := hst
  obtain ⟨hL, hso, s0, s1, s7, ⟨⟨f, t1, t2, hB, hF⟩, hc, hl⟩, so, s5, s6, g4, g11, g12, grow, ⟨fm, m1, m2, hBm, hFm⟩, gmo, g99, glist⟩ := hst
  have hgr := zgrp_of (Z := fun _ => True) hL hst0.2.2.2.2.2.2.2.2.2 (fun _ _ _ => trivial) (fun ho => ⟨trivial, (hso ho).2⟩)
  have hw : ([0, 4] : List Nat).map (fun i => (ad i, en i)) = [(ad 0, en 0), (ad 4, en 4)] := rfl
  have hR : ∀ i ∈ ([0, 4] : List Nat), zRo own nn i := (zRo.of4 (fun i hi => by simp only [List.mem_cons, List.not_mem_nil, or_false] at hi; omega))
  obtain ⟨p1, p2⟩ := hL.pre [0, 4] hw hR (by decide)
  have hA := zAo_of (R := zRo own nn) (sz := U.heap.size) [0, 4] hw hR
  have hw2 := hw
  rw [s0, g4] at p1 p2 hA hw2
  exact ⟨_, _, _, cx_RW_name l htl E U.heap.size (ad 0) (ad 1) (ad 2) (ad 4) (ad 5) (ad 6) S.2.2.2.2.1 S.2.2.2.2.2 (ad 11) (ad 12) (ad 13) (ad 15) ((S.2.2.1.2 : Nat) : Int) S.2.2.1.1 S.1.1 k0 hk0 hk, ⟨rfl, p1, p2, hgr⟩, hA, fun H1 hP1 hz hk => zSt.same hst0 hE.2.1 [0, 4] hw2 hR (by decide) hP1 hk⟩

set_option maxRecDepth 100000 in
set_option maxHeartbeats 4000000 in
theorem wx_Law_name (l : Launch) (htl : ∀ e : Env, l.admits e → e.platform.stackTraces = false) (E : zP) (own : Bool) (nn : Nat) (ad : Nat → Nat) (en : Nat → va_E) (St : zSp) (C : zCp) (sz ou : Nat) (z0 : Int64) (k0 : Int) (hk0 : r32 k0) (hk : k0 < 1 ∨ ((St.2.2.1.1.1 : Nat) : Int) < k0) : Met l y_Law_name (.codeWith y_Law_name b_Law_name 4 ( some FieldType.int ) [(0, 9, 12, 19), (0, 9, 15, 28)] :: zw) { frames := 8, cells := 1, slots := 6, locals := 102 } (zPc E [.ref (ad 0), .int (iI k0), .ref ou] (zLp E own nn ad en St C sz ou z0)) (zW (zLq E own nn ad sz ou 1 z0 own nn St C) (zAw (zRo own nn) ad sz ou)) (1) (6) (zAw (zRo own nn) ad sz ou) := by
  refine zMetW (by decide) (Nat.le_of_ble_eq_true rfl) ?_
  intro p e s m below meth c ls S hr hlk hnm htab hadm hE ⟨hsz, hst, hou, hne, hoo⟩ hl
  have hx := S.1
  have hb := S.2.1
  have hE0 := hE
  have hl : lv_has ls 4 [(0, .ref (ad 0)), (1, .int (iI k0)), (2, .ref ou)] := hl
  subst hsz
  have hA0 := zAw_old hst.1 hE.2.1 hoo
  have hS : va_S (zAw (zRo own nn) ad s.heap.size ou) s.heap s.heap [] := va_S.rf
  have a0 := hst.1.2.2 0 (zRo.lo (by decide) (by decide))
  rw [hst.2.2.1] at a0
  refine lv_aload_n hx hb d_Law_name_0 rfl (lv_at hl 2 rfl) ?_
  refine zi_iconst hx hb d_Law_name_1 ?_
  refine lv_aload_n hx hb d_Law_name_2 rfl (lv_at hl 0 rfl) ?_
  refine lv_iload_n hx hb d_Law_name_3 rfl (lv_at hl 1 rfl) ?_
  refine zcX (As := [.int (iI k0)]) (rest := [.int (iI 0), .ref ou]) (pre := []) (rst := [⟨0, 9, 15, 28⟩]) (xe := ⟨0, 9, 12, 19⟩) (name := "java/lang/IllegalArgumentException") S (cx2_RW_name l htl E own nn ad en St C _ k0 hk0 hk) ⟨zcwB (n := 1) S zw_511 zw_1 zw_508 (by decide +kernel) rfl rfl ⟨Nat.le_of_ble_eq_true rfl, Nat.le_of_ble_eq_true rfl⟩, S.2.2.2.2 _ zw_509, S.2.2.2.2 _ zw_510⟩ (zPreV hE a0 rfl ⟨rfl, hst⟩) rfl hl.1 rfl (lv_room (Nat.le_of_ble_eq_true rfl)) d_Law_name_4 ⟨by (try dsimp only); omega, by (try dsimp only); omega⟩ (by rw [htab]; rfl) (fun _ _ z hz => nomatch hz) rfl (by decide) (S.2.2.2.2 _ zw_373) (zcast_IllegalArgumentException hE) hS (fun q _ h => Or.inl h) (fun q h => Or.inl h) (fun x9 H locs hq hz1 hk1 hS => ?_)
  have hou1 := hou.kept (hk1 ou hou.lt (zAo_no hne hou.lt))
  refine lv_astore_n (lv' := [(3, .ref x9), (0, .ref (ad 0)), (1, .int (iI k0)), (2, .ref ou)]) hx hb d_Law_name_12 rfl hl (by decide) rfl (fun ls hl => ?_)
  refine zi_iconst hx hb d_Law_name_13 ?_
  exact zwi S hr hlk hS (⟨rfl, hou1, ad, en, rfl, zFr_rfl, hq⟩) (by (try dsimp only); omega) (by (try dsimp only); omega) d_Law_name_14
