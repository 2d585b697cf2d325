set_option maxRecDepth 100000 in
set_option maxHeartbeats 4000000 in
theorem c_RW_feed (l : Launch) (E : zP) (sz : Nat) (x en tx gr h w q cap : Nat) (lc lo : Int) (f : Nat → Int32) (b : List Nat) (v1 v2 v3 v4 v5 : Int32) (hB : zbytes b cap f) (hF : zfit cap f) (hc : sp_capok cap) (h20 : b.length + 20 ≤ 65536) : Met l y_RW_feed (.code y_RW_feed b_RW_feed 6 ( some FieldType.int ) :: zw) { frames := 4, cells := (((max cap (sp_up (b.length + 20))) - cap) / 16), slots := (2 * ((max cap (sp_up (b.length + 20))) - cap)), locals := 103 } (zPc E [.ref x, .int v1, .int v2, .int v3, .int v4, .int v5] (fun H => H.size = sz ∧ va_P E.1 zcl [(x, .inr (0, [.ref en, .ref tx, .ref gr, .ref h, .ref w, .int (iI lc), .int (iI lo)])), (tx, .inr (1, [.int (iI 65536), .ref q, .int (iI ((b.length : Nat) : Int))])), (q, .inl (E.2.1 0, cap, .inl f))] H ∧ va_D (zOld E) [(x, .inr (0, [.ref en, .ref tx, .ref gr, .ref h, .ref w, .int (iI lc), .int (iI lo)])), (tx, .inr (1, [.int (iI 65536), .ref q, .int (iI ((b.length : Nat) : Int))])), (q, .inl (E.2.1 0, cap, .inl f))] ∧ (True))) (zW (fun v H => v = some (.int (iI (((b ++ sp_four v1 ++ sp_four v2 ++ sp_four v3 ++ sp_four v4 ++ sp_four v5).length : Nat) : Int))) ∧ ∃ (q2 : Nat) (f2 : Nat → Int32), va_P E.1 zcl [(x, .inr (0, [.ref en, .ref tx, .ref gr, .ref h, .ref w, .int (iI lc), .int (iI lo)])), (tx, .inr (1, [.int (iI 65536), .ref q2, .int (iI (((b ++ sp_four v1 ++ sp_four v2 ++ sp_four v3 ++ sp_four v4 ++ sp_four v5).length : Nat) : Int))])), (q2, .inl (E.2.1 0, (max cap (sp_up (b.length + 20))), .inl f2))] H ∧ va_D (va_A [(x, .inr (0, [.ref en, .ref tx, .ref gr, .ref h, .ref w, .int (iI lc), .int (iI lo)])), (tx, .inr (1, [.int (iI 65536), .ref q, .int (iI ((b.length : Nat) : Int))])), (q, .inl (E.2.1 0, cap, .inl f))] sz) [(x, .inr (0, [.ref en, .ref tx, .ref gr, .ref h, .ref w, .int (iI lc), .int (iI lo)])), (tx, .inr (1, [.int (iI 65536), .ref q2, .int (iI (((b ++ sp_four v1 ++ sp_four v2 ++ sp_four v3 ++ sp_four v4 ++ sp_four v5).length : Nat) : Int))])), (q2, .inl (E.2.1 0, (max cap (sp_up (b.length + 20))), .inl f2))] ∧ zbytes (b ++ sp_four v1 ++ sp_four v2 ++ sp_four v3 ++ sp_four v4 ++ sp_four v5) (max cap (sp_up (b.length + 20))) f2 ∧ zfit (max cap (sp_up (b.length + 20))) f2) (va_A [(x, .inr (0, [.ref en, .ref tx, .ref gr, .ref h, .ref w, .int (iI lc), .int (iI lo)])), (tx, .inr (1, [.int (iI 65536), .ref q, .int (iI ((b.length : Nat) : Int))])), (q, .inl (E.2.1 0, cap, .inl f))] sz)) (((max cap (sp_up (b.length + 20))) - cap) / 16) (2 * ((max cap (sp_up (b.length + 20))) - cap)) (va_A [(x, .inr (0, [.ref en, .ref tx, .ref gr, .ref h, .ref w, .int (iI lc), .int (iI lo)])), (tx, .inr (1, [.int (iI 65536), .ref q, .int (iI ((b.length : Nat) : Int))])), (q, .inl (E.2.1 0, cap, .inl f))] sz) := by
  refine zMet (by decide) (Nat.le_of_ble_eq_true rfl) ?_
  intro p e s m below meth c ls S hr hlk hnm hE ⟨hsz, hP, hDo, hX⟩ hl
  have hx := S.1
  have hb := S.2.1
  have hE0 := hE
  have hl : lv_has ls 6 [(0, .ref x), (1, .int v1), (2, .int v2), (3, .int v3), (4, .int v4), (5, .int v5)] := hl
  subst hsz
  have hD := hDo.self (sz := s.heap.size)
  generalize hAe : va_A [(x, .inr (0, [.ref en, .ref tx, .ref gr, .ref h, .ref w, .int (iI lc), .int (iI lo)])), (tx, .inr (1, [.int (iI 65536), .ref q, .int (iI ((b.length : Nat) : Int))])), (q, .inl (E.2.1 0, cap, .inl f))] s.heap.size = A at hD ⊢
  have hA : ∀ q : Nat, s.heap.size ≤ q → A q := fun q h => by rw [← hAe]; exact Or.inr h
  have hA0 := zA0 hE hDo hAe
  have hS : va_S A s.heap s.heap [] := va_S.rf
  have hB0 := hB
  have hF0 := hF
  have hc0 := hc
  have hbl := hB.1
  have hbc := hB.2.1
  have hcr := sp_capok_r hc
  refine lv_aload_n hx hb d_RW_feed_0 rfl (lv_at hl 0 rfl) ?_
  refine zgf S hE (ci := 0) rfl i_RW (hP 0 _ rfl) 1 (by decide) zw_230 rfl d_RW_feed_1 ?_
  refine zcR (va_runV (As := []) (rest := []) S (c_Row_length l E tx b) ⟨zcwB (n := 0) S zw_258 zw_2 zw_255 (by decide +kernel) rfl rfl ⟨Nat.le_of_ble_eq_true rfl, Nat.le_of_ble_eq_true rfl⟩, S.2.2.2.2 _ zw_256, S.2.2.2.2 _ zw_257⟩ (zPreV hE (hP 1 _ rfl) rfl ⟨_, _, _, _, (hP 1 _ rfl), (hP 2 _ rfl), hB⟩) rfl rfl hl.1 rfl (lv_room (Nat.le_of_ble_eq_true rfl)) d_RW_feed_4 ⟨by (try dsimp only); omega, by (try dsimp only); omega⟩) ?_
  refine zi_bipush hx hb d_RW_feed_7 (by decide) ?_
  refine zi_iadd hx hb d_RW_feed_9 ?_
  refine zldc (n := 65536) S zw_49 (by decide) d_RW_feed_10 ?_
  refine zi_icmp_le hx hb d_RW_feed_12 rfl (by omega) (by omega) (fun h12 => ?_) (fun h => absurd h (by omega))
  refine lv_aload_n hx hb d_RW_feed_23 rfl (lv_at hl 0 rfl) ?_
  refine lv_iload_n hx hb d_RW_feed_24 rfl (lv_at hl 1 rfl) ?_
  have hn0 : (b).length = b.length + 0 := by simp [sp_four]
  have hm0 : sp_up ((b).length + 4) ≤ sp_up (b.length + 20) := sp_up_mono (by omega)
  have hPc := hP.sub (ws' := [(x, .inr (0, [.ref en, .ref tx, .ref gr, .ref h, .ref w, .int (iI lc), .int (iI lo)])), (tx, .inr (1, [.int (iI 65536), .ref q, .int (iI ((b.length : Nat) : Int))])), (q, .inl (E.2.1 0, cap, .inl f))]) [0, 1, 2] rfl
  have hDc := hD.sub (ws' := [(x, .inr (0, [.ref en, .ref tx, .ref gr, .ref h, .ref w, .int (iI lc), .int (iI lo)])), (tx, .inr (1, [.int (iI 65536), .ref q, .int (iI ((b.length : Nat) : Int))])), (q, .inl (E.2.1 0, cap, .inl f))]) [0, 1, 2] (by decide) rfl
  have hFc := va_free (wc := [(x, .inr (0, [.ref en, .ref tx, .ref gr, .ref h, .ref w, .int (iI lc), .int (iI lo)])), (tx, .inr (1, [.int (iI 65536), .ref q, .int (iI ((b.length : Nat) : Int))])), (q, .inl (E.2.1 0, cap, .inl f))]) hD hS hA [0, 1, 2] rfl
  refine zcW (va_runV (As := [.int v1]) (rest := []) S (c_RW_addFourBytes l E s.heap.size x en tx gr h w q cap lc lo f b v1 hB0 hF0 hc0 (by omega)) ⟨zcwB (n := 1) S zw_349 zw_1 zw_346 (by decide +kernel) rfl rfl ⟨Nat.le_of_ble_eq_true rfl, Nat.le_of_ble_eq_true rfl⟩, S.2.2.2.2 _ zw_348, S.2.2.2.2 _ zs_1⟩ (zPreV hE (hP 0 _ rfl) rfl ⟨rfl, hPc, hDc.weaken (fun _ _ _ h => hA0 _ h), trivial⟩) rfl rfl hl.1 rfl (lv_room (Nat.le_of_ble_eq_true rfl)) d_RW_feed_25 ⟨by (try dsimp only); omega, by (try dsimp only); omega⟩) hS (fun q _ h => hFc q h) hFc (fun v H locs hq hz1 hk1 hS => ?_)
  obtain ⟨rfl, q0, f0, hP1, hD1, hB1, hF1⟩ := hq
  obtain ⟨hP, hD⟩ := va_join (wr := []) (w1 := [(x, .inr (0, [.ref en, .ref tx, .ref gr, .ref h, .ref w, .int (iI lc), .int (iI lo)])), (tx, .inr (1, [.int (iI 65536), .ref q0, .int (iI (((b ++ sp_four v1).length : Nat) : Int))])), (q0, .inl (E.2.1 0, max cap (sp_up (b.length + 4)), .inl f0))]) hP hD [0, 1, 2] [] rfl rfl (by decide) (by decide) hk1 hFc hP1 hD1
  have hP : va_P E.1 zcl [(x, .inr (0, [.ref en, .ref tx, .ref gr, .ref h, .ref w, .int (iI lc), .int (iI lo)])), (tx, .inr (1, [.int (iI 65536), .ref q0, .int (iI (((b ++ sp_four v1).length : Nat) : Int))])), (q0, .inl (E.2.1 0, max cap (sp_up (b.length + 4)), .inl f0))] H := hP
  have hD : va_D A [(x, .inr (0, [.ref en, .ref tx, .ref gr, .ref h, .ref w, .int (iI lc), .int (iI lo)])), (tx, .inr (1, [.int (iI 65536), .ref q0, .int (iI (((b ++ sp_four v1).length : Nat) : Int))])), (q0, .inl (E.2.1 0, max cap (sp_up (b.length + 4)), .inl f0))] := hD
  have hE := hE0.at hS hA0
  have hc1 : sp_capok (max cap (sp_up (b.length + 4))) := sp_capok_max hc0 (sp_up_ok _)
  have hr0 := (sp_capok_r hc0).2.2
  have hr1 := (sp_capok_r hc1).2.2
  obtain ⟨cap0, ec0⟩ : ∃ x, x = max cap (sp_up (b.length + 4)) := ⟨_, rfl⟩
  rw [← ec0] at hr1 hc1 hB1 hF1 hP hD
  rw [← ec0]
  refine W.widen (k := (cap0 - cap) / 16) (n := 2 * (cap0 - cap)) (by omega) (by omega) ?_
  refine lv_aload_n hx hb d_RW_feed_28 rfl (lv_at hl 0 rfl) ?_
  refine lv_iload_n hx hb d_RW_feed_29 rfl (lv_at hl 2 rfl) ?_
  have hn1 : (b ++ sp_four v1).length = b.length + 4 := by simp [sp_four]
  have hm1 : sp_up ((b ++ sp_four v1).length + 4) ≤ sp_up (b.length + 20) := sp_up_mono (by omega)
  have hPc := hP.sub (ws' := [(x, .inr (0, [.ref en, .ref tx, .ref gr, .ref h, .ref w, .int (iI lc), .int (iI lo)])), (tx, .inr (1, [.int (iI 65536), .ref q0, .int (iI (((b ++ sp_four v1).length : Nat) : Int))])), (q0, .inl (E.2.1 0, cap0, .inl f0))]) [0, 1, 2] rfl
  have hDc := hD.sub (ws' := [(x, .inr (0, [.ref en, .ref tx, .ref gr, .ref h, .ref w, .int (iI lc), .int (iI lo)])), (tx, .inr (1, [.int (iI 65536), .ref q0, .int (iI (((b ++ sp_four v1).length : Nat) : Int))])), (q0, .inl (E.2.1 0, cap0, .inl f0))]) [0, 1, 2] (by decide) rfl
  have hFc := va_free (wc := [(x, .inr (0, [.ref en, .ref tx, .ref gr, .ref h, .ref w, .int (iI lc), .int (iI lo)])), (tx, .inr (1, [.int (iI 65536), .ref q0, .int (iI (((b ++ sp_four v1).length : Nat) : Int))])), (q0, .inl (E.2.1 0, cap0, .inl f0))]) hD hS hA [0, 1, 2] rfl
  refine zcW (va_runV (As := [.int v2]) (rest := []) S (c_RW_addFourBytes l E H.size x en tx gr h w q0 cap0 lc lo f0 (b ++ sp_four v1) v2 hB1 hF1 hc1 (by omega)) ⟨zcwB (n := 1) S zw_349 zw_1 zw_346 (by decide +kernel) rfl rfl ⟨Nat.le_of_ble_eq_true rfl, Nat.le_of_ble_eq_true rfl⟩, S.2.2.2.2 _ zw_348, S.2.2.2.2 _ zs_1⟩ (zPreV hE (hP 0 _ rfl) rfl ⟨rfl, hPc, hDc.weaken (fun _ _ _ h => hA0 _ h), trivial⟩) rfl rfl hl.1 rfl (lv_room (Nat.le_of_ble_eq_true rfl)) d_RW_feed_30 ⟨by (try dsimp only); omega, by (try dsimp only); omega⟩) hS (fun q _ h => hFc q h) hFc (fun v H locs hq hz1 hk1 hS => ?_)
  obtain ⟨rfl, q1, f1, hP1, hD1, hB2, hF2⟩ := hq
  obtain ⟨hP, hD⟩ := va_join (wr := []) (w1 := [(x, .inr (0, [.ref en, .ref tx, .ref gr, .ref h, .ref w, .int (iI lc), .int (iI lo)])), (tx, .inr (1, [.int (iI 65536), .ref q1, .int (iI ((((b ++ sp_four v1) ++ sp_four v2).length : Nat) : Int))])), (q1, .inl (E.2.1 0, max cap0 (sp_up ((b ++ sp_four v1).length + 4)), .inl f1))]) hP hD [0, 1, 2] [] rfl rfl (by decide) (by decide) hk1 hFc hP1 hD1
  have hP : va_P E.1 zcl [(x, .inr (0, [.ref en, .ref tx, .ref gr, .ref h, .ref w, .int (iI lc), .int (iI lo)])), (tx, .inr (1, [.int (iI 65536), .ref q1, .int (iI ((((b ++ sp_four v1) ++ sp_four v2).length : Nat) : Int))])), (q1, .inl (E.2.1 0, max cap0 (sp_up ((b ++ sp_four v1).length + 4)), .inl f1))] H := hP
  have hD : va_D A [(x, .inr (0, [.ref en, .ref tx, .ref gr, .ref h, .ref w, .int (iI lc), .int (iI lo)])), (tx, .inr (1, [.int (iI 65536), .ref q1, .int (iI ((((b ++ sp_four v1) ++ sp_four v2).length : Nat) : Int))])), (q1, .inl (E.2.1 0, max cap0 (sp_up ((b ++ sp_four v1).length + 4)), .inl f1))] := hD
  have hE := hE0.at hS hA0
  have hc2 : sp_capok (max cap0 (sp_up ((b ++ sp_four v1).length + 4))) := sp_capok_max hc1 (sp_up_ok _)
  have hr1 := (sp_capok_r hc1).2.2
  have hr2 := (sp_capok_r hc2).2.2
  obtain ⟨cap1, ec1⟩ : ∃ x, x = max cap0 (sp_up ((b ++ sp_four v1).length + 4)) := ⟨_, rfl⟩
  rw [← ec1] at hr2 hc2 hB2 hF2 hP hD
  rw [← ec1]
  refine W.widen (k := (cap1 - cap) / 16) (n := 2 * (cap1 - cap)) (by omega) (by omega) ?_
  refine lv_aload_n hx hb d_RW_feed_33 rfl (lv_at hl 0 rfl) ?_
  refine lv_iload_n hx hb d_RW_feed_34 rfl (lv_at hl 3 rfl) ?_
  have hn2 : ((b ++ sp_four v1) ++ sp_four v2).length = b.length + 8 := by simp [sp_four]
  have hm2 : sp_up (((b ++ sp_four v1) ++ sp_four v2).length + 4) ≤ sp_up (b.length + 20) := sp_up_mono (by omega)
  have hPc := hP.sub (ws' := [(x, .inr (0, [.ref en, .ref tx, .ref gr, .ref h, .ref w, .int (iI lc), .int (iI lo)])), (tx, .inr (1, [.int (iI 65536), .ref q1, .int (iI ((((b ++ sp_four v1) ++ sp_four v2).length : Nat) : Int))])), (q1, .inl (E.2.1 0, cap1, .inl f1))]) [0, 1, 2] rfl
  have hDc := hD.sub (ws' := [(x, .inr (0, [.ref en, .ref tx, .ref gr, .ref h, .ref w, .int (iI lc), .int (iI lo)])), (tx, .inr (1, [.int (iI 65536), .ref q1, .int (iI ((((b ++ sp_four v1) ++ sp_four v2).length : Nat) : Int))])), (q1, .inl (E.2.1 0, cap1, .inl f1))]) [0, 1, 2] (by decide) rfl
  have hFc := va_free (wc := [(x, .inr (0, [.ref en, .ref tx, .ref gr, .ref h, .ref w, .int (iI lc), .int (iI lo)])), (tx, .inr (1, [.int (iI 65536), .ref q1, .int (iI ((((b ++ sp_four v1) ++ sp_four v2).length : Nat) : Int))])), (q1, .inl (E.2.1 0, cap1, .inl f1))]) hD hS hA [0, 1, 2] rfl
  refine zcW (va_runV (As := [.int v3]) (rest := []) S (c_RW_addFourBytes l E H.size x en tx gr h w q1 cap1 lc lo f1 ((b ++ sp_four v1) ++ sp_four v2) v3 hB2 hF2 hc2 (by omega)) ⟨zcwB (n := 1) S zw_349 zw_1 zw_346 (by decide +kernel) rfl rfl ⟨Nat.le_of_ble_eq_true rfl, Nat.le_of_ble_eq_true rfl⟩, S.2.2.2.2 _ zw_348, S.2.2.2.2 _ zs_1⟩ (zPreV hE (hP 0 _ rfl) rfl ⟨rfl, hPc, hDc.weaken (fun _ _ _ h => hA0 _ h), trivial⟩) rfl rfl hl.1 rfl (lv_room (Nat.le_of_ble_eq_true rfl)) d_RW_feed_35 ⟨by (try dsimp only); omega, by (try dsimp only); omega⟩) hS (fun q _ h => hFc q h) hFc (fun v H locs hq hz1 hk1 hS => ?_)
  obtain ⟨rfl, q2, f2, hP1, hD1, hB3, hF3⟩ := hq
  obtain ⟨hP, hD⟩ := va_join (wr := []) (w1 := [(x, .inr (0, [.ref en, .ref tx, .ref gr, .ref h, .ref w, .int (iI lc), .int (iI lo)])), (tx, .inr (1, [.int (iI 65536), .ref q2, .int (iI (((((b ++ sp_four v1) ++ sp_four v2) ++ sp_four v3).length : Nat) : Int))])), (q2, .inl (E.2.1 0, max cap1 (sp_up (((b ++ sp_four v1) ++ sp_four v2).length + 4)), .inl f2))]) hP hD [0, 1, 2] [] rfl rfl (by decide) (by decide) hk1 hFc hP1 hD1
  have hP : va_P E.1 zcl [(x, .inr (0, [.ref en, .ref tx, .ref gr, .ref h, .ref w, .int (iI lc), .int (iI lo)])), (tx, .inr (1, [.int (iI 65536), .ref q2, .int (iI (((((b ++ sp_four v1) ++ sp_four v2) ++ sp_four v3).length : Nat) : Int))])), (q2, .inl (E.2.1 0, max cap1 (sp_up (((b ++ sp_four v1) ++ sp_four v2).length + 4)), .inl f2))] H := hP
  have hD : va_D A [(x, .inr (0, [.ref en, .ref tx, .ref gr, .ref h, .ref w, .int (iI lc), .int (iI lo)])), (tx, .inr (1, [.int (iI 65536), .ref q2, .int (iI (((((b ++ sp_four v1) ++ sp_four v2) ++ sp_four v3).length : Nat) : Int))])), (q2, .inl (E.2.1 0, max cap1 (sp_up (((b ++ sp_four v1) ++ sp_four v2).length + 4)), .inl f2))] := hD
  have hE := hE0.at hS hA0
  have hc3 : sp_capok (max cap1 (sp_up (((b ++ sp_four v1) ++ sp_four v2).length + 4))) := sp_capok_max hc2 (sp_up_ok _)
  have hr2 := (sp_capok_r hc2).2.2
  have hr3 := (sp_capok_r hc3).2.2
  obtain ⟨cap2, ec2⟩ : ∃ x, x = max cap1 (sp_up (((b ++ sp_four v1) ++ sp_four v2).length + 4)) := ⟨_, rfl⟩
  rw [← ec2] at hr3 hc3 hB3 hF3 hP hD
  rw [← ec2]
  refine W.widen (k := (cap2 - cap) / 16) (n := 2 * (cap2 - cap)) (by omega) (by omega) ?_
  refine lv_aload_n hx hb d_RW_feed_38 rfl (lv_at hl 0 rfl) ?_
  refine lv_iload hx hb d_RW_feed_39 (lv_at hl 4 rfl) ?_
  have hn3 : (((b ++ sp_four v1) ++ sp_four v2) ++ sp_four v3).length = b.length + 12 := by simp [sp_four]
  have hm3 : sp_up ((((b ++ sp_four v1) ++ sp_four v2) ++ sp_four v3).length + 4) ≤ sp_up (b.length + 20) := sp_up_mono (by omega)
  have hPc := hP.sub (ws' := [(x, .inr (0, [.ref en, .ref tx, .ref gr, .ref h, .ref w, .int (iI lc), .int (iI lo)])), (tx, .inr (1, [.int (iI 65536), .ref q2, .int (iI (((((b ++ sp_four v1) ++ sp_four v2) ++ sp_four v3).length : Nat) : Int))])), (q2, .inl (E.2.1 0, cap2, .inl f2))]) [0, 1, 2] rfl
  have hDc := hD.sub (ws' := [(x, .inr (0, [.ref en, .ref tx, .ref gr, .ref h, .ref w, .int (iI lc), .int (iI lo)])), (tx, .inr (1, [.int (iI 65536), .ref q2, .int (iI (((((b ++ sp_four v1) ++ sp_four v2) ++ sp_four v3).length : Nat) : Int))])), (q2, .inl (E.2.1 0, cap2, .inl f2))]) [0, 1, 2] (by decide) rfl
  have hFc := va_free (wc := [(x, .inr (0, [.ref en, .ref tx, .ref gr, .ref h, .ref w, .int (iI lc), .int (iI lo)])), (tx, .inr (1, [.int (iI 65536), .ref q2, .int (iI (((((b ++ sp_four v1) ++ sp_four v2) ++ sp_four v3).length : Nat) : Int))])), (q2, .inl (E.2.1 0, cap2, .inl f2))]) hD hS hA [0, 1, 2] rfl
  refine zcW (va_runV (As := [.int v4]) (rest := []) S (c_RW_addFourBytes l E H.size x en tx gr h w q2 cap2 lc lo f2 (((b ++ sp_four v1) ++ sp_four v2) ++ sp_four v3) v4 hB3 hF3 hc3 (by omega)) ⟨zcwB (n := 1) S zw_349 zw_1 zw_346 (by decide +kernel) rfl rfl ⟨Nat.le_of_ble_eq_true rfl, Nat.le_of_ble_eq_true rfl⟩, S.2.2.2.2 _ zw_348, S.2.2.2.2 _ zs_1⟩ (zPreV hE (hP 0 _ rfl) rfl ⟨rfl, hPc, hDc.weaken (fun _ _ _ h => hA0 _ h), trivial⟩) rfl rfl hl.1 rfl (lv_room (Nat.le_of_ble_eq_true rfl)) d_RW_feed_41 ⟨by (try dsimp only); omega, by (try dsimp only); omega⟩) hS (fun q _ h => hFc q h) hFc (fun v H locs hq hz1 hk1 hS => ?_)
  obtain ⟨rfl, q3, f3, hP1, hD1, hB4, hF4⟩ := hq
  obtain ⟨hP, hD⟩ := va_join (wr := []) (w1 := [(x, .inr (0, [.ref en, .ref tx, .ref gr, .ref h, .ref w, .int (iI lc), .int (iI lo)])), (tx, .inr (1, [.int (iI 65536), .ref q3, .int (iI ((((((b ++ sp_four v1) ++ sp_four v2) ++ sp_four v3) ++ sp_four v4).length : Nat) : Int))])), (q3, .inl (E.2.1 0, max cap2 (sp_up ((((b ++ sp_four v1) ++ sp_four v2) ++ sp_four v3).length + 4)), .inl f3))]) hP hD [0, 1, 2] [] rfl rfl (by decide) (by decide) hk1 hFc hP1 hD1
  have hP : va_P E.1 zcl [(x, .inr (0, [.ref en, .ref tx, .ref gr, .ref h, .ref w, .int (iI lc), .int (iI lo)])), (tx, .inr (1, [.int (iI 65536), .ref q3, .int (iI ((((((b ++ sp_four v1) ++ sp_four v2) ++ sp_four v3) ++ sp_four v4).length : Nat) : Int))])), (q3, .inl (E.2.1 0, max cap2 (sp_up ((((b ++ sp_four v1) ++ sp_four v2) ++ sp_four v3).length + 4)), .inl f3))] H := hP
  have hD : va_D A [(x, .inr (0, [.ref en, .ref tx, .ref gr, .ref h, .ref w, .int (iI lc), .int (iI lo)])), (tx, .inr (1, [.int (iI 65536), .ref q3, .int (iI ((((((b ++ sp_four v1) ++ sp_four v2) ++ sp_four v3) ++ sp_four v4).length : Nat) : Int))])), (q3, .inl (E.2.1 0, max cap2 (sp_up ((((b ++ sp_four v1) ++ sp_four v2) ++ sp_four v3).length + 4)), .inl f3))] := hD
  have hE := hE0.at hS hA0
  have hc4 : sp_capok (max cap2 (sp_up ((((b ++ sp_four v1) ++ sp_four v2) ++ sp_four v3).length + 4))) := sp_capok_max hc3 (sp_up_ok _)
  have hr3 := (sp_capok_r hc3).2.2
  have hr4 := (sp_capok_r hc4).2.2
  obtain ⟨cap3, ec3⟩ : ∃ x, x = max cap2 (sp_up ((((b ++ sp_four v1) ++ sp_four v2) ++ sp_four v3).length + 4)) := ⟨_, rfl⟩
  rw [← ec3] at hr4 hc4 hB4 hF4 hP hD
  rw [← ec3]
  refine W.widen (k := (cap3 - cap) / 16) (n := 2 * (cap3 - cap)) (by omega) (by omega) ?_
  refine lv_aload_n hx hb d_RW_feed_44 rfl (lv_at hl 0 rfl) ?_
  refine lv_iload hx hb d_RW_feed_45 (lv_at hl 5 rfl) ?_
  have hn4 : ((((b ++ sp_four v1) ++ sp_four v2) ++ sp_four v3) ++ sp_four v4).length = b.length + 16 := by simp [sp_four]
  have hm4 : sp_up (((((b ++ sp_four v1) ++ sp_four v2) ++ sp_four v3) ++ sp_four v4).length + 4) ≤ sp_up (b.length + 20) := sp_up_mono (by omega)
  have hPc := hP.sub (ws' := [(x, .inr (0, [.ref en, .ref tx, .ref gr, .ref h, .ref w, .int (iI lc), .int (iI lo)])), (tx, .inr (1, [.int (iI 65536), .ref q3, .int (iI ((((((b ++ sp_four v1) ++ sp_four v2) ++ sp_four v3) ++ sp_four v4).length : Nat) : Int))])), (q3, .inl (E.2.1 0, cap3, .inl f3))]) [0, 1, 2] rfl
  have hDc := hD.sub (ws' := [(x, .inr (0, [.ref en, .ref tx, .ref gr, .ref h, .ref w, .int (iI lc), .int (iI lo)])), (tx, .inr (1, [.int (iI 65536), .ref q3, .int (iI ((((((b ++ sp_four v1) ++ sp_four v2) ++ sp_four v3) ++ sp_four v4).length : Nat) : Int))])), (q3, .inl (E.2.1 0, cap3, .inl f3))]) [0, 1, 2] (by decide) rfl
  have hFc := va_free (wc := [(x, .inr (0, [.ref en, .ref tx, .ref gr, .ref h, .ref w, .int (iI lc), .int (iI lo)])), (tx, .inr (1, [.int (iI 65536), .ref q3, .int (iI ((((((b ++ sp_four v1) ++ sp_four v2) ++ sp_four v3) ++ sp_four v4).length : Nat) : Int))])), (q3, .inl (E.2.1 0, cap3, .inl f3))]) hD hS hA [0, 1, 2] rfl
  refine zcW (va_runV (As := [.int v5]) (rest := []) S (c_RW_addFourBytes l E H.size x en tx gr h w q3 cap3 lc lo f3 ((((b ++ sp_four v1) ++ sp_four v2) ++ sp_four v3) ++ sp_four v4) v5 hB4 hF4 hc4 (by omega)) ⟨zcwB (n := 1) S zw_349 zw_1 zw_346 (by decide +kernel) rfl rfl ⟨Nat.le_of_ble_eq_true rfl, Nat.le_of_ble_eq_true rfl⟩, S.2.2.2.2 _ zw_348, S.2.2.2.2 _ zs_1⟩ (zPreV hE (hP 0 _ rfl) rfl ⟨rfl, hPc, hDc.weaken (fun _ _ _ h => hA0 _ h), trivial⟩) rfl rfl hl.1 rfl (lv_room (Nat.le_of_ble_eq_true rfl)) d_RW_feed_47 ⟨by (try dsimp only); omega, by (try dsimp only); omega⟩) hS (fun q _ h => hFc q h) hFc (fun v H locs hq hz1 hk1 hS => ?_)
  obtain ⟨rfl, q4, f4, hP1, hD1, hB5, hF5⟩ := hq
  obtain ⟨hP, hD⟩ := va_join (wr := []) (w1 := [(x, .inr (0, [.ref en, .ref tx, .ref gr, .ref h, .ref w, .int (iI lc), .int (iI lo)])), (tx, .inr (1, [.int (iI 65536), .ref q4, .int (iI (((((((b ++ sp_four v1) ++ sp_four v2) ++ sp_four v3) ++ sp_four v4) ++ sp_four v5).length : Nat) : Int))])), (q4, .inl (E.2.1 0, max cap3 (sp_up (((((b ++ sp_four v1) ++ sp_four v2) ++ sp_four v3) ++ sp_four v4).length + 4)), .inl f4))]) hP hD [0, 1, 2] [] rfl rfl (by decide) (by decide) hk1 hFc hP1 hD1
  have hP : va_P E.1 zcl [(x, .inr (0, [.ref en, .ref tx, .ref gr, .ref h, .ref w, .int (iI lc), .int (iI lo)])), (tx, .inr (1, [.int (iI 65536), .ref q4, .int (iI (((((((b ++ sp_four v1) ++ sp_four v2) ++ sp_four v3) ++ sp_four v4) ++ sp_four v5).length : Nat) : Int))])), (q4, .inl (E.2.1 0, max cap3 (sp_up (((((b ++ sp_four v1) ++ sp_four v2) ++ sp_four v3) ++ sp_four v4).length + 4)), .inl f4))] H := hP
  have hD : va_D A [(x, .inr (0, [.ref en, .ref tx, .ref gr, .ref h, .ref w, .int (iI lc), .int (iI lo)])), (tx, .inr (1, [.int (iI 65536), .ref q4, .int (iI (((((((b ++ sp_four v1) ++ sp_four v2) ++ sp_four v3) ++ sp_four v4) ++ sp_four v5).length : Nat) : Int))])), (q4, .inl (E.2.1 0, max cap3 (sp_up (((((b ++ sp_four v1) ++ sp_four v2) ++ sp_four v3) ++ sp_four v4).length + 4)), .inl f4))] := hD
  have hE := hE0.at hS hA0
  have hc5 : sp_capok (max cap3 (sp_up (((((b ++ sp_four v1) ++ sp_four v2) ++ sp_four v3) ++ sp_four v4).length + 4))) := sp_capok_max hc4 (sp_up_ok _)
  have hr4 := (sp_capok_r hc4).2.2
  have hr5 := (sp_capok_r hc5).2.2
  obtain ⟨cap4, ec4⟩ : ∃ x, x = max cap3 (sp_up (((((b ++ sp_four v1) ++ sp_four v2) ++ sp_four v3) ++ sp_four v4).length + 4)) := ⟨_, rfl⟩
  rw [← ec4] at hr5 hc5 hB5 hF5 hP hD
  rw [← ec4]
  refine W.widen (k := (cap4 - cap) / 16) (n := 2 * (cap4 - cap)) (by omega) (by omega) ?_
  refine lv_aload_n hx hb d_RW_feed_50 rfl (lv_at hl 0 rfl) ?_
  refine zgf S hE (ci := 0) rfl i_RW (hP 0 _ rfl) 1 (by decide) zw_230 rfl d_RW_feed_51 ?_
  refine zcR (va_runV (As := []) (rest := []) S (c_Row_length l E tx (((((b ++ sp_four v1) ++ sp_four v2) ++ sp_four v3) ++ sp_four v4) ++ sp_four v5)) ⟨zcwB (n := 0) S zw_258 zw_2 zw_255 (by decide +kernel) rfl rfl ⟨Nat.le_of_ble_eq_true rfl, Nat.le_of_ble_eq_true rfl⟩, S.2.2.2.2 _ zw_256, S.2.2.2.2 _ zw_257⟩ (zPreV hE (hP 1 _ rfl) rfl ⟨_, _, _, _, (hP 1 _ rfl), (hP 2 _ rfl), hB5⟩) rfl rfl hl.1 rfl (lv_room (Nat.le_of_ble_eq_true rfl)) d_RW_feed_54 ⟨by (try dsimp only); omega, by (try dsimp only); omega⟩) ?_
  have hfin : ((((b ++ sp_four v1) ++ sp_four v2) ++ sp_four v3) ++ sp_four v4) ++ sp_four v5 = b ++ sp_four v1 ++ sp_four v2 ++ sp_four v3 ++ sp_four v4 ++ sp_four v5 := by simp
  have hcf : cap4 = (max cap (sp_up (b.length + 20))) := by rw [hn4] at hm4 ec4; have e9 : sp_up (b.length + 16 + 4) = sp_up (b.length + 20) := rfl; omega
  have hP9 : va_P E.1 zcl [(x, .inr (0, [.ref en, .ref tx, .ref gr, .ref h, .ref w, .int (iI lc), .int (iI lo)])), (tx, .inr (1, [.int (iI 65536), .ref q4, .int (iI (((((((b ++ sp_four v1) ++ sp_four v2) ++ sp_four v3) ++ sp_four v4) ++ sp_four v5).length : Nat) : Int))])), (q4, .inl (E.2.1 0, cap4, .inl f4))] H := hP
  have hD9 : va_D A [(x, .inr (0, [.ref en, .ref tx, .ref gr, .ref h, .ref w, .int (iI lc), .int (iI lo)])), (tx, .inr (1, [.int (iI 65536), .ref q4, .int (iI (((((((b ++ sp_four v1) ++ sp_four v2) ++ sp_four v3) ++ sp_four v4) ++ sp_four v5).length : Nat) : Int))])), (q4, .inl (E.2.1 0, cap4, .inl f4))] := hD
  rw [hfin] at hP9 hD9 hB5 ⊢
  rw [hcf] at hP9 hD9 hB5 hF5
  rw [hcf]
  exact zwi S hr hlk hS (⟨rfl, q4, f4, hP9, hD9, hB5, hF5⟩) (by (try dsimp only); omega) (by (try dsimp only); omega) d_RW_feed_57

set_option maxRecDepth 100000 in
set_option maxHeartbeats 4000000 in
theorem cx_RW_feed (l : Launch) (htl : ∀ e : Env, l.admits e → e.platform.stackTraces = false) (E : zP) (sz : Nat) (x en tx gr h w q cap : Nat) (lc lo : Int) (f : Nat → Int32) (b : List Nat) (v1 v2 v3 v4 v5 : Int32) (hB : zbytes b cap f) (hF : zfit cap f) (hc : sp_capok cap) (h20 : 65536 < b.length + 20) : MetX l y_RW_feed (.code y_RW_feed b_RW_feed 6 ( some FieldType.int ) :: zw) { frames := 7, cells := 1, slots := 6, locals := 81 } (zPc E [.ref x, .int v1, .int v2, .int v3, .int v4, .int v5] (fun H => H.size = sz ∧ va_P E.1 zcl [(x, .inr (0, [.ref en, .ref tx, .ref gr, .ref h, .ref w, .int (iI lc), .int (iI lo)])), (tx, .inr (1, [.int (iI 65536), .ref q, .int (iI ((b.length : Nat) : Int))])), (q, .inl (E.2.1 0, cap, .inl f))] H ∧ va_D (zOld E) [(x, .inr (0, [.ref en, .ref tx, .ref gr, .ref h, .ref w, .int (iI lc), .int (iI lo)])), (tx, .inr (1, [.int (iI 65536), .ref q, .int (iI ((b.length : Nat) : Int))])), (q, .inl (E.2.1 0, cap, .inl f))] ∧ (True))) (zX "java/lang/IllegalStateException" (fun H => va_P E.1 zcl [(x, .inr (0, [.ref en, .ref tx, .ref gr, .ref h, .ref w, .int (iI lc), .int (iI lo)])), (tx, .inr (1, [.int (iI 65536), .ref q, .int (iI ((b.length : Nat) : Int))])), (q, .inl (E.2.1 0, cap, .inl f))] H) (va_A [(x, .inr (0, [.ref en, .ref tx, .ref gr, .ref h, .ref w, .int (iI lc), .int (iI lo)])), (tx, .inr (1, [.int (iI 65536), .ref q, .int (iI ((b.length : Nat) : Int))])), (q, .inl (E.2.1 0, cap, .inl f))] sz)) (1) (6) (va_A [(x, .inr (0, [.ref en, .ref tx, .ref gr, .ref h, .ref w, .int (iI lc), .int (iI lo)])), (tx, .inr (1, [.int (iI 65536), .ref q, .int (iI ((b.length : Nat) : Int))])), (q, .inl (E.2.1 0, cap, .inl f))] sz) := by
  refine zMetX (by decide) (Nat.le_of_ble_eq_true rfl) ?_
  intro p e s m below meth c ls S hr hlk hnm hnh hadm hE ⟨hsz, hP, hDo, hX⟩ hl
  have hx := S.1
  have hb := S.2.1
  have hE0 := hE
  have hl : lv_has ls 6 [(0, .ref x), (1, .int v1), (2, .int v2), (3, .int v3), (4, .int v4), (5, .int v5)] := hl
  subst hsz
  have hD := hDo.self (sz := s.heap.size)
  generalize hAe : va_A [(x, .inr (0, [.ref en, .ref tx, .ref gr, .ref h, .ref w, .int (iI lc), .int (iI lo)])), (tx, .inr (1, [.int (iI 65536), .ref q, .int (iI ((b.length : Nat) : Int))])), (q, .inl (E.2.1 0, cap, .inl f))] s.heap.size = A at hD ⊢
  have hA : ∀ q : Nat, s.heap.size ≤ q → A q := fun q h => by rw [← hAe]; exact Or.inr h
  have hA0 := zA0 hE hDo hAe
  have hS : va_S A s.heap s.heap [] := va_S.rf
  have hB0 := hB
  have hF0 := hF
  have hc0 := hc
  have hbl := hB.1
  have hbc := hB.2.1
  have hcr := sp_capok_r hc
  refine lv_aload_n hx hb d_RW_feed_0 rfl (lv_at hl 0 rfl) ?_
  refine zgf S hE (ci := 0) rfl i_RW (hP 0 _ rfl) 1 (by decide) zw_230 rfl d_RW_feed_1 ?_
  refine zcR (va_runV (As := []) (rest := []) S (c_Row_length l E tx b) ⟨zcwB (n := 0) S zw_258 zw_2 zw_255 (by decide +kernel) rfl rfl ⟨Nat.le_of_ble_eq_true rfl, Nat.le_of_ble_eq_true rfl⟩, S.2.2.2.2 _ zw_256, S.2.2.2.2 _ zw_257⟩ (zPreV hE (hP 1 _ rfl) rfl ⟨_, _, _, _, (hP 1 _ rfl), (hP 2 _ rfl), hB⟩) rfl rfl hl.1 rfl (lv_room (Nat.le_of_ble_eq_true rfl)) d_RW_feed_4 ⟨by (try dsimp only); omega, by (try dsimp only); omega⟩) ?_
  refine zi_bipush hx hb d_RW_feed_7 (by decide) ?_
  refine zi_iadd hx hb d_RW_feed_9 ?_
  refine zldc (n := 65536) S zw_49 (by decide) d_RW_feed_10 ?_
  refine zi_icmp_le hx hb d_RW_feed_12 rfl (by omega) (by omega) (fun h => absurd h (by omega)) (fun h12 => ?_)
  exact zthrow (names := zexn) S hlk hnh (htl e hadm) (by decide) (by decide) (zown_IllegalStateException (args := _) hE) zw_282 zw_283 zw_21 hl.1 d_RW_feed_15 d_RW_feed_18 d_RW_feed_19 d_RW_feed_22 (Nat.le_of_ble_eq_true rfl) (Nat.le_of_ble_eq_true rfl) (by (try dsimp only); omega) (by (try dsimp only); omega) (by (try dsimp only); omega) (by (try dsimp only); omega) hS (fun H1 hz1 hk1 => hP.kept (fun k9 x9 h9 => hk1 x9.1 (hP k9 x9 h9).lt))
