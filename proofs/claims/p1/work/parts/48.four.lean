/-! The bytes of an int, the highest first. -/
def sp_by (w : Int32) : Nat := w.toBitVec.toNat % 256
def sp_ush (w : Int32) (k : Int32) : Int32 := (w.toUInt32 >>> (k.toUInt32 &&& Int32.toUInt32 31)).toInt32
def sp_four (w : Int32) : List Nat := [sp_by (sp_ush w (iI 24)), sp_by (sp_ush w (iI 16)), sp_by (sp_ush w (iI 8)), sp_by w]
theorem sp_by_lt (w : Int32) : sp_by w < 256 := Nat.mod_lt _ (by decide)
theorem sb_any (w : Int32) : w.toInt8.toInt32 = sb_b (sp_by w) := by
  unfold sb_b
  congr 1
  apply Int8.toBitVec.inj
  unfold nI sp_by
  apply BitVec.eq_of_toNat_eq
  simp only [Int32.toBitVec_toInt8, Int32.toBitVec_ofNat']
  rw [BitVec.signExtend_eq_setWidth_of_le _ (by decide), BitVec.signExtend_eq_setWidth_of_le _ (by decide)]
  simp
set_option maxRecDepth 100000 in
set_option maxHeartbeats 4000000 in
theorem c_RW_addFourBytes (l : Launch) (E : zP) (sz : Nat) (x en tx gr h w q cap : Nat) (lc lo : Int) (f : Nat → Int32) (b : List Nat) (v0 : Int32) (hB : zbytes b cap f) (hF : zfit cap f) (hc : sp_capok cap) (h4 : b.length + 4 ≤ 65536) : Met l y_RW_addFourBytes (.code y_RW_addFourBytes b_RW_addFourBytes 2 ( Option.none : Option FieldType ) :: zw) { frames := 3, cells := (((max cap (sp_up (b.length + 4))) - cap) / 16), slots := (2 * ((max cap (sp_up (b.length + 4))) - cap)), locals := 82 } (zPc E [.ref x, .int v0] (fun H => H.size = sz ∧ va_P E.1 zcl [(x, .inr (0, [.ref en, .ref tx, .ref gr, .ref h, .ref w, .int (iI lc), .int (iI lo)])), (tx, .inr (1, [.int (iI 65536), .ref q, .int (iI ((b.length : Nat) : Int))])), (q, .inl (E.2.1 0, cap, .inl f))] H ∧ va_D (zOld E) [(x, .inr (0, [.ref en, .ref tx, .ref gr, .ref h, .ref w, .int (iI lc), .int (iI lo)])), (tx, .inr (1, [.int (iI 65536), .ref q, .int (iI ((b.length : Nat) : Int))])), (q, .inl (E.2.1 0, cap, .inl f))] ∧ (True))) (zW (fun v H => v = none ∧ ∃ (q2 : Nat) (f2 : Nat → Int32), va_P E.1 zcl [(x, .inr (0, [.ref en, .ref tx, .ref gr, .ref h, .ref w, .int (iI lc), .int (iI lo)])), (tx, .inr (1, [.int (iI 65536), .ref q2, .int (iI (((b ++ sp_four v0).length : Nat) : Int))])), (q2, .inl (E.2.1 0, (max cap (sp_up (b.length + 4))), .inl f2))] H ∧ va_D (va_A [(x, .inr (0, [.ref en, .ref tx, .ref gr, .ref h, .ref w, .int (iI lc), .int (iI lo)])), (tx, .inr (1, [.int (iI 65536), .ref q, .int (iI ((b.length : Nat) : Int))])), (q, .inl (E.2.1 0, cap, .inl f))] sz) [(x, .inr (0, [.ref en, .ref tx, .ref gr, .ref h, .ref w, .int (iI lc), .int (iI lo)])), (tx, .inr (1, [.int (iI 65536), .ref q2, .int (iI (((b ++ sp_four v0).length : Nat) : Int))])), (q2, .inl (E.2.1 0, (max cap (sp_up (b.length + 4))), .inl f2))] ∧ zbytes (b ++ sp_four v0) (max cap (sp_up (b.length + 4))) f2 ∧ zfit (max cap (sp_up (b.length + 4))) f2) (va_A [(x, .inr (0, [.ref en, .ref tx, .ref gr, .ref h, .ref w, .int (iI lc), .int (iI lo)])), (tx, .inr (1, [.int (iI 65536), .ref q, .int (iI ((b.length : Nat) : Int))])), (q, .inl (E.2.1 0, cap, .inl f))] sz)) (((max cap (sp_up (b.length + 4))) - cap) / 16) (2 * ((max cap (sp_up (b.length + 4))) - cap)) (va_A [(x, .inr (0, [.ref en, .ref tx, .ref gr, .ref h, .ref w, .int (iI lc), .int (iI lo)])), (tx, .inr (1, [.int (iI 65536), .ref q, .int (iI ((b.length : Nat) : Int))])), (q, .inl (E.2.1 0, cap, .inl f))] sz) := by
  refine zMet (by decide) (Nat.le_of_ble_eq_true rfl) ?_
  intro p e s m below meth c ls S hr hlk hnm hE ⟨hsz, hP, hDo, hX⟩ hl
  have hx := S.1
  have hb := S.2.1
  have hE0 := hE
  have hl : lv_has ls 2 [(0, .ref x), (1, .int v0)] := hl
  subst hsz
  have hD := hDo.self (sz := s.heap.size)
  generalize hAe : va_A [(x, .inr (0, [.ref en, .ref tx, .ref gr, .ref h, .ref w, .int (iI lc), .int (iI lo)])), (tx, .inr (1, [.int (iI 65536), .ref q, .int (iI ((b.length : Nat) : Int))])), (q, .inl (E.2.1 0, cap, .inl f))] s.heap.size = A at hD ⊢
  have hA : ∀ q : Nat, s.heap.size ≤ q → A q := fun q h => by rw [← hAe]; exact Or.inr h
  have hA0 := zA0 hE hDo hAe
  have hS : va_S A s.heap s.heap [] := va_S.rf
  have hB0 := hB
  have hF0 := hF
  have hc0 := hc
  refine lv_aload_n hx hb d_RW_addFourBytes_0 rfl (lv_at hl 0 rfl) ?_
  refine zgf S hE (ci := 0) rfl i_RW (hP 0 _ rfl) 1 (by decide) zw_230 rfl d_RW_addFourBytes_1 ?_
  refine lv_iload_n hx hb d_RW_addFourBytes_4 rfl (lv_at hl 1 rfl) ?_
  refine zi_bipush hx hb d_RW_addFourBytes_5 (by decide) ?_
  refine lv_iushr (v := sp_ush v0 (iI 24)) hx hb d_RW_addFourBytes_7 rfl ?_
  have hn0 : (b).length = b.length + 0 := by simp
  have hl0 : (b).length ≤ cap := hB0.1
  have hg0 := sp_grow_up hc0 hl0 (by omega)
  have hm0 : sp_up ((b).length + 1) ≤ sp_up (b.length + 4) := sp_up_mono (by omega)
  have hc1 : sp_capok (sp_grow cap b.length) := by rw [hg0]; exact sp_capok_max hc0 (sp_up_ok _)
  have hPc := hP.sub (ws' := [(tx, .inr (1, [.int (iI 65536), .ref q, .int (iI ((b.length : Nat) : Int))])), (q, .inl (E.2.1 0, cap, .inl f))]) [1, 2] rfl
  have hDc := hD.sub (ws' := [(tx, .inr (1, [.int (iI 65536), .ref q, .int (iI ((b.length : Nat) : Int))])), (q, .inl (E.2.1 0, cap, .inl f))]) [1, 2] (by decide) rfl
  have hFc := va_free (wc := [(tx, .inr (1, [.int (iI 65536), .ref q, .int (iI ((b.length : Nat) : Int))])), (q, .inl (E.2.1 0, cap, .inl f))]) hD hS hA [1, 2] rfl
  refine zcW (va_runV (As := [.int (sp_ush v0 (iI 24))]) (rest := []) S (c_Row_add l E s.heap.size tx q cap (sp_by (sp_ush v0 (iI 24))) 65536 f b (sp_ush v0 (iI 24)) (sb_any _) (sp_by_lt _) hB0 (by omega) (by omega) (sp_capok_r hc0).1 (sp_capok_r hc0).2.1 hF0) ⟨zcwB (n := 1) S zw_353 zw_2 zw_350 (by decide +kernel) rfl rfl ⟨Nat.le_of_ble_eq_true rfl, Nat.le_of_ble_eq_true rfl⟩, S.2.2.2.2 _ zw_351, S.2.2.2.2 _ zw_352⟩ (zPreV hE (hP 1 _ rfl) rfl ⟨rfl, hPc, hDc.weaken (fun _ _ _ h => hA0 _ h), trivial⟩) rfl rfl hl.1 rfl (lv_room (Nat.le_of_ble_eq_true rfl)) d_RW_addFourBytes_8 ⟨by (try dsimp only); omega, by (try dsimp only); omega⟩) hS (fun q _ h => hFc q h) hFc (fun v H locs hq hz1 hk1 hS => ?_)
  obtain ⟨rfl, q0, f0, hP1, hD1, hB1, hF1⟩ := hq
  obtain ⟨hP, hD⟩ := va_join (wr := [(x, .inr (0, [.ref en, .ref tx, .ref gr, .ref h, .ref w, .int (iI lc), .int (iI lo)]))]) (w1 := [(tx, .inr (1, [.int (iI 65536), .ref q0, .int (iI (((b ++ [sp_by (sp_ush v0 (iI 24))]).length : Nat) : Int))])), (q0, .inl (E.2.1 0, sp_grow cap b.length, .inl f0))]) hP hD [1, 2] [0] rfl rfl (by decide) (by decide) hk1 hFc hP1 hD1
  have hP : va_P E.1 zcl [(x, .inr (0, [.ref en, .ref tx, .ref gr, .ref h, .ref w, .int (iI lc), .int (iI lo)])), (tx, .inr (1, [.int (iI 65536), .ref q0, .int (iI (((b ++ [sp_by (sp_ush v0 (iI 24))]).length : Nat) : Int))])), (q0, .inl (E.2.1 0, sp_grow cap b.length, .inl f0))] H := hP
  have hD : va_D A [(x, .inr (0, [.ref en, .ref tx, .ref gr, .ref h, .ref w, .int (iI lc), .int (iI lo)])), (tx, .inr (1, [.int (iI 65536), .ref q0, .int (iI (((b ++ [sp_by (sp_ush v0 (iI 24))]).length : Nat) : Int))])), (q0, .inl (E.2.1 0, sp_grow cap b.length, .inl f0))] := hD
  have hE := hE0.at hS hA0
  obtain ⟨cap0, ec0⟩ : ∃ x, x = sp_grow cap b.length := ⟨_, rfl⟩
  rw [← ec0] at hg0 hc1 hB1 hF1 hP hD
  rw [← ec0]
  refine W.widen (k := (cap0 - cap) / 16) (n := 2 * (cap0 - cap)) (by omega) (by omega) ?_
  refine lv_aload_n hx hb d_RW_addFourBytes_11 rfl (lv_at hl 0 rfl) ?_
  refine zgf S hE (ci := 0) rfl i_RW (hP 0 _ rfl) 1 (by decide) zw_230 rfl d_RW_addFourBytes_12 ?_
  refine lv_iload_n hx hb d_RW_addFourBytes_15 rfl (lv_at hl 1 rfl) ?_
  refine zi_bipush hx hb d_RW_addFourBytes_16 (by decide) ?_
  refine lv_iushr (v := sp_ush v0 (iI 16)) hx hb d_RW_addFourBytes_18 rfl ?_
  have hn1 : (b ++ [sp_by (sp_ush v0 (iI 24))]).length = b.length + 1 := by simp
  have hl1 : (b ++ [sp_by (sp_ush v0 (iI 24))]).length ≤ cap0 := hB1.1
  have hg1 := sp_grow_up hc1 hl1 (by omega)
  have hm1 : sp_up ((b ++ [sp_by (sp_ush v0 (iI 24))]).length + 1) ≤ sp_up (b.length + 4) := sp_up_mono (by omega)
  have hc2 : sp_capok (sp_grow cap0 (b ++ [sp_by (sp_ush v0 (iI 24))]).length) := by rw [hg1]; exact sp_capok_max hc1 (sp_up_ok _)
  have hPc := hP.sub (ws' := [(tx, .inr (1, [.int (iI 65536), .ref q0, .int (iI (((b ++ [sp_by (sp_ush v0 (iI 24))]).length : Nat) : Int))])), (q0, .inl (E.2.1 0, cap0, .inl f0))]) [1, 2] rfl
  have hDc := hD.sub (ws' := [(tx, .inr (1, [.int (iI 65536), .ref q0, .int (iI (((b ++ [sp_by (sp_ush v0 (iI 24))]).length : Nat) : Int))])), (q0, .inl (E.2.1 0, cap0, .inl f0))]) [1, 2] (by decide) rfl
  have hFc := va_free (wc := [(tx, .inr (1, [.int (iI 65536), .ref q0, .int (iI (((b ++ [sp_by (sp_ush v0 (iI 24))]).length : Nat) : Int))])), (q0, .inl (E.2.1 0, cap0, .inl f0))]) hD hS hA [1, 2] rfl
  refine zcW (va_runV (As := [.int (sp_ush v0 (iI 16))]) (rest := []) S (c_Row_add l E H.size tx q0 cap0 (sp_by (sp_ush v0 (iI 16))) 65536 f0 (b ++ [sp_by (sp_ush v0 (iI 24))]) (sp_ush v0 (iI 16)) (sb_any _) (sp_by_lt _) hB1 (by omega) (by omega) (sp_capok_r hc1).1 (sp_capok_r hc1).2.1 hF1) ⟨zcwB (n := 1) S zw_353 zw_2 zw_350 (by decide +kernel) rfl rfl ⟨Nat.le_of_ble_eq_true rfl, Nat.le_of_ble_eq_true rfl⟩, S.2.2.2.2 _ zw_351, S.2.2.2.2 _ zw_352⟩ (zPreV hE (hP 1 _ rfl) rfl ⟨rfl, hPc, hDc.weaken (fun _ _ _ h => hA0 _ h), trivial⟩) rfl rfl hl.1 rfl (lv_room (Nat.le_of_ble_eq_true rfl)) d_RW_addFourBytes_19 ⟨by (try dsimp only); omega, by (try dsimp only); omega⟩) hS (fun q _ h => hFc q h) hFc (fun v H locs hq hz1 hk1 hS => ?_)
  obtain ⟨rfl, q1, f1, hP1, hD1, hB2, hF2⟩ := hq
  obtain ⟨hP, hD⟩ := va_join (wr := [(x, .inr (0, [.ref en, .ref tx, .ref gr, .ref h, .ref w, .int (iI lc), .int (iI lo)]))]) (w1 := [(tx, .inr (1, [.int (iI 65536), .ref q1, .int (iI ((((b ++ [sp_by (sp_ush v0 (iI 24))]) ++ [sp_by (sp_ush v0 (iI 16))]).length : Nat) : Int))])), (q1, .inl (E.2.1 0, sp_grow cap0 (b ++ [sp_by (sp_ush v0 (iI 24))]).length, .inl f1))]) hP hD [1, 2] [0] rfl rfl (by decide) (by decide) hk1 hFc hP1 hD1
  have hP : va_P E.1 zcl [(x, .inr (0, [.ref en, .ref tx, .ref gr, .ref h, .ref w, .int (iI lc), .int (iI lo)])), (tx, .inr (1, [.int (iI 65536), .ref q1, .int (iI ((((b ++ [sp_by (sp_ush v0 (iI 24))]) ++ [sp_by (sp_ush v0 (iI 16))]).length : Nat) : Int))])), (q1, .inl (E.2.1 0, sp_grow cap0 (b ++ [sp_by (sp_ush v0 (iI 24))]).length, .inl f1))] H := hP
  have hD : va_D A [(x, .inr (0, [.ref en, .ref tx, .ref gr, .ref h, .ref w, .int (iI lc), .int (iI lo)])), (tx, .inr (1, [.int (iI 65536), .ref q1, .int (iI ((((b ++ [sp_by (sp_ush v0 (iI 24))]) ++ [sp_by (sp_ush v0 (iI 16))]).length : Nat) : Int))])), (q1, .inl (E.2.1 0, sp_grow cap0 (b ++ [sp_by (sp_ush v0 (iI 24))]).length, .inl f1))] := hD
  have hE := hE0.at hS hA0
  obtain ⟨cap1, ec1⟩ : ∃ x, x = sp_grow cap0 (b ++ [sp_by (sp_ush v0 (iI 24))]).length := ⟨_, rfl⟩
  rw [← ec1] at hg1 hc2 hB2 hF2 hP hD
  rw [← ec1]
  refine W.widen (k := (cap1 - cap) / 16) (n := 2 * (cap1 - cap)) (by omega) (by omega) ?_
  refine lv_aload_n hx hb d_RW_addFourBytes_22 rfl (lv_at hl 0 rfl) ?_
  refine zgf S hE (ci := 0) rfl i_RW (hP 0 _ rfl) 1 (by decide) zw_230 rfl d_RW_addFourBytes_23 ?_
  refine lv_iload_n hx hb d_RW_addFourBytes_26 rfl (lv_at hl 1 rfl) ?_
  refine zi_bipush hx hb d_RW_addFourBytes_27 (by decide) ?_
  refine lv_iushr (v := sp_ush v0 (iI 8)) hx hb d_RW_addFourBytes_29 rfl ?_
  have hn2 : ((b ++ [sp_by (sp_ush v0 (iI 24))]) ++ [sp_by (sp_ush v0 (iI 16))]).length = b.length + 2 := by simp
  have hl2 : ((b ++ [sp_by (sp_ush v0 (iI 24))]) ++ [sp_by (sp_ush v0 (iI 16))]).length ≤ cap1 := hB2.1
  have hg2 := sp_grow_up hc2 hl2 (by omega)
  have hm2 : sp_up (((b ++ [sp_by (sp_ush v0 (iI 24))]) ++ [sp_by (sp_ush v0 (iI 16))]).length + 1) ≤ sp_up (b.length + 4) := sp_up_mono (by omega)
  have hc3 : sp_capok (sp_grow cap1 ((b ++ [sp_by (sp_ush v0 (iI 24))]) ++ [sp_by (sp_ush v0 (iI 16))]).length) := by rw [hg2]; exact sp_capok_max hc2 (sp_up_ok _)
  have hPc := hP.sub (ws' := [(tx, .inr (1, [.int (iI 65536), .ref q1, .int (iI ((((b ++ [sp_by (sp_ush v0 (iI 24))]) ++ [sp_by (sp_ush v0 (iI 16))]).length : Nat) : Int))])), (q1, .inl (E.2.1 0, cap1, .inl f1))]) [1, 2] rfl
  have hDc := hD.sub (ws' := [(tx, .inr (1, [.int (iI 65536), .ref q1, .int (iI ((((b ++ [sp_by (sp_ush v0 (iI 24))]) ++ [sp_by (sp_ush v0 (iI 16))]).length : Nat) : Int))])), (q1, .inl (E.2.1 0, cap1, .inl f1))]) [1, 2] (by decide) rfl
  have hFc := va_free (wc := [(tx, .inr (1, [.int (iI 65536), .ref q1, .int (iI ((((b ++ [sp_by (sp_ush v0 (iI 24))]) ++ [sp_by (sp_ush v0 (iI 16))]).length : Nat) : Int))])), (q1, .inl (E.2.1 0, cap1, .inl f1))]) hD hS hA [1, 2] rfl
  refine zcW (va_runV (As := [.int (sp_ush v0 (iI 8))]) (rest := []) S (c_Row_add l E H.size tx q1 cap1 (sp_by (sp_ush v0 (iI 8))) 65536 f1 ((b ++ [sp_by (sp_ush v0 (iI 24))]) ++ [sp_by (sp_ush v0 (iI 16))]) (sp_ush v0 (iI 8)) (sb_any _) (sp_by_lt _) hB2 (by omega) (by omega) (sp_capok_r hc2).1 (sp_capok_r hc2).2.1 hF2) ⟨zcwB (n := 1) S zw_353 zw_2 zw_350 (by decide +kernel) rfl rfl ⟨Nat.le_of_ble_eq_true rfl, Nat.le_of_ble_eq_true rfl⟩, S.2.2.2.2 _ zw_351, S.2.2.2.2 _ zw_352⟩ (zPreV hE (hP 1 _ rfl) rfl ⟨rfl, hPc, hDc.weaken (fun _ _ _ h => hA0 _ h), trivial⟩) rfl rfl hl.1 rfl (lv_room (Nat.le_of_ble_eq_true rfl)) d_RW_addFourBytes_30 ⟨by (try dsimp only); omega, by (try dsimp only); omega⟩) hS (fun q _ h => hFc q h) hFc (fun v H locs hq hz1 hk1 hS => ?_)
  obtain ⟨rfl, q2, f2, hP1, hD1, hB3, hF3⟩ := hq
  obtain ⟨hP, hD⟩ := va_join (wr := [(x, .inr (0, [.ref en, .ref tx, .ref gr, .ref h, .ref w, .int (iI lc), .int (iI lo)]))]) (w1 := [(tx, .inr (1, [.int (iI 65536), .ref q2, .int (iI (((((b ++ [sp_by (sp_ush v0 (iI 24))]) ++ [sp_by (sp_ush v0 (iI 16))]) ++ [sp_by (sp_ush v0 (iI 8))]).length : Nat) : Int))])), (q2, .inl (E.2.1 0, sp_grow cap1 ((b ++ [sp_by (sp_ush v0 (iI 24))]) ++ [sp_by (sp_ush v0 (iI 16))]).length, .inl f2))]) hP hD [1, 2] [0] rfl rfl (by decide) (by decide) hk1 hFc hP1 hD1
  have hP : va_P E.1 zcl [(x, .inr (0, [.ref en, .ref tx, .ref gr, .ref h, .ref w, .int (iI lc), .int (iI lo)])), (tx, .inr (1, [.int (iI 65536), .ref q2, .int (iI (((((b ++ [sp_by (sp_ush v0 (iI 24))]) ++ [sp_by (sp_ush v0 (iI 16))]) ++ [sp_by (sp_ush v0 (iI 8))]).length : Nat) : Int))])), (q2, .inl (E.2.1 0, sp_grow cap1 ((b ++ [sp_by (sp_ush v0 (iI 24))]) ++ [sp_by (sp_ush v0 (iI 16))]).length, .inl f2))] H := hP
  have hD : va_D A [(x, .inr (0, [.ref en, .ref tx, .ref gr, .ref h, .ref w, .int (iI lc), .int (iI lo)])), (tx, .inr (1, [.int (iI 65536), .ref q2, .int (iI (((((b ++ [sp_by (sp_ush v0 (iI 24))]) ++ [sp_by (sp_ush v0 (iI 16))]) ++ [sp_by (sp_ush v0 (iI 8))]).length : Nat) : Int))])), (q2, .inl (E.2.1 0, sp_grow cap1 ((b ++ [sp_by (sp_ush v0 (iI 24))]) ++ [sp_by (sp_ush v0 (iI 16))]).length, .inl f2))] := hD
  have hE := hE0.at hS hA0
  obtain ⟨cap2, ec2⟩ : ∃ x, x = sp_grow cap1 ((b ++ [sp_by (sp_ush v0 (iI 24))]) ++ [sp_by (sp_ush v0 (iI 16))]).length := ⟨_, rfl⟩
  rw [← ec2] at hg2 hc3 hB3 hF3 hP hD
  rw [← ec2]
  refine W.widen (k := (cap2 - cap) / 16) (n := 2 * (cap2 - cap)) (by omega) (by omega) ?_
  refine lv_aload_n hx hb d_RW_addFourBytes_33 rfl (lv_at hl 0 rfl) ?_
  refine zgf S hE (ci := 0) rfl i_RW (hP 0 _ rfl) 1 (by decide) zw_230 rfl d_RW_addFourBytes_34 ?_
  refine lv_iload_n hx hb d_RW_addFourBytes_37 rfl (lv_at hl 1 rfl) ?_
  have hn3 : (((b ++ [sp_by (sp_ush v0 (iI 24))]) ++ [sp_by (sp_ush v0 (iI 16))]) ++ [sp_by (sp_ush v0 (iI 8))]).length = b.length + 3 := by simp
  have hl3 : (((b ++ [sp_by (sp_ush v0 (iI 24))]) ++ [sp_by (sp_ush v0 (iI 16))]) ++ [sp_by (sp_ush v0 (iI 8))]).length ≤ cap2 := hB3.1
  have hg3 := sp_grow_up hc3 hl3 (by omega)
  have hm3 : sp_up ((((b ++ [sp_by (sp_ush v0 (iI 24))]) ++ [sp_by (sp_ush v0 (iI 16))]) ++ [sp_by (sp_ush v0 (iI 8))]).length + 1) ≤ sp_up (b.length + 4) := sp_up_mono (by omega)
  have hc4 : sp_capok (sp_grow cap2 (((b ++ [sp_by (sp_ush v0 (iI 24))]) ++ [sp_by (sp_ush v0 (iI 16))]) ++ [sp_by (sp_ush v0 (iI 8))]).length) := by rw [hg3]; exact sp_capok_max hc3 (sp_up_ok _)
  have hPc := hP.sub (ws' := [(tx, .inr (1, [.int (iI 65536), .ref q2, .int (iI (((((b ++ [sp_by (sp_ush v0 (iI 24))]) ++ [sp_by (sp_ush v0 (iI 16))]) ++ [sp_by (sp_ush v0 (iI 8))]).length : Nat) : Int))])), (q2, .inl (E.2.1 0, cap2, .inl f2))]) [1, 2] rfl
  have hDc := hD.sub (ws' := [(tx, .inr (1, [.int (iI 65536), .ref q2, .int (iI (((((b ++ [sp_by (sp_ush v0 (iI 24))]) ++ [sp_by (sp_ush v0 (iI 16))]) ++ [sp_by (sp_ush v0 (iI 8))]).length : Nat) : Int))])), (q2, .inl (E.2.1 0, cap2, .inl f2))]) [1, 2] (by decide) rfl
  have hFc := va_free (wc := [(tx, .inr (1, [.int (iI 65536), .ref q2, .int (iI (((((b ++ [sp_by (sp_ush v0 (iI 24))]) ++ [sp_by (sp_ush v0 (iI 16))]) ++ [sp_by (sp_ush v0 (iI 8))]).length : Nat) : Int))])), (q2, .inl (E.2.1 0, cap2, .inl f2))]) hD hS hA [1, 2] rfl
  refine zcW (va_runV (As := [.int v0]) (rest := []) S (c_Row_add l E H.size tx q2 cap2 (sp_by v0) 65536 f2 (((b ++ [sp_by (sp_ush v0 (iI 24))]) ++ [sp_by (sp_ush v0 (iI 16))]) ++ [sp_by (sp_ush v0 (iI 8))]) v0 (sb_any _) (sp_by_lt _) hB3 (by omega) (by omega) (sp_capok_r hc3).1 (sp_capok_r hc3).2.1 hF3) ⟨zcwB (n := 1) S zw_353 zw_2 zw_350 (by decide +kernel) rfl rfl ⟨Nat.le_of_ble_eq_true rfl, Nat.le_of_ble_eq_true rfl⟩, S.2.2.2.2 _ zw_351, S.2.2.2.2 _ zw_352⟩ (zPreV hE (hP 1 _ rfl) rfl ⟨rfl, hPc, hDc.weaken (fun _ _ _ h => hA0 _ h), trivial⟩) rfl rfl hl.1 rfl (lv_room (Nat.le_of_ble_eq_true rfl)) d_RW_addFourBytes_38 ⟨by (try dsimp only); omega, by (try dsimp only); omega⟩) hS (fun q _ h => hFc q h) hFc (fun v H locs hq hz1 hk1 hS => ?_)
  obtain ⟨rfl, q3, f3, hP1, hD1, hB4, hF4⟩ := hq
  obtain ⟨hP, hD⟩ := va_join (wr := [(x, .inr (0, [.ref en, .ref tx, .ref gr, .ref h, .ref w, .int (iI lc), .int (iI lo)]))]) (w1 := [(tx, .inr (1, [.int (iI 65536), .ref q3, .int (iI ((((((b ++ [sp_by (sp_ush v0 (iI 24))]) ++ [sp_by (sp_ush v0 (iI 16))]) ++ [sp_by (sp_ush v0 (iI 8))]) ++ [sp_by v0]).length : Nat) : Int))])), (q3, .inl (E.2.1 0, sp_grow cap2 (((b ++ [sp_by (sp_ush v0 (iI 24))]) ++ [sp_by (sp_ush v0 (iI 16))]) ++ [sp_by (sp_ush v0 (iI 8))]).length, .inl f3))]) hP hD [1, 2] [0] rfl rfl (by decide) (by decide) hk1 hFc hP1 hD1
  have hP : va_P E.1 zcl [(x, .inr (0, [.ref en, .ref tx, .ref gr, .ref h, .ref w, .int (iI lc), .int (iI lo)])), (tx, .inr (1, [.int (iI 65536), .ref q3, .int (iI ((((((b ++ [sp_by (sp_ush v0 (iI 24))]) ++ [sp_by (sp_ush v0 (iI 16))]) ++ [sp_by (sp_ush v0 (iI 8))]) ++ [sp_by v0]).length : Nat) : Int))])), (q3, .inl (E.2.1 0, sp_grow cap2 (((b ++ [sp_by (sp_ush v0 (iI 24))]) ++ [sp_by (sp_ush v0 (iI 16))]) ++ [sp_by (sp_ush v0 (iI 8))]).length, .inl f3))] H := hP
  have hD : va_D A [(x, .inr (0, [.ref en, .ref tx, .ref gr, .ref h, .ref w, .int (iI lc), .int (iI lo)])), (tx, .inr (1, [.int (iI 65536), .ref q3, .int (iI ((((((b ++ [sp_by (sp_ush v0 (iI 24))]) ++ [sp_by (sp_ush v0 (iI 16))]) ++ [sp_by (sp_ush v0 (iI 8))]) ++ [sp_by v0]).length : Nat) : Int))])), (q3, .inl (E.2.1 0, sp_grow cap2 (((b ++ [sp_by (sp_ush v0 (iI 24))]) ++ [sp_by (sp_ush v0 (iI 16))]) ++ [sp_by (sp_ush v0 (iI 8))]).length, .inl f3))] := hD
  have hE := hE0.at hS hA0
  obtain ⟨cap3, ec3⟩ : ∃ x, x = sp_grow cap2 (((b ++ [sp_by (sp_ush v0 (iI 24))]) ++ [sp_by (sp_ush v0 (iI 16))]) ++ [sp_by (sp_ush v0 (iI 8))]).length := ⟨_, rfl⟩
  rw [← ec3] at hg3 hc4 hB4 hF4 hP hD
  rw [← ec3]
  refine W.widen (k := (cap3 - cap) / 16) (n := 2 * (cap3 - cap)) (by omega) (by omega) ?_
  have hfin : (((b ++ [sp_by (sp_ush v0 (iI 24))]) ++ [sp_by (sp_ush v0 (iI 16))]) ++ [sp_by (sp_ush v0 (iI 8))]) ++ [sp_by v0] = b ++ sp_four v0 := by simp [sp_four]
  have hcf : cap3 = (max cap (sp_up (b.length + 4))) := by rw [hn3] at hg3 hm3; have e9 : sp_up (b.length + 3 + 1) = sp_up (b.length + 4) := rfl; omega
  have hP9 := hP.sub (ws' := [(x, .inr (0, [.ref en, .ref tx, .ref gr, .ref h, .ref w, .int (iI lc), .int (iI lo)])), (tx, .inr (1, [.int (iI 65536), .ref q3, .int (iI ((((((b ++ [sp_by (sp_ush v0 (iI 24))]) ++ [sp_by (sp_ush v0 (iI 16))]) ++ [sp_by (sp_ush v0 (iI 8))]) ++ [sp_by v0]).length : Nat) : Int))])), (q3, .inl (E.2.1 0, cap3, .inl f3))]) [0, 1, 2] rfl
  have hD9 := hD.sub (ws' := [(x, .inr (0, [.ref en, .ref tx, .ref gr, .ref h, .ref w, .int (iI lc), .int (iI lo)])), (tx, .inr (1, [.int (iI 65536), .ref q3, .int (iI ((((((b ++ [sp_by (sp_ush v0 (iI 24))]) ++ [sp_by (sp_ush v0 (iI 16))]) ++ [sp_by (sp_ush v0 (iI 8))]) ++ [sp_by v0]).length : Nat) : Int))])), (q3, .inl (E.2.1 0, cap3, .inl f3))]) [0, 1, 2] (by decide) rfl
  rw [hfin] at hP9 hD9 hB4
  rw [hcf] at hP9 hD9 hB4 hF4
  rw [hcf]
  exact zwv S hr hlk hS (⟨rfl, q3, f3, hP9, hD9, hB4, hF4⟩) (by (try dsimp only); omega) (by (try dsimp only); omega) d_RW_addFourBytes_41
