/-! RW.write on states. -/
theorem zSt.wrote {E : zP} {own : Bool} {nn : Nat} {ad : Nat → Nat} {en : Nat → va_E} {S : zSp} {C : zCp} {H H1 : Heap} (h : zSt E own nn ad en S C H) (hE : E.2.2.2 ≤ H.size) {res : List Nat} {c9 o9 cd2 oo2 ch2 nx2 : Int} {q2 cap2 m2 n2 : Nat} {f2 : Nat → Int32} {fl2 r1 r2 r3 : Bool}
    (hk : ∀ q : Nat, q < H.size → ¬ va_A [(ad 0, en 0), (ad 2, en 2), (ad 3, en 3), (ad 5, en 5), (ad 6, en 6), (ad 8, en 8), (ad 9, en 9), (ad 10, en 10)] H.size q → H1[q]? = H[q]?)
    (hP : va_P E.1 zcl [(ad 0, (.inr (0, [.ref (ad 1), .ref (ad 2), .ref (ad 4), .ref (ad 5), .ref (ad 6), .int (iI c9), .int (iI o9)]))), (ad 2, (.inr (1, [.int (iI 65536), .ref (ad 3), .int (iI ((([] : List Nat).length : Nat) : Int))]))), (ad 3, en 3), (ad 5, (.inr (6, [.ref (ad 1), .ref (ad 7), .ref (ad 8), .ref (E.2.2.1 (m2 + 1)), .ref (E.2.2.1 (n2 + 1)), .int (iI (bN fl2))]))), (ad 6, (.inr (8, [.ref (ad 2), .ref (ad 4), .ref (ad 5), .ref (ad 1), .ref (ad 10), .int (iI (bN r1)), .int (iI (bN r2)), .int (iI (bN r3)), .int (iI cd2), .int (iI oo2)]))), (ad 8, (.inr (1, [.int (iI 262144), .ref q2, .int (iI ((res.length : Nat) : Int))]))), (q2, (.inl (E.2.1 0, cap2, .inl f2))), (ad 10, (.inr (7, [.ref (ad 2), .ref (ad 1), .int (iI ch2), .int (iI nx2)])))] H1)
    (hD : va_D (va_A [(ad 0, en 0), (ad 2, en 2), (ad 3, en 3), (ad 5, en 5), (ad 6, en 6), (ad 8, en 8), (ad 9, en 9), (ad 10, en 10)] H.size) [(ad 0, (.inr (0, [.ref (ad 1), .ref (ad 2), .ref (ad 4), .ref (ad 5), .ref (ad 6), .int (iI c9), .int (iI o9)]))), (ad 2, (.inr (1, [.int (iI 65536), .ref (ad 3), .int (iI ((([] : List Nat).length : Nat) : Int))]))), (ad 3, en 3), (ad 5, (.inr (6, [.ref (ad 1), .ref (ad 7), .ref (ad 8), .ref (E.2.2.1 (m2 + 1)), .ref (E.2.2.1 (n2 + 1)), .int (iI (bN fl2))]))), (ad 6, (.inr (8, [.ref (ad 2), .ref (ad 4), .ref (ad 5), .ref (ad 1), .ref (ad 10), .int (iI (bN r1)), .int (iI (bN r2)), .int (iI (bN r3)), .int (iI cd2), .int (iI oo2)]))), (ad 8, (.inr (1, [.int (iI 262144), .ref q2, .int (iI ((res.length : Nat) : Int))]))), (q2, (.inl (E.2.1 0, cap2, .inl f2))), (ad 10, (.inr (7, [.ref (ad 2), .ref (ad 1), .int (iI ch2), .int (iI nx2)])))])
    (hB : zbytes res cap2 f2) (hF : zfit cap2 f2) (hc : sp_capok cap2) (hm2 : m2 ≤ 2) (hn2 : n2 ≤ 2) :
    zSt E own nn (zUp ad 9 q2) (zUp (zUp (zUp (zUp (zUp (zUp (zUp en 0 (.inr (0, [.ref (ad 1), .ref (ad 2), .ref (ad 4), .ref (ad 5), .ref (ad 6), .int (iI c9), .int (iI o9)]))) 2 (.inr (1, [.int (iI 65536), .ref (ad 3), .int (iI ((([] : List Nat).length : Nat) : Int))]))) 5 (.inr (6, [.ref (ad 1), .ref (ad 7), .ref (ad 8), .ref (E.2.2.1 (m2 + 1)), .ref (E.2.2.1 (n2 + 1)), .int (iI (bN fl2))]))) 6 (.inr (8, [.ref (ad 2), .ref (ad 4), .ref (ad 5), .ref (ad 1), .ref (ad 10), .int (iI (bN r1)), .int (iI (bN r2)), .int (iI (bN r3)), .int (iI cd2), .int (iI oo2)]))) 8 (.inr (1, [.int (iI 262144), .ref q2, .int (iI ((res.length : Nat) : Int))]))) 9 (.inl (E.2.1 0, cap2, .inl f2))) 10 (.inr (7, [.ref (ad 2), .ref (ad 1), .int (iI ch2), .int (iI nx2)]))) (S.1, [], S.2.2.1, res, c9, o9) (C.1, cap2, C.2.2) H1 := by
  obtain ⟨hL, hso, s0, s1, s7, ⟨⟨f, st1, st2, st3, st4⟩, sc, sl⟩, ⟨so, soc⟩, ⟨m, o, fl, s5, sm, sn⟩, ⟨a1, a2, a3, cd, off, ch, nx, s6, s10⟩, sg⟩ := h
  refine ⟨hL.lift (idx := [0, 2, 3, 5, 6, 8, 9, 10]) (idx1 := [0, 2, 3, 5, 6, 8, 9, 10]) hE ?_ hk hP hD ?_ ?_, hso.lift hL hE (idx := [0, 2, 3, 5, 6, 8, 9, 10]) (zRo.of4 (fun i hi => by simp only [List.mem_cons, List.not_mem_nil, or_false] at hi; omega)) hk, ?_, ?_, ?_, ⟨⟨f, ?_, ?_, zbytes_nil st3.2.1, st4⟩, sc, Nat.zero_le _⟩, ⟨⟨f2, ?_, ?_, hB, hF⟩, hc⟩, ⟨m2, n2, fl2, ?_, hm2, hn2⟩, ⟨r1, r2, r3, cd2, oo2, ch2, nx2, ?_, ?_⟩, ?_⟩
  · exact zRo.of4 (fun i hi => by simp only [List.mem_cons, List.not_mem_nil, or_false] at hi; omega)
  · intro i _ hn
    simp only [List.mem_cons, List.not_mem_nil, or_false, not_or] at hn
    exact ⟨zUp_ne _ _ (by omega), by rw [zUp_ne _ _ (by omega), zUp_ne _ _ (by omega), zUp_ne _ _ (by omega), zUp_ne _ _ (by omega), zUp_ne _ _ (by omega), zUp_ne _ _ (by omega), zUp_ne _ _ (by omega)]⟩
  · intro i hi
    by_cases q : i ∈ [0, 2, 3, 5, 6, 8, 9, 10]
    · exact Or.inr q
    · exact Or.inl ⟨hi, q⟩
  all_goals first
    | rfl
    | exact s1
    | exact s7
    | exact st2
    | exact sg.congr (fun i hi => zUp_ne _ _ (by omega)) (fun i hi => by rw [zUp_ne _ _ (by omega), zUp_ne _ _ (by omega), zUp_ne _ _ (by omega), zUp_ne _ _ (by omega), zUp_ne _ _ (by omega), zUp_ne _ _ (by omega), zUp_ne _ _ (by omega)])
def sp_md (S : zSp) (ov : Nat) : sp_Md := (S.1.1, S.1.2, decide (ov % 2 = 1), decide (ov / 2 % 2 = 1), decide (ov / 4 % 2 = 1))
def sp_wr (S : zSp) (ov : Nat) : Int × Int × List Nat := sp_write (sp_md S ov) S.2.2.1.1 (decide (8 ≤ ov)) S.2.1
def sp_wcap (S : zSp) (cap ov : Nat) : Nat := if 0 ≤ sp_fault S.1.1 S.2.1 then cap else if 8 ≤ ov then max cap (sp_up S.2.1.length) else sp_pcap cap (sp_part (sp_md S ov) S.2.2.1.1 (sp_chars S.1.1 S.2.1) 20 0 (sp_chars S.1.1 S.2.1).length ([], 0, 0))
def sp_ans (r : Int × Int × List Nat) : Int := if r.1 = 0 then ((r.2.2.length : Nat) : Int) else r.1
theorem sp_pcap_ok {cap : Nat} {r : sp_R} (h : sp_capok cap) : sp_capok (sp_pcap cap r) := by
  unfold sp_pcap
  split
  · exact Or.inr (Or.inr (Or.inr (Or.inr (Or.inr (Or.inr (Or.inr rfl))))))
  · exact sp_capok_max h (sp_up_ok _)

set_option maxRecDepth 100000 in
set_option maxHeartbeats 4000000 in
theorem cx_RW_write (l : Launch) (htl : ∀ e : Env, l.admits e → e.platform.stackTraces = false) (E : zP) (sz : Nat) (x en tx gr h w : Nat) (lc lo : Int) (k : Int) (hk : iI k &&& iI (-7681) ≠ iI 0) : MetX l y_RW_write (.code y_RW_write b_RW_write 3 ( some FieldType.int ) :: zw) { frames := 7, cells := 1, slots := 6, locals := 81 } (zPc E [.ref x, .int (iI k)] (fun H => H.size = sz ∧ va_P E.1 zcl [(x, .inr (0, [.ref en, .ref tx, .ref gr, .ref h, .ref w, .int (iI lc), .int (iI lo)]))] H ∧ va_D (zOld E) [(x, .inr (0, [.ref en, .ref tx, .ref gr, .ref h, .ref w, .int (iI lc), .int (iI lo)]))] ∧ (True))) (zX "java/lang/IllegalArgumentException" (fun H => va_P E.1 zcl [(x, .inr (0, [.ref en, .ref tx, .ref gr, .ref h, .ref w, .int (iI lc), .int (iI lo)]))] H) (va_A [(x, .inr (0, [.ref en, .ref tx, .ref gr, .ref h, .ref w, .int (iI lc), .int (iI lo)]))] sz)) (1) (6) (va_A [(x, .inr (0, [.ref en, .ref tx, .ref gr, .ref h, .ref w, .int (iI lc), .int (iI lo)]))] sz) := by
  refine zMetX (by decide) (Nat.le_of_ble_eq_true rfl) ?_
  intro p e s m below meth c ls S hr hlk hnm hnh hadm hE ⟨hsz, hP, hDo, hX⟩ hl
  have hx := S.1
  have hb := S.2.1
  have hE0 := hE
  have hl : lv_has ls 3 [(0, .ref x), (1, .int (iI k))] := hl
  subst hsz
  have hD := hDo.self (sz := s.heap.size)
  generalize hAe : va_A [(x, .inr (0, [.ref en, .ref tx, .ref gr, .ref h, .ref w, .int (iI lc), .int (iI lo)]))] s.heap.size = A at hD ⊢
  have hA : ∀ q : Nat, s.heap.size ≤ q → A q := fun q h => by rw [← hAe]; exact Or.inr h
  have hA0 := zA0 hE hDo hAe
  have hS : va_S A s.heap s.heap [] := va_S.rf
  refine lv_iload_n hx hb d_RW_write_0 rfl (lv_at hl 1 rfl) ?_
  refine zi_sipush hx hb d_RW_write_1 (by decide) ?_
  refine zi_iand (r := (iI k &&& iI (-7681)).toInt) hx hb d_RW_write_4 (iI_of _) ?_
  refine zi_if_eq hx hb d_RW_write_5 rfl (iI_r _) (fun h5 => absurd (show iI k &&& iI (-7681) = iI 0 by rw [iI_of (iI k &&& iI (-7681)), h5]) hk) (fun h5 => ?_)
  exact zthrow (names := zexn) S hlk hnh (htl e hadm) (by decide) (by decide) (zown_IllegalArgumentException (args := _) hE) zw_378 zw_379 zw_25 hl.1 d_RW_write_8 d_RW_write_11 d_RW_write_12 d_RW_write_15 (Nat.le_of_ble_eq_true rfl) (Nat.le_of_ble_eq_true rfl) (by (try dsimp only); omega) (by (try dsimp only); omega) (by (try dsimp only); omega) (by (try dsimp only); omega) hS (fun H1 hz1 hk1 => hP.kept (fun k9 x9 h9 => hk1 x9.1 (hP k9 x9 h9).lt))

set_option maxRecDepth 100000 in
set_option maxHeartbeats 4000000 in
theorem cx2_RW_write (l : Launch) (htl : ∀ e : Env, l.admits e → e.platform.stackTraces = false) (E : zP) (own : Bool) (nn : Nat) (ad : Nat → Nat) (en : Nat → va_E) (S : zSp) (C : zCp) (sz : Nat) (k0 : Int) (hk0 : iI k0 &&& iI (-7681) ≠ iI 0) : MetX l y_RW_write (.code y_RW_write b_RW_write 3 ( some FieldType.int ) :: zw) { frames := 7, cells := 1, slots := 6, locals := 81 } (zPc E [.ref (ad 0), .int (iI k0)] (fun H => H.size = sz ∧ zSt E own nn ad en S C H)) (zX "java/lang/IllegalArgumentException" (fun H => zSt E own nn ad en S C H) (zAo (zRo own nn) ad sz)) (1) (6) (zAo (zRo own nn) ad sz) := by
  refine zMetX_use (fun U hE hp => ?_)
  obtain ⟨hsz, hst⟩ := hp
  subst hsz
  have hst0 := hst
  obtain ⟨hL, hso, s0, s1, s7, ⟨⟨f, t1, t2, hB, hF⟩, hc, hl⟩, so, s5, s6, g4, g11, g12, grow, ⟨fm, m1, m2, hBm, hFm⟩, gmo, g99, glist⟩ := hst
  have hgr := zgrp_of (Z := fun _ => True) hL hst0.2.2.2.2.2.2.2.2.2 (fun _ _ _ => trivial) (fun ho => ⟨trivial, (hso ho).2⟩)
  have hw : ([0] : List Nat).map (fun i => (ad i, en i)) = [(ad 0, en 0)] := rfl
  have hR : ∀ i ∈ ([0] : List Nat), zRo own nn i := (zRo.of4 (fun i hi => by simp only [List.mem_cons, List.not_mem_nil, or_false] at hi; omega))
  obtain ⟨p1, p2⟩ := hL.pre [0] hw hR (by decide)
  have hA := zAo_of (R := zRo own nn) (sz := U.heap.size) [0] hw hR
  have hw2 := hw
  rw [s0] at p1 p2 hA hw2
  exact ⟨_, _, _, cx_RW_write l htl E U.heap.size (ad 0) (ad 1) (ad 2) (ad 4) (ad 5) (ad 6) _ _ k0 hk0, ⟨rfl, p1, p2, trivial⟩, hA, fun H1 hP1 hz hk => zSt.same hst0 hE.2.1 [0] hw2 hR (by decide) hP1 hk⟩

set_option maxRecDepth 100000 in
set_option maxHeartbeats 4000000 in
theorem c2_RW_writeB (l : Launch) (E : zP) (own : Bool) (nn : Nat) (ad : Nat → Nat) (en : Nat → va_E) (S : zSp) (C : zCp) (sz : Nat) (ov : Nat) (hov : ov < 16) (hbad : 0 ≤ sp_fault S.1.1 S.2.1) : Met l y_RW_write (.code y_RW_write b_RW_write 3 ( some FieldType.int ) :: zw) { frames := 4, cells := 0, slots := 0, locals := 93 } (zPc E [.ref (ad 0), .int (iI ((512 * ov : Nat) : Int))] (fun H => H.size = sz ∧ zSt E own nn ad en S C H)) (zW (fun v H => ∃ (ad' : Nat → Nat) (en' : Nat → va_E), ad' 0 = ad 0 ∧ zFr (zRo own nn) ad sz (zRo own nn) ad' ∧ v = some (.int (iI (sp_ans (sp_wr S ov)))) ∧ zSt E own nn ad' en' (S.1, [], S.2.2.1, (sp_wr S ov).2.2, (sp_wr S ov).1, (sp_wr S ov).2.1) (C.1, sp_wcap S C.2.1 ov, C.2.2) H) (zAo (zRo own nn) ad sz)) (0) (0) (zAo (zRo own nn) ad sz) := by
  refine zMet_use (fun U hE hp => ?_)
  obtain ⟨hsz, hst⟩ := hp
  subst hsz
  have hst0 := hst
  obtain ⟨hL, hso, s0, s1, s7, ⟨⟨f, t1, t2, hB, hF⟩, hc, hl⟩, ⟨⟨fo, o1, o2, hBo, hFo⟩, hco⟩, ⟨m, o, fl, s5, sm, sn⟩, ⟨r1, r2, r3, cd, off, ch, nx, s6, s10⟩, sg⟩ := hst
  have hw : ([0, 2, 3, 5, 6, 8, 9, 10] : List Nat).map (fun i => (ad i, en i)) = [(ad 0, en 0), (ad 2, en 2), (ad 3, en 3), (ad 5, en 5), (ad 6, en 6), (ad 8, en 8), (ad 9, en 9), (ad 10, en 10)] := rfl
  have hR : ∀ i ∈ ([0, 2, 3, 5, 6, 8, 9, 10] : List Nat), zRo own nn i := (zRo.of4 (fun i hi => by simp only [List.mem_cons, List.not_mem_nil, or_false] at hi; omega))
  have p1 := hL.P [0, 2, 3, 5, 6, 8, 9, 10] hR
  have p2 := hL.D [0, 2, 3, 5, 6, 8, 9, 10] hR (by decide)
  have hZl := hL.Zlt [0, 2, 3, 5, 6, 8, 9, 10]
  have hA := zAo_of (R := zRo own nn) (sz := U.heap.size) [0, 2, 3, 5, 6, 8, 9, 10] hw hR
  rw [hw] at p1 p2
  obtain ⟨Z, hZ⟩ : ∃ Z, Z = zZ (zRo own nn) ad [0, 2, 3, 5, 6, 8, 9, 10] := ⟨_, rfl⟩
  rw [← hZ] at p2 hZl
  have zin : ∀ i, zRo own nn i → i ∉ ([0, 2, 3, 5, 6, 8, 9, 10] : List Nat) → Z (ad i) := fun i h1 h2 => by rw [hZ]; exact ⟨i, h1, h2, rfl⟩
  have z1 := zin 1 (zRo.lo (by decide) (by decide)) (by decide)
  have z7 := zin 7 (zRo.lo (by decide) (by decide)) (by decide)
  have a1 := hL.2.2 1 (zRo.lo (by decide) (by decide))
  have a7 := hL.2.2 7 (zRo.lo (by decide) (by decide))
  rw [s1] at a1
  rw [s7] at a7
  have hZo : ∀ y, (Z y ∨ (own = false ∧ y = E.2.2.1 4)) → y < U.heap.size := fun y hy => hy.elim (hZl y) (fun q => by rw [q.2]; exact Nat.lt_of_lt_of_le (hso q.1).1 hE.2.1)
  have p3 : va_D (fun x => zOld E x ∧ ¬ (Z x ∨ (own = false ∧ x = E.2.2.1 4))) [(ad 0, en 0), (ad 2, en 2), (ad 3, en 3), (ad 5, en 5), (ad 6, en 6), (ad 8, en 8), (ad 9, en 9), (ad 10, en 10)] := p2.weaken (fun k x hk hx => ⟨hx.1, fun q => q.elim hx.2 (fun q => absurd hx.1 (by rw [q.2]; have := (hso q.1).1; unfold zOld; omega))⟩)
  have hgr := zgrp_of (Z := fun y => Z y ∨ (own = false ∧ y = E.2.2.1 4)) hL sg (fun i h1 h2 => Or.inl (zin i h1 (by simp only [List.mem_cons, List.not_mem_nil, or_false, not_or]; omega))) (fun ho => ⟨Or.inr ⟨ho, rfl⟩, (hso ho).2⟩)
  have hwE := hw
  rw [s0, t1, t2, s5, s6, o1, o2, s10] at p1 p3 hA hwE
  have hwr : sp_wr S ov = (-3, sp_fault S.1.1 S.2.1, []) := if_pos hbad
  have hwc : sp_wcap S C.2.1 ov = C.2.1 := if_pos hbad
  refine ⟨_, _, _, c_RW_writeB l E U.heap.size _ (ad 0) (ad 1) (ad 2) (ad 4) (ad 5) (ad 6) (ad 3) C.1 (ad 10) (ad 8) (ad 9) C.2.1 (ad 7) S.2.2.2.2.1 S.2.2.2.2.2 f fo m o fl r1 r2 r3 S.1.1 S.1.2 cd off ch nx S.2.2.2.1 S.2.2.1.1 ov hov S.2.1 hB hF hBo hFo hco hbad, ⟨rfl, p1, p3, hZo, Or.inl z1, Or.inl z7, a1, a7, hgr⟩, hA, ?_⟩
  rintro v H1 ⟨hv, q2, m2, n2, f2, fl2, cd2, oo2, ch2, nx2, hP1, hD1, hB2, hF2, hm2, hn2⟩ hz hk
  have hq := hA _ (hD1.2 6 _ rfl)
  rw [← hwE] at hk hD1
  rw [← t2] at hP1 hD1
  rw [hwr, hwc]
  have hv9 : v = some (.int (iI (sp_ans (-3, sp_fault S.1.1 S.2.1, [])))) := by
    exact hv
  exact ⟨zUp ad 9 q2, _, rfl, zFr_up hq, hv9, zSt.wrote hst0 hE.2.1 hk hP1 hD1 hB2 hF2 (hco) hm2 hn2⟩

set_option maxRecDepth 100000 in
set_option maxHeartbeats 4000000 in
theorem c2_RW_writeP (l : Launch) (E : zP) (own : Bool) (nn : Nat) (ad : Nat → Nat) (en : Nat → va_E) (S : zSp) (C : zCp) (sz : Nat) (ov : Nat) (hov : ov < 16) (tt : List Nat) (htt : tt = sp_chars S.1.1 S.2.1) (hok : sp_fault S.1.1 S.2.1 < 0) (hpl : 8 ≤ ov) : Met l y_RW_write (.code y_RW_write b_RW_write 3 ( some FieldType.int ) :: zw) { frames := 5, cells := ((max C.2.1 (sp_up S.2.1.length)) - C.2.1) / 16, slots := 2 * ((max C.2.1 (sp_up S.2.1.length)) - C.2.1), locals := 130 } (zPc E [.ref (ad 0), .int (iI ((512 * ov : Nat) : Int))] (fun H => H.size = sz ∧ zSt E own nn ad en S C H)) (zW (fun v H => ∃ (ad' : Nat → Nat) (en' : Nat → va_E), ad' 0 = ad 0 ∧ zFr (zRo own nn) ad sz (zRo own nn) ad' ∧ v = some (.int (iI (sp_ans (sp_wr S ov)))) ∧ zSt E own nn ad' en' (S.1, [], S.2.2.1, (sp_wr S ov).2.2, (sp_wr S ov).1, (sp_wr S ov).2.1) (C.1, sp_wcap S C.2.1 ov, C.2.2) H) (zAo (zRo own nn) ad sz)) (((max C.2.1 (sp_up S.2.1.length)) - C.2.1) / 16) (2 * ((max C.2.1 (sp_up S.2.1.length)) - C.2.1)) (zAo (zRo own nn) ad sz) := by
  refine zMet_use (fun U hE hp => ?_)
  obtain ⟨hsz, hst⟩ := hp
  subst hsz
  have hst0 := hst
  obtain ⟨hL, hso, s0, s1, s7, ⟨⟨f, t1, t2, hB, hF⟩, hc, hl⟩, ⟨⟨fo, o1, o2, hBo, hFo⟩, hco⟩, ⟨m, o, fl, s5, sm, sn⟩, ⟨r1, r2, r3, cd, off, ch, nx, s6, s10⟩, sg⟩ := hst
  have hw : ([0, 2, 3, 5, 6, 8, 9, 10] : List Nat).map (fun i => (ad i, en i)) = [(ad 0, en 0), (ad 2, en 2), (ad 3, en 3), (ad 5, en 5), (ad 6, en 6), (ad 8, en 8), (ad 9, en 9), (ad 10, en 10)] := rfl
  have hR : ∀ i ∈ ([0, 2, 3, 5, 6, 8, 9, 10] : List Nat), zRo own nn i := (zRo.of4 (fun i hi => by simp only [List.mem_cons, List.not_mem_nil, or_false] at hi; omega))
  have p1 := hL.P [0, 2, 3, 5, 6, 8, 9, 10] hR
  have p2 := hL.D [0, 2, 3, 5, 6, 8, 9, 10] hR (by decide)
  have hZl := hL.Zlt [0, 2, 3, 5, 6, 8, 9, 10]
  have hA := zAo_of (R := zRo own nn) (sz := U.heap.size) [0, 2, 3, 5, 6, 8, 9, 10] hw hR
  rw [hw] at p1 p2
  obtain ⟨Z, hZ⟩ : ∃ Z, Z = zZ (zRo own nn) ad [0, 2, 3, 5, 6, 8, 9, 10] := ⟨_, rfl⟩
  rw [← hZ] at p2 hZl
  have zin : ∀ i, zRo own nn i → i ∉ ([0, 2, 3, 5, 6, 8, 9, 10] : List Nat) → Z (ad i) := fun i h1 h2 => by rw [hZ]; exact ⟨i, h1, h2, rfl⟩
  have z1 := zin 1 (zRo.lo (by decide) (by decide)) (by decide)
  have z7 := zin 7 (zRo.lo (by decide) (by decide)) (by decide)
  have a1 := hL.2.2 1 (zRo.lo (by decide) (by decide))
  have a7 := hL.2.2 7 (zRo.lo (by decide) (by decide))
  rw [s1] at a1
  rw [s7] at a7
  have hZo : ∀ y, (Z y ∨ (own = false ∧ y = E.2.2.1 4)) → y < U.heap.size := fun y hy => hy.elim (hZl y) (fun q => by rw [q.2]; exact Nat.lt_of_lt_of_le (hso q.1).1 hE.2.1)
  have p3 : va_D (fun x => zOld E x ∧ ¬ (Z x ∨ (own = false ∧ x = E.2.2.1 4))) [(ad 0, en 0), (ad 2, en 2), (ad 3, en 3), (ad 5, en 5), (ad 6, en 6), (ad 8, en 8), (ad 9, en 9), (ad 10, en 10)] := p2.weaken (fun k x hk hx => ⟨hx.1, fun q => q.elim hx.2 (fun q => absurd hx.1 (by rw [q.2]; have := (hso q.1).1; unfold zOld; omega))⟩)
  have hgr := zgrp_of (Z := fun y => Z y ∨ (own = false ∧ y = E.2.2.1 4)) hL sg (fun i h1 h2 => Or.inl (zin i h1 (by simp only [List.mem_cons, List.not_mem_nil, or_false, not_or]; omega))) (fun ho => ⟨Or.inr ⟨ho, rfl⟩, (hso ho).2⟩)
  have hwE := hw
  rw [s0, t1, t2, s5, s6, o1, o2, s10] at p1 p3 hA hwE
  obtain ⟨k1, k2⟩ := sp_text_ok hok
  rw [← htt] at k1 k2
  have hlen : (sp_encs S.1.1 tt).length = S.2.1.length := by rw [← k1]
  have hBt : zbytes (sp_encs S.1.1 tt) C.1 f := by rw [← k1]; exact hB
  have hokt : sp_fault S.1.1 (sp_encs S.1.1 tt) < 0 := by rw [← k1]; exact hok
  have hlt : (sp_encs S.1.1 tt).length ≤ 65536 := by rw [← k1]; exact hl
  have hM := c_RW_writeP l E U.heap.size (fun y => Z y ∨ (own = false ∧ y = E.2.2.1 4)) (ad 0) (ad 1) (ad 2) (ad 4) (ad 5) (ad 6) (ad 3) C.1 (ad 10) (ad 8) (ad 9) C.2.1 (ad 7) S.2.2.2.2.1 S.2.2.2.2.2 f fo m o fl r1 r2 r3 S.1.1 S.1.2 cd off ch nx S.2.2.2.1 S.2.2.1.1 ov hov tt hBt k2 hlt hF hBo hFo hco hokt hpl
  rw [hlen] at hM
  have hwr : sp_wr S ov = (0, -1, S.2.1) := by
    show (if 0 ≤ sp_fault S.1.1 S.2.1 then _ else if decide (8 ≤ ov) = true then _ else _) = _
    rw [if_neg (Int.not_le.mpr hok), if_pos (decide_eq_true hpl)]
  have hwc : sp_wcap S C.2.1 ov = max C.2.1 (sp_up S.2.1.length) := by
    show (if 0 ≤ sp_fault S.1.1 S.2.1 then _ else if 8 ≤ ov then _ else _) = _
    rw [if_neg (Int.not_le.mpr hok), if_pos hpl]
  refine ⟨_, _, _, hM, ⟨rfl, p1, p3, hZo, Or.inl z1, Or.inl z7, a1, a7, hgr⟩, hA, ?_⟩
  rintro v H1 ⟨hv, q2, m2, n2, f2, fl2, cd2, oo2, ch2, nx2, hP1, hD1, hB2, hF2, hm2, hn2⟩ hz hk
  have hq := hA _ (hD1.2 6 _ rfl)
  rw [← k1] at hB2
  rw [← hwE] at hk hD1
  rw [← t2] at hP1 hD1
  rw [hwr, hwc]
  have hv9 : v = some (.int (iI (sp_ans (0, -1, S.2.1)))) := by
    exact hv
  exact ⟨zUp ad 9 q2, _, rfl, zFr_up hq, hv9, zSt.wrote hst0 hE.2.1 hk hP1 hD1 hB2 hF2 (sp_capok_max hco (sp_up_ok _)) hm2 hn2⟩

set_option maxRecDepth 100000 in
set_option maxHeartbeats 4000000 in
theorem c2_RW_writeN (l : Launch) (E : zP) (own : Bool) (nn : Nat) (ad : Nat → Nat) (en : Nat → va_E) (S : zSp) (C : zCp) (sz : Nat) (ov : Nat) (hov : ov < 16) (tt : List Nat) (htt : tt = sp_chars S.1.1 S.2.1) (hok : sp_fault S.1.1 S.2.1 < 0) (hpl : ov < 8) : Met l y_RW_write (.code y_RW_write b_RW_write 3 ( some FieldType.int ) :: zw) { frames := 93, cells := ((sp_pcap C.2.1 (sp_part (sp_md S ov) S.2.2.1.1 tt 20 0 tt.length ([], 0, 0))) - C.2.1) / 16, slots := 2 * ((sp_pcap C.2.1 (sp_part (sp_md S ov) S.2.2.1.1 tt 20 0 tt.length ([], 0, 0))) - C.2.1), locals := 5096 } (zPc E [.ref (ad 0), .int (iI ((512 * ov : Nat) : Int))] (fun H => H.size = sz ∧ zSt E own nn ad en S C H)) (zW (fun v H => ∃ (ad' : Nat → Nat) (en' : Nat → va_E), ad' 0 = ad 0 ∧ zFr (zRo own nn) ad sz (zRo own nn) ad' ∧ v = some (.int (iI (sp_ans (sp_wr S ov)))) ∧ zSt E own nn ad' en' (S.1, [], S.2.2.1, (sp_wr S ov).2.2, (sp_wr S ov).1, (sp_wr S ov).2.1) (C.1, sp_wcap S C.2.1 ov, C.2.2) H) (zAo (zRo own nn) ad sz)) (((sp_pcap C.2.1 (sp_part (sp_md S ov) S.2.2.1.1 tt 20 0 tt.length ([], 0, 0))) - C.2.1) / 16) (2 * ((sp_pcap C.2.1 (sp_part (sp_md S ov) S.2.2.1.1 tt 20 0 tt.length ([], 0, 0))) - C.2.1)) (zAo (zRo own nn) ad sz) := by
  refine zMet_use (fun U hE hp => ?_)
  obtain ⟨hsz, hst⟩ := hp
  subst hsz
  have hst0 := hst
  obtain ⟨hL, hso, s0, s1, s7, ⟨⟨f, t1, t2, hB, hF⟩, hc, hl⟩, ⟨⟨fo, o1, o2, hBo, hFo⟩, hco⟩, ⟨m, o, fl, s5, sm, sn⟩, ⟨r1, r2, r3, cd, off, ch, nx, s6, s10⟩, sg⟩ := hst
  have hw : ([0, 2, 3, 5, 6, 8, 9, 10] : List Nat).map (fun i => (ad i, en i)) = [(ad 0, en 0), (ad 2, en 2), (ad 3, en 3), (ad 5, en 5), (ad 6, en 6), (ad 8, en 8), (ad 9, en 9), (ad 10, en 10)] := rfl
  have hR : ∀ i ∈ ([0, 2, 3, 5, 6, 8, 9, 10] : List Nat), zRo own nn i := (zRo.of4 (fun i hi => by simp only [List.mem_cons, List.not_mem_nil, or_false] at hi; omega))
  have p1 := hL.P [0, 2, 3, 5, 6, 8, 9, 10] hR
  have p2 := hL.D [0, 2, 3, 5, 6, 8, 9, 10] hR (by decide)
  have hZl := hL.Zlt [0, 2, 3, 5, 6, 8, 9, 10]
  have hA := zAo_of (R := zRo own nn) (sz := U.heap.size) [0, 2, 3, 5, 6, 8, 9, 10] hw hR
  rw [hw] at p1 p2
  obtain ⟨Z, hZ⟩ : ∃ Z, Z = zZ (zRo own nn) ad [0, 2, 3, 5, 6, 8, 9, 10] := ⟨_, rfl⟩
  rw [← hZ] at p2 hZl
  have zin : ∀ i, zRo own nn i → i ∉ ([0, 2, 3, 5, 6, 8, 9, 10] : List Nat) → Z (ad i) := fun i h1 h2 => by rw [hZ]; exact ⟨i, h1, h2, rfl⟩
  have z1 := zin 1 (zRo.lo (by decide) (by decide)) (by decide)
  have z7 := zin 7 (zRo.lo (by decide) (by decide)) (by decide)
  have a1 := hL.2.2 1 (zRo.lo (by decide) (by decide))
  have a7 := hL.2.2 7 (zRo.lo (by decide) (by decide))
  rw [s1] at a1
  rw [s7] at a7
  have hZo : ∀ y, (Z y ∨ (own = false ∧ y = E.2.2.1 4)) → y < U.heap.size := fun y hy => hy.elim (hZl y) (fun q => by rw [q.2]; exact Nat.lt_of_lt_of_le (hso q.1).1 hE.2.1)
  have p3 : va_D (fun x => zOld E x ∧ ¬ (Z x ∨ (own = false ∧ x = E.2.2.1 4))) [(ad 0, en 0), (ad 2, en 2), (ad 3, en 3), (ad 5, en 5), (ad 6, en 6), (ad 8, en 8), (ad 9, en 9), (ad 10, en 10)] := p2.weaken (fun k x hk hx => ⟨hx.1, fun q => q.elim hx.2 (fun q => absurd hx.1 (by rw [q.2]; have := (hso q.1).1; unfold zOld; omega))⟩)
  have hgr := zgrp_of (Z := fun y => Z y ∨ (own = false ∧ y = E.2.2.1 4)) hL sg (fun i h1 h2 => Or.inl (zin i h1 (by simp only [List.mem_cons, List.not_mem_nil, or_false, not_or]; omega))) (fun ho => ⟨Or.inr ⟨ho, rfl⟩, (hso ho).2⟩)
  have hwE := hw
  rw [s0, t1, t2, s5, s6, o1, o2, s10] at p1 p3 hA hwE
  obtain ⟨k1, k2⟩ := sp_text_ok hok
  rw [← htt] at k1 k2
  have hlen : (sp_encs S.1.1 tt).length = S.2.1.length := by rw [← k1]
  have hBt : zbytes (sp_encs S.1.1 tt) C.1 f := by rw [← k1]; exact hB
  have hokt : sp_fault S.1.1 (sp_encs S.1.1 tt) < 0 := by rw [← k1]; exact hok
  have hlt : (sp_encs S.1.1 tt).length ≤ 65536 := by rw [← k1]; exact hl
  have hM := c_RW_writeN l E U.heap.size (fun y => Z y ∨ (own = false ∧ y = E.2.2.1 4)) (ad 0) (ad 1) (ad 2) (ad 4) (ad 5) (ad 6) (ad 3) C.1 (ad 10) (ad 8) (ad 9) C.2.1 (ad 7) S.2.2.2.2.1 S.2.2.2.2.2 f fo m o fl r1 r2 r3 S.1.1 S.1.2 cd off ch nx S.2.2.2.1 S.2.2.1.1 ov hov tt hBt k2 hlt hF hBo hFo hco hokt hpl
  rw [hlen] at hM
  have hwr : sp_wr S ov = ((sp_part (sp_md S ov) S.2.2.1.1 tt 20 0 tt.length ([], 0, 0)).1, (if (sp_part (sp_md S ov) S.2.2.1.1 tt 20 0 tt.length ([], 0, 0)).2.1 < 0 then -1 else ((sp_off S.1.1 tt (sp_part (sp_md S ov) S.2.2.1.1 tt 20 0 tt.length ([], 0, 0)).2.1.toNat : Nat) : Int)), (if (sp_part (sp_md S ov) S.2.2.1.1 tt 20 0 tt.length ([], 0, 0)).1 = 0 then (sp_part (sp_md S ov) S.2.2.1.1 tt 20 0 tt.length ([], 0, 0)).2.2.2.1 else [])) := by
    rw [htt]
    show (if 0 ≤ sp_fault S.1.1 S.2.1 then _ else if decide (8 ≤ ov) = true then _ else _) = _
    rw [if_neg (Int.not_le.mpr hok), if_neg (by rw [decide_eq_true_eq]; omega)]
    rfl
  have hwc : sp_wcap S C.2.1 ov = (sp_pcap C.2.1 (sp_part (sp_md S ov) S.2.2.1.1 tt 20 0 tt.length ([], 0, 0))) := by
    rw [htt]
    show (if 0 ≤ sp_fault S.1.1 S.2.1 then _ else if 8 ≤ ov then _ else _) = _
    rw [if_neg (Int.not_le.mpr hok), if_neg (by omega)]
  refine ⟨_, _, _, hM, ⟨rfl, p1, p3, hZo, Or.inl z1, Or.inl z7, a1, a7, hgr⟩, hA, ?_⟩
  rintro v H1 ⟨hv, q2, m2, n2, f2, fl2, cd2, oo2, ch2, nx2, hP1, hD1, hB2, hF2, hm2, hn2⟩ hz hk
  have hq := hA _ (hD1.2 6 _ rfl)
  rw [← hwE] at hk hD1
  rw [← t2] at hP1 hD1
  rw [hwr, hwc]
  have hv9 : v = some (.int (iI (sp_ans ((sp_part (sp_md S ov) S.2.2.1.1 tt 20 0 tt.length ([], 0, 0)).1, (if (sp_part (sp_md S ov) S.2.2.1.1 tt 20 0 tt.length ([], 0, 0)).2.1 < 0 then -1 else ((sp_off S.1.1 tt (sp_part (sp_md S ov) S.2.2.1.1 tt 20 0 tt.length ([], 0, 0)).2.1.toNat : Nat) : Int)), (if (sp_part (sp_md S ov) S.2.2.1.1 tt 20 0 tt.length ([], 0, 0)).1 = 0 then (sp_part (sp_md S ov) S.2.2.1.1 tt 20 0 tt.length ([], 0, 0)).2.2.2.1 else []))))) := by
    rw [hv]
    unfold sp_ans
    dsimp only
    by_cases hz0 : (sp_part (sp_md S ov) S.2.2.1.1 tt 20 0 tt.length ([], 0, 0)).1 = 0
    · rw [if_pos hz0, if_pos hz0]
      exact congrArg some (congrArg Value.int (congrArg iI (if_pos hz0)))
    · rw [if_neg hz0]
      exact congrArg some (congrArg Value.int (congrArg iI (if_neg hz0)))
  exact ⟨zUp ad 9 q2, _, rfl, zFr_up hq, hv9, zSt.wrote hst0 hE.2.1 hk hP1 hD1 hB2 hF2 (sp_pcap_ok hco) hm2 hn2⟩
