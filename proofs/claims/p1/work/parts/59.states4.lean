set_option maxRecDepth 100000 in
set_option maxHeartbeats 4000000 in
theorem c2_RW_mark (l : Launch) (E : zP) (own : Bool) (nn : Nat) (ad : Nat → Nat) (en : Nat → va_E) (S : zSp) (C : zCp) (sz : Nat) (hok : sp_fault S.1.1 S.2.1 < 0) : Met l y_RW_mark (.code y_RW_mark b_RW_mark 1 ( some FieldType.int ) :: zw) { frames := 4, cells := 1, slots := S.2.1.length, locals := 93 } (zPc E [.ref (ad 0)] (fun H => H.size = sz ∧ zSt E own nn ad en S C H)) (zW (fun v H => ∃ (ad' : Nat → Nat) (en' : Nat → va_E), ad' 0 = ad 0 ∧ zFr (zRo own nn) ad sz (zRo own nn) ad' ∧ v = some (.int (iI (((sp_chars S.1.1 S.2.1).length : Nat) : Int))) ∧ ∃ cap3, cap3 = max C.2.2.1 S.2.1.length ∧ zSt E own nn ad' en' (S.1, [], ((S.2.2.1.1.1, S.2.2.1.1.2.1, S.2.2.1.1.2.2.1, sp_chars S.1.1 S.2.1), S.2.2.1.2), S.2.2.2) (C.1, C.2.1, cap3, C.2.2.2) H) (zAo (zRo own nn) ad sz)) (1) (S.2.1.length) (zAo (zRo own nn) ad sz) := by
  refine zMet_use (fun U hE hp => ?_)
  obtain ⟨hsz, hst⟩ := hp
  subst hsz
  have hst0 := hst
  obtain ⟨hL, hso, s0, s1, s7, ⟨⟨f, t1, t2, hB, hF⟩, hc, hl⟩, so, s5, s6, g4, g11, g12, grow, ⟨fm, m1, m2, hBm, hFm⟩, gmo, g99, glist⟩ := hst
  have hgr := zgrp_of (Z := fun _ => True) hL hst0.2.2.2.2.2.2.2.2.2 (fun _ _ _ => trivial) (fun ho => ⟨trivial, (hso ho).2⟩)
  have hw : ([0, 1, 2, 3, 4, 15, 16] : List Nat).map (fun i => (ad i, en i)) = [(ad 0, en 0), (ad 1, en 1), (ad 2, en 2), (ad 3, en 3), (ad 4, en 4), (ad 15, en 15), (ad 16, en 16)] := rfl
  have hR : ∀ i ∈ ([0, 1, 2, 3, 4, 15, 16] : List Nat), zRo own nn i := (zRo.of4 (fun i hi => by simp only [List.mem_cons, List.not_mem_nil, or_false] at hi; omega))
  obtain ⟨p1, p2⟩ := hL.pre [0, 1, 2, 3, 4, 15, 16] hw hR (by decide)
  have hA := zAo_of (R := zRo own nn) (sz := U.heap.size) [0, 1, 2, 3, 4, 15, 16] hw hR
  have hw2 := hw
  rw [s0, s1, t1, t2, g4, m1, m2] at p1 p2 hA hw2
  obtain ⟨k1, k2⟩ := sp_text_ok hok
  refine ⟨_, _, _, c_RW_mark l E U.heap.size (ad 0) (ad 1) (ad 2) (ad 4) (ad 5) (ad 6) (ad 3) C.1 S.2.2.2.2.1 S.2.2.2.2.2 f S.2.1 (ad 11) (ad 12) (ad 13) (ad 15) ((S.2.2.1.2 : Nat) : Int) S.2.2.1.1 S.1.1 (ad 16) C.2.2.1 fm _ hB hF hBm hFm hl hok, ⟨rfl, p1, p2, trivial⟩, hA, ?_⟩
  rintro v H1 ⟨hv, q3, cap3, f3, hP1, hD1, hB3, hF3, hc3⟩ hz hk
  have hq := hA _ (hD1.2 6 _ rfl)
  rw [hw2.symm] at hk hD1
  rw [← s0, ← s1, ← t2, ← g4] at hP1 hD1
  rw [sp_text_cnt hok] at hv
  exact ⟨zUp ad 16 q3, _, zUp_ne _ _ (by omega), zFr_up hq, hv, cap3, hc3, zSt.mark hst0 hE.2.1 rfl rfl hk hP1 hD1 hB3 hF3 k1 k2⟩

-- the text is empty, nothing else has changed
theorem zSt.emptied {E : zP} {own : Bool} {nn : Nat} {ad : Nat → Nat} {en : Nat → va_E} {S : zSp} {C : zCp} {H H1 : Heap} (h : zSt E own nn ad en S C H) (hE : E.2.2.2 ≤ H.size) (idx : List Nat) (hR : ∀ i ∈ idx, zRo own nn i) (h2 : 2 ∈ idx) {eT : va_E} (heT : eT = .inr (1, [.int (iI 65536), .ref (ad 3), .int (iI ((([] : List Nat).length : Nat) : Int))]))
    (hk : ∀ q : Nat, q < H.size → ¬ va_A (idx.map (fun i => (ad i, en i))) H.size q → H1[q]? = H[q]?) (hP : va_P E.1 zcl (idx.map (fun i => (ad i, zUp en 2 eT i))) H1) (hD : va_D (va_A (idx.map (fun i => (ad i, en i))) H.size) (idx.map (fun i => (ad i, zUp en 2 eT i)))) :
    zSt E own nn ad (zUp en 2 eT) (S.1, [], S.2.2) C H1 := by
  obtain ⟨hL, hso, s0, s1, s7, ⟨⟨f0, t1, t2, t3, t4⟩, sc, sl⟩, so, s5, s6, sg⟩ := h
  exact ⟨hL.lift (idx := idx) (idx1 := idx) hE hR hk hP hD (fun i _ hn => ⟨rfl, zUp_ne _ _ (fun e => hn (by rw [e]; exact h2))⟩) zRo.same, hso.lift hL hE hR hk, s0, s1, s7, ⟨⟨f0, heT, t2, zbytes_nil t3.2.1, t4⟩, sc, Nat.zero_le _⟩, so, s5, s6, sg.congr (fun _ _ => rfl) (fun i hi => zUp_ne _ _ (by omega))⟩

set_option maxRecDepth 100000 in
set_option maxHeartbeats 4000000 in
theorem cx2_RW_set2 (l : Launch) (htl : ∀ e : Env, l.admits e → e.platform.stackTraces = false) (E : zP) (own : Bool) (nn : Nat) (ad : Nat → Nat) (en : Nat → va_E) (S : zSp) (C : zCp) (sz : Nat) (n0 : Nat) (hn : n0 < 100) (hG : n0 ≤ S.2.2.1.1.1) (hbad : 0 ≤ sp_fault S.1.1 S.2.1) : MetX l y_RW_set (.code y_RW_set b_RW_set 2 ( some FieldType.int ) :: zw) { frames := 7, cells := 1, slots := 6, locals := 93 } (zPc E [.ref (ad 0), .int (iI ((n0 : Nat) : Int))] (fun H => H.size = sz ∧ zSt E own nn ad en S C H)) (zX "java/lang/UnsupportedOperationException" (fun H => ∃ (ad' : Nat → Nat) (en' : Nat → va_E), ad' 0 = ad 0 ∧ zFr (zRo own nn) ad sz (zRo own nn) ad' ∧ zSt E own nn ad' en' (S.1, [], S.2.2) C H) (zAo (zRo own nn) ad sz)) (1) (6) (zAo (zRo own nn) ad sz) := by
  refine zMetX_use (fun U hE hp => ?_)
  obtain ⟨hsz, hst⟩ := hp
  subst hsz
  have hst0 := hst
  obtain ⟨hL, hso, s0, s1, s7, ⟨⟨f, t1, t2, hB, hF⟩, hc, hl⟩, so, s5, s6, g4, g11, g12, grow, ⟨fm, m1, m2, hBm, hFm⟩, gmo, g99, glist⟩ := hst
  have hgr := zgrp_of (Z := fun _ => True) hL hst0.2.2.2.2.2.2.2.2.2 (fun _ _ _ => trivial) (fun ho => ⟨trivial, (hso ho).2⟩)
  have hw : ([0, 1, 2, 3, 4] : List Nat).map (fun i => (ad i, en i)) = [(ad 0, en 0), (ad 1, en 1), (ad 2, en 2), (ad 3, en 3), (ad 4, en 4)] := rfl
  have hR : ∀ i ∈ ([0, 1, 2, 3, 4] : List Nat), zRo own nn i := (zRo.of4 (fun i hi => by simp only [List.mem_cons, List.not_mem_nil, or_false] at hi; omega))
  obtain ⟨p1, p2⟩ := hL.pre [0, 1, 2, 3, 4] hw hR (by decide)
  have hA := zAo_of (R := zRo own nn) (sz := U.heap.size) [0, 1, 2, 3, 4] hw hR
  have hw2 := hw
  rw [s0, s1, t1, t2, g4] at p1 p2 hA hw2
  refine ⟨_, _, _, cx_RW_set2 l htl E U.heap.size (ad 0) (ad 1) (ad 2) (ad 4) (ad 5) (ad 6) (ad 3) C.1 S.2.2.2.2.1 S.2.2.2.2.2 f S.2.1 (ad 11) (ad 12) (ad 13) (ad 15) ((S.2.2.1.2 : Nat) : Int) S.2.2.1.1 S.1.1 n0 hn hG hB hbad, ⟨rfl, p1, p2, hgr⟩, hA, ?_⟩
  rintro H1 ⟨hP1, hD1⟩ hz hk
  rw [hw2.symm] at hk hD1
  rw [← s0, ← s1, ← t2, ← g4] at hP1 hD1
  exact ⟨ad, _, rfl, zFr_rfl, zSt.emptied hst0 hE.2.1 [0, 1, 2, 3, 4] hR (by decide) rfl hk hP1 hD1⟩

set_option maxRecDepth 100000 in
set_option maxHeartbeats 4000000 in
theorem cx2_RW_mark (l : Launch) (htl : ∀ e : Env, l.admits e → e.platform.stackTraces = false) (E : zP) (own : Bool) (nn : Nat) (ad : Nat → Nat) (en : Nat → va_E) (S : zSp) (C : zCp) (sz : Nat) (hbad : 0 ≤ sp_fault S.1.1 S.2.1) : MetX l y_RW_mark (.code y_RW_mark b_RW_mark 1 ( some FieldType.int ) :: zw) { frames := 7, cells := 1, slots := 6, locals := 93 } (zPc E [.ref (ad 0)] (fun H => H.size = sz ∧ zSt E own nn ad en S C H)) (zX "java/lang/UnsupportedOperationException" (fun H => ∃ (ad' : Nat → Nat) (en' : Nat → va_E), ad' 0 = ad 0 ∧ zFr (zRo own nn) ad sz (zRo own nn) ad' ∧ zSt E own nn ad' en' (S.1, [], S.2.2) C H) (zAo (zRo own nn) ad sz)) (1) (6) (zAo (zRo own nn) ad sz) := by
  refine zMetX_use (fun U hE hp => ?_)
  obtain ⟨hsz, hst⟩ := hp
  subst hsz
  have hst0 := hst
  obtain ⟨hL, hso, s0, s1, s7, ⟨⟨f, t1, t2, hB, hF⟩, hc, hl⟩, so, s5, s6, g4, g11, g12, grow, ⟨fm, m1, m2, hBm, hFm⟩, gmo, g99, glist⟩ := hst
  have hgr := zgrp_of (Z := fun _ => True) hL hst0.2.2.2.2.2.2.2.2.2 (fun _ _ _ => trivial) (fun ho => ⟨trivial, (hso ho).2⟩)
  have hw : ([0, 1, 2, 3] : List Nat).map (fun i => (ad i, en i)) = [(ad 0, en 0), (ad 1, en 1), (ad 2, en 2), (ad 3, en 3)] := rfl
  have hR : ∀ i ∈ ([0, 1, 2, 3] : List Nat), zRo own nn i := (zRo.of4 (fun i hi => by simp only [List.mem_cons, List.not_mem_nil, or_false] at hi; omega))
  obtain ⟨p1, p2⟩ := hL.pre [0, 1, 2, 3] hw hR (by decide)
  have hA := zAo_of (R := zRo own nn) (sz := U.heap.size) [0, 1, 2, 3] hw hR
  have hw2 := hw
  rw [s0, s1, t1, t2] at p1 p2 hA hw2
  refine ⟨_, _, _, cx_RW_mark l htl E U.heap.size (ad 0) (ad 1) (ad 2) (ad 4) (ad 5) (ad 6) (ad 3) C.1 S.2.2.2.2.1 S.2.2.2.2.2 f S.2.1 S.1.1 hB hbad, ⟨rfl, p1, p2, trivial⟩, hA, ?_⟩
  rintro H1 ⟨hP1, hD1⟩ hz hk
  rw [hw2.symm] at hk hD1
  rw [← s0, ← s1, ← t2] at hP1 hD1
  exact ⟨ad, _, rfl, zFr_rfl, zSt.emptied hst0 hE.2.1 [0, 1, 2, 3] hR (by decide) rfl hk hP1 hD1⟩

set_option maxRecDepth 100000 in
set_option maxHeartbeats 4000000 in
theorem cx2_RW_groups (l : Launch) (htl : ∀ e : Env, l.admits e → e.platform.stackTraces = false) (E : zP) (own : Bool) (nn : Nat) (ad : Nat → Nat) (en : Nat → va_E) (S : zSp) (C : zCp) (sz : Nat) (k0 : Int) (hk0 : r32 k0) (hk : k0 < 0 ∨ 99 < k0) : MetX l y_RW_groups (.code y_RW_groups b_RW_groups 2 ( Option.none : Option FieldType ) :: zw) { frames := 7, cells := 1, slots := 6, locals := 81 } (zPc E [.ref (ad 0), .int (iI k0)] (fun H => H.size = sz ∧ zSt E own nn ad en S C H)) (zX "java/lang/IllegalArgumentException" (fun H => zSt E own nn ad en S C H) (zAo (zRo own nn) ad sz)) (1) (6) (zAo (zRo own nn) ad sz) := by
  refine zMetX_use (fun U hE hp => ?_)
  obtain ⟨hsz, hst⟩ := hp
  subst hsz
  have hst0 := hst
  obtain ⟨hL, hso, s0, s1, s7, ⟨⟨f, t1, t2, hB, hF⟩, hc, hl⟩, so, s5, s6, g4, g11, g12, grow, ⟨fm, m1, m2, hBm, hFm⟩, gmo, g99, glist⟩ := hst
  have hgr := zgrp_of (Z := fun _ => True) hL hst0.2.2.2.2.2.2.2.2.2 (fun _ _ _ => trivial) (fun ho => ⟨trivial, (hso ho).2⟩)
  have hw : ([0] : List Nat).map (fun i => (ad i, en i)) = [(ad 0, en 0)] := rfl
  have hR : ∀ i ∈ ([0] : List Nat), zRo own nn i := (zRo.of4 (fun i hi => by simp only [List.mem_cons, List.not_mem_nil, or_false] at hi; omega))
  obtain ⟨p1, p2⟩ := hL.pre [0] hw hR (by decide)
  have hA := zAo_of (R := zRo own nn) (sz := U.heap.size) [0] hw hR
  have hw2 := hw
  rw [s0] at p1 p2 hA hw2
  exact ⟨_, _, _, cx_RW_groups l htl E U.heap.size (ad 0) (ad 1) (ad 2) (ad 4) (ad 5) (ad 6) S.2.2.2.2.1 S.2.2.2.2.2 k0 hk0 hk, ⟨rfl, p1, p2, trivial⟩, hA, fun H1 hP1 hz hk => zSt.same hst0 hE.2.1 [0] hw2 hR (by decide) hP1 hk⟩

set_option maxRecDepth 100000 in
set_option maxHeartbeats 4000000 in
theorem cx2_RW_fault (l : Launch) (htl : ∀ e : Env, l.admits e → e.platform.stackTraces = false) (E : zP) (own : Bool) (nn : Nat) (ad : Nat → Nat) (en : Nat → va_E) (S : zSp) (C : zCp) (sz : Nat) (k0 : Int) (hk0 : r32 k0) (hk : k0 ≠ 0 ∧ k0 ≠ 1) : MetX l y_RW_fault (.code y_RW_fault b_RW_fault 2 ( some FieldType.int ) :: zw) { frames := 7, cells := 1, slots := 6, locals := 81 } (zPc E [.ref (ad 0), .int (iI k0)] (fun H => H.size = sz ∧ zSt E own nn ad en S C H)) (zX "java/lang/IllegalArgumentException" (fun H => zSt E own nn ad en S C H) (zAo (zRo own nn) ad sz)) (1) (6) (zAo (zRo own nn) ad sz) := by
  refine zMetX_use (fun U hE hp => ?_)
  obtain ⟨hsz, hst⟩ := hp
  subst hsz
  have hst0 := hst
  obtain ⟨hL, hso, s0, s1, s7, ⟨⟨f, t1, t2, hB, hF⟩, hc, hl⟩, so, s5, s6, g4, g11, g12, grow, ⟨fm, m1, m2, hBm, hFm⟩, gmo, g99, glist⟩ := hst
  have hgr := zgrp_of (Z := fun _ => True) hL hst0.2.2.2.2.2.2.2.2.2 (fun _ _ _ => trivial) (fun ho => ⟨trivial, (hso ho).2⟩)
  have hw : ([0] : List Nat).map (fun i => (ad i, en i)) = [(ad 0, en 0)] := rfl
  have hR : ∀ i ∈ ([0] : List Nat), zRo own nn i := (zRo.of4 (fun i hi => by simp only [List.mem_cons, List.not_mem_nil, or_false] at hi; omega))
  obtain ⟨p1, p2⟩ := hL.pre [0] hw hR (by decide)
  have hA := zAo_of (R := zRo own nn) (sz := U.heap.size) [0] hw hR
  have hw2 := hw
  rw [s0] at p1 p2 hA hw2
  exact ⟨_, _, _, cx_RW_fault l htl E U.heap.size (ad 0) (ad 1) (ad 2) (ad 4) (ad 5) (ad 6) S.2.2.2.2.1 S.2.2.2.2.2 k0 hk0 hk, ⟨rfl, p1, p2, trivial⟩, hA, fun H1 hP1 hz hk => zSt.same hst0 hE.2.1 [0] hw2 hR (by decide) hP1 hk⟩

set_option maxRecDepth 100000 in
set_option maxHeartbeats 4000000 in
theorem cx2_RW_result (l : Launch) (htl : ∀ e : Env, l.admits e → e.platform.stackTraces = false) (E : zP) (own : Bool) (nn : Nat) (ad : Nat → Nat) (en : Nat → va_E) (S : zSp) (C : zCp) (sz : Nat) (k0 : Int) (hk0 : r32 k0) (hk : k0 < 0 ∨ ((S.2.2.2.1.length : Nat) : Int) ≤ k0) : MetX l y_RW_result (.code y_RW_result b_RW_result 3 ( some FieldType.int ) :: zw) { frames := 7, cells := 1, slots := 6, locals := 81 } (zPc E [.ref (ad 0), .int (iI k0)] (fun H => H.size = sz ∧ zSt E own nn ad en S C H)) (zX "java/lang/IndexOutOfBoundsException" (fun H => zSt E own nn ad en S C H) (zAo (zRo own nn) ad sz)) (1) (6) (zAo (zRo own nn) ad sz) := by
  refine zMetX_use (fun U hE hp => ?_)
  obtain ⟨hsz, hst⟩ := hp
  subst hsz
  have hst0 := hst
  obtain ⟨hL, hso, s0, s1, s7, ⟨⟨f, t1, t2, hB, hF⟩, hc, hl⟩, so, s5, s6, g4, g11, g12, grow, ⟨fm, m1, m2, hBm, hFm⟩, gmo, g99, glist⟩ := hst
  have hgr := zgrp_of (Z := fun _ => True) hL hst0.2.2.2.2.2.2.2.2.2 (fun _ _ _ => trivial) (fun ho => ⟨trivial, (hso ho).2⟩)
  obtain ⟨⟨fo, o1, o2, hBo, hFo⟩, hco⟩ := so
  obtain ⟨m, o, fl, s5', sm, sn⟩ := s5
  have hw : ([0, 5, 8, 9] : List Nat).map (fun i => (ad i, en i)) = [(ad 0, en 0), (ad 5, en 5), (ad 8, en 8), (ad 9, en 9)] := rfl
  have hR : ∀ i ∈ ([0, 5, 8, 9] : List Nat), zRo own nn i := (zRo.of4 (fun i hi => by simp only [List.mem_cons, List.not_mem_nil, or_false] at hi; omega))
  obtain ⟨p1, p2⟩ := hL.pre [0, 5, 8, 9] hw hR (by decide)
  have hA := zAo_of (R := zRo own nn) (sz := U.heap.size) [0, 5, 8, 9] hw hR
  have hw2 := hw
  rw [s0, s5', o1, o2] at p1 p2 hA hw2
  exact ⟨_, _, _, cx_RW_result l htl E U.heap.size (ad 0) (ad 1) (ad 2) (ad 4) (ad 5) (ad 6) (ad 7) (ad 8) _ _ S.2.2.2.2.1 S.2.2.2.2.2 fl (ad 9) C.2.1 fo S.2.2.2.1 k0 hBo hk0 hk, ⟨rfl, p1, p2, trivial⟩, hA, fun H1 hP1 hz hk => zSt.same hst0 hE.2.1 [0, 5, 8, 9] hw2 hR (by decide) hP1 hk⟩
