set_option maxRecDepth 100000 in
set_option maxHeartbeats 4000000 in
theorem c2_RW_unset (l : Launch) (E : zP) (own : Bool) (nn : Nat) (ad : Nat → Nat) (en : Nat → va_E) (S : zSp) (C : zCp) (sz : Nat) (n0 : Nat) (hn : n0 < 100) (hG : n0 ≤ S.2.2.1.1.1) : Met l y_RW_unset (.code y_RW_unset b_RW_unset 2 ( Option.none : Option FieldType ) :: zw) { frames := 1, cells := 0, slots := 0, locals := 21 } (zPc E [.ref (ad 0), .int (iI ((n0 : Nat) : Int))] (fun H => H.size = sz ∧ zSt E own nn ad en S C H)) (zW (fun v H => ∃ (ad' : Nat → Nat) (en' : Nat → va_E), ad' 0 = ad 0 ∧ zFr (zRo own nn) ad sz (zRo own nn) ad' ∧ v = none ∧ zSt E own nn ad' en' (S.1, S.2.1, ((S.2.2.1.1.1, fun i => if i = n0 then none else S.2.2.1.1.2.1 i, S.2.2.1.1.2.2), S.2.2.1.2), S.2.2.2) C H) (zAo (zRo own nn) ad sz)) (0) (0) (zAo (zRo own nn) ad sz) := by
  refine zMet_use (fun U hE hp => ?_)
  obtain ⟨hsz, hst⟩ := hp
  subst hsz
  have hst0 := hst
  obtain ⟨hL, hso, s0, s1, s7, ⟨⟨f, t1, t2, hB, hF⟩, hc, hl⟩, so, s5, s6, g4, g11, g12, grow, ⟨fm, m1, m2, hBm, hFm⟩, gmo, g99, glist⟩ := hst
  have hgr := zgrp_of (Z := fun _ => True) hL hst0.2.2.2.2.2.2.2.2.2 (fun _ _ _ => trivial) (fun ho => ⟨trivial, (hso ho).2⟩)
  have hw : ([0, 4, 12] : List Nat).map (fun i => (ad i, en i)) = [(ad 0, en 0), (ad 4, en 4), (ad 12, en 12)] := rfl
  have hR : ∀ i ∈ ([0, 4, 12] : List Nat), zRo own nn i := (zRo.of4 (fun i hi => by simp only [List.mem_cons, List.not_mem_nil, or_false] at hi; omega))
  obtain ⟨p1, p2⟩ := hL.pre [0, 4, 12] hw hR (by decide)
  have hA := zAo_of (R := zRo own nn) (sz := U.heap.size) [0, 4, 12] hw hR
  have hw2 := hw
  rw [s0, g4, g12] at p1 p2 hA hw2
  refine ⟨_, _, _, c_RW_unset l E U.heap.size (ad 0) (ad 1) (ad 2) (ad 4) (ad 5) (ad 6) S.2.2.2.2.1 S.2.2.2.2.2 (ad 11) (ad 12) (ad 13) (ad 15) ((S.2.2.1.2 : Nat) : Int) _ S.2.2.1.1 S.1.1 n0 hn hG, ⟨rfl, p1, p2, hgr⟩, hA, ?_⟩
  rintro v H1 ⟨hv, hP1, hD1⟩ hz hk
  rw [← g12] at hD1 hk
  rw [← s0, ← g4] at hP1 hD1 hk
  exact ⟨ad, _, rfl, zFr_rfl, hv, zSt.unset hst0 hE.2.1 rfl hk hP1 hD1⟩

set_option maxRecDepth 100000 in
set_option maxHeartbeats 4000000 in
theorem cx2_RW_unset (l : Launch) (htl : ∀ e : Env, l.admits e → e.platform.stackTraces = false) (E : zP) (own : Bool) (nn : Nat) (ad : Nat → Nat) (en : Nat → va_E) (S : zSp) (C : zCp) (sz : Nat) (k0 : Int) (hk0 : r32 k0) (hk : k0 < 0 ∨ ((S.2.2.1.1.1 : Nat) : Int) < k0) : MetX l y_RW_unset (.code y_RW_unset b_RW_unset 2 ( Option.none : Option FieldType ) :: zw) { frames := 7, cells := 1, slots := 6, locals := 81 } (zPc E [.ref (ad 0), .int (iI k0)] (fun H => H.size = sz ∧ zSt E own nn ad en S C H)) (zX "java/lang/IllegalArgumentException" (fun H => zSt E own nn ad en S C H) (zAo (zRo own nn) ad sz)) (1) (6) (zAo (zRo own nn) ad sz) := by
  refine zMetX_use (fun U hE hp => ?_)
  obtain ⟨hsz, hst⟩ := hp
  subst hsz
  have hst0 := hst
  obtain ⟨hL, hso, s0, s1, s7, ⟨⟨f, t1, t2, hB, hF⟩, hc, hl⟩, so, s5, s6, g4, g11, g12, grow, ⟨fm, m1, m2, hBm, hFm⟩, gmo, g99, glist⟩ := hst
  have hgr := zgrp_of (Z := fun _ => True) hL hst0.2.2.2.2.2.2.2.2.2 (fun _ _ _ => trivial) (fun ho => ⟨trivial, (hso ho).2⟩)
  have hw : ([0, 4] : List Nat).map (fun i => (ad i, en i)) = [(ad 0, en 0), (ad 4, en 4)] := rfl
  have hR : ∀ i ∈ ([0, 4] : List Nat), zRo own nn i := (zRo.of4 (fun i hi => by simp only [List.mem_cons, List.not_mem_nil, or_false] at hi; omega))
  obtain ⟨p1, p2⟩ := hL.pre [0, 4] hw hR (by decide)
  have hA := zAo_of (R := zRo own nn) (sz := U.heap.size) [0, 4] hw hR
  have hw2 := hw
  rw [s0, g4] at p1 p2 hA hw2
  exact ⟨_, _, _, cx_RW_unset l htl E U.heap.size (ad 0) (ad 1) (ad 2) (ad 4) (ad 5) (ad 6) S.2.2.2.2.1 S.2.2.2.2.2 (ad 11) (ad 12) (ad 13) (ad 15) ((S.2.2.1.2 : Nat) : Int) S.2.2.1.1 S.1.1 k0 hk0 hk, ⟨rfl, p1, p2, hgr⟩, hA, fun H1 hP1 hz hk => zSt.same hst0 hE.2.1 [0, 4] hw2 hR (by decide) hP1 hk⟩

set_option maxRecDepth 100000 in
set_option maxHeartbeats 4000000 in
theorem cx2_RW_set (l : Launch) (htl : ∀ e : Env, l.admits e → e.platform.stackTraces = false) (E : zP) (own : Bool) (nn : Nat) (ad : Nat → Nat) (en : Nat → va_E) (S : zSp) (C : zCp) (sz : Nat) (k0 : Int) (hk0 : r32 k0) (hk : k0 < 0 ∨ ((S.2.2.1.1.1 : Nat) : Int) < k0) : MetX l y_RW_set (.code y_RW_set b_RW_set 2 ( some FieldType.int ) :: zw) { frames := 7, cells := 1, slots := 6, locals := 81 } (zPc E [.ref (ad 0), .int (iI k0)] (fun H => H.size = sz ∧ zSt E own nn ad en S C H)) (zX "java/lang/IllegalArgumentException" (fun H => zSt E own nn ad en S C H) (zAo (zRo own nn) ad sz)) (1) (6) (zAo (zRo own nn) ad sz) := by
  refine zMetX_use (fun U hE hp => ?_)
  obtain ⟨hsz, hst⟩ := hp
  subst hsz
  have hst0 := hst
  obtain ⟨hL, hso, s0, s1, s7, ⟨⟨f, t1, t2, hB, hF⟩, hc, hl⟩, so, s5, s6, g4, g11, g12, grow, ⟨fm, m1, m2, hBm, hFm⟩, gmo, g99, glist⟩ := hst
  have hgr := zgrp_of (Z := fun _ => True) hL hst0.2.2.2.2.2.2.2.2.2 (fun _ _ _ => trivial) (fun ho => ⟨trivial, (hso ho).2⟩)
  have hw : ([0, 4] : List Nat).map (fun i => (ad i, en i)) = [(ad 0, en 0), (ad 4, en 4)] := rfl
  have hR : ∀ i ∈ ([0, 4] : List Nat), zRo own nn i := (zRo.of4 (fun i hi => by simp only [List.mem_cons, List.not_mem_nil, or_false] at hi; omega))
  obtain ⟨p1, p2⟩ := hL.pre [0, 4] hw hR (by decide)
  have hA := zAo_of (R := zRo own nn) (sz := U.heap.size) [0, 4] hw hR
  have hw2 := hw
  rw [s0, g4] at p1 p2 hA hw2
  exact ⟨_, _, _, cx_RW_set l htl E U.heap.size (ad 0) (ad 1) (ad 2) (ad 4) (ad 5) (ad 6) S.2.2.2.2.1 S.2.2.2.2.2 (ad 11) (ad 12) (ad 13) (ad 15) ((S.2.2.1.2 : Nat) : Int) S.2.2.1.1 S.1.1 k0 hk0 hk, ⟨rfl, p1, p2, hgr⟩, hA, fun H1 hP1 hz hk => zSt.same hst0 hE.2.1 [0, 4] hw2 hR (by decide) hP1 hk⟩

set_option maxRecDepth 100000 in
set_option maxHeartbeats 4000000 in
theorem c2_RW_set (l : Launch) (E : zP) (own : Bool) (nn : Nat) (ad : Nat → Nat) (en : Nat → va_E) (S : zSp) (C : zCp) (sz : Nat) (n0 : Nat) (hn : n0 < 100) (hG : n0 ≤ S.2.2.1.1.1) (hok : sp_fault S.1.1 S.2.1 < 0) : Met l y_RW_set (.code y_RW_set b_RW_set 2 ( some FieldType.int ) :: zw) { frames := 4, cells := 1, slots := S.2.1.length, locals := 93 } (zPc E [.ref (ad 0), .int (iI ((n0 : Nat) : Int))] (fun H => H.size = sz ∧ zSt E own nn ad en S C H)) (zW (fun v H => ∃ (ad' : Nat → Nat) (en' : Nat → va_E), ad' 0 = ad 0 ∧ zFr (zRo own nn) ad sz (zRo own nn) ad' ∧ v = some (.int (iI (((sp_chars S.1.1 S.2.1).length : Nat) : Int))) ∧ ∃ cap3, cap3 = max (C.2.2.2 n0) S.2.1.length ∧ zSt E own nn ad' en' (S.1, [], ((S.2.2.1.1.1, fun i => if i = n0 then some (sp_chars S.1.1 S.2.1) else S.2.2.1.1.2.1 i, S.2.2.1.1.2.2), S.2.2.1.2), S.2.2.2) (C.1, C.2.1, C.2.2.1, fun i => if i = n0 then cap3 else C.2.2.2 i) H) (zAo (zRo own nn) ad sz)) (1) (S.2.1.length) (zAo (zRo own nn) ad sz) := by
  refine zMet_use (fun U hE hp => ?_)
  obtain ⟨hsz, hst⟩ := hp
  subst hsz
  have hst0 := hst
  obtain ⟨hL, hso, s0, s1, s7, ⟨⟨f, t1, t2, hB, hF⟩, hc, hl⟩, so, s5, s6, g4, g11, g12, grow, ⟨fm, m1, m2, hBm, hFm⟩, gmo, g99, glist⟩ := hst
  have hgr := zgrp_of (Z := fun _ => True) hL hst0.2.2.2.2.2.2.2.2.2 (fun _ _ _ => trivial) (fun ho => ⟨trivial, (hso ho).2⟩)
  obtain ⟨bs, ⟨f1, r1, r2, hB1, hF1⟩, -⟩ := grow n0 hn
  rw [show 17 + 2 * n0 + 1 = 18 + 2 * n0 by omega] at r1 r2
  have hw : ([0, 1, 2, 3, 4, 11, 12, 17 + 2 * n0, 18 + 2 * n0] : List Nat).map (fun i => (ad i, en i)) = [(ad 0, en 0), (ad 1, en 1), (ad 2, en 2), (ad 3, en 3), (ad 4, en 4), (ad 11, en 11), (ad 12, en 12), (ad (17 + 2 * n0), en (17 + 2 * n0)), (ad (18 + 2 * n0), en (18 + 2 * n0))] := rfl
  have hR : ∀ i ∈ ([0, 1, 2, 3, 4, 11, 12, 17 + 2 * n0, 18 + 2 * n0] : List Nat), zRo own nn i := (zRo.of4 (fun i hi => by simp only [List.mem_cons, List.not_mem_nil, or_false] at hi; omega))
  obtain ⟨p1, p2⟩ := hL.pre [0, 1, 2, 3, 4, 11, 12, 17 + 2 * n0, 18 + 2 * n0] hw hR (by simp; omega)
  have hA := zAo_of (R := zRo own nn) (sz := U.heap.size) [0, 1, 2, 3, 4, 11, 12, 17 + 2 * n0, 18 + 2 * n0] hw hR
  have hw2 := hw
  rw [s0, s1, t1, t2, g4, g11, g12, r1, r2] at p1 p2 hA hw2
  obtain ⟨k1, k2⟩ := sp_text_ok hok
  refine ⟨_, _, _, c_RW_set l E U.heap.size (ad 0) (ad 1) (ad 2) (ad 4) (ad 5) (ad 6) (ad 3) C.1 S.2.2.2.2.1 S.2.2.2.2.2 f S.2.1 (ad 11) (ad 12) (ad 13) (ad 15) ((S.2.2.1.2 : Nat) : Int) _ S.2.2.1.1 S.1.1 n0 (ad (17 + 2 * n0)) (ad (18 + 2 * n0)) (C.2.2.2 n0) (zTa ad) f1 bs hn hG (by unfold zTa; rw [if_pos hn]) hB hF hB1 hF1 hl hok, ⟨rfl, p1, p2, hgr⟩, hA, ?_⟩
  rintro v H1 ⟨hv, q3, cap3, f3, hP1, hD1, hB3, hF3, hc3⟩ hz hk
  have hq := hA _ (hD1.2 8 _ rfl)
  rw [hw2.symm] at hk hD1
  rw [← s0, ← s1, ← t2, ← g4, ← g11] at hP1 hD1
  rw [sp_text_cnt hok] at hv
  exact ⟨zUp ad (18 + 2 * n0) q3, _, zUp_ne _ _ (by omega), zFr_up hq, hv, cap3, hc3, zSt.hold hst0 hE.2.1 hn rfl rfl rfl hk hP1 hD1 hB3 hF3 k1 k2⟩
