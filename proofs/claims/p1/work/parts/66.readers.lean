theorem zMetR_use {l : Launch} {y : MethodName} {ws : List Cond} {rm : Room} {E : zP} {av : List Value} {Pre' : Heap → Prop} {v : Option Value}
    (h : ∀ U : State, zE E U U.heap → Pre' U.heap → ∃ Pre : Heap → Prop, Met l y ws rm (zPc E av Pre) (zR v) 0 0 (fun _ => False) ∧ Pre U.heap) : Met l y ws rm (zPc E av Pre') (zR v) 0 0 (fun _ => False) := by
  intro p e ha hc hk s m args below hf happ hP hK
  obtain ⟨rfl, hE, hp⟩ := hP
  obtain ⟨Pre, hM, hp2⟩ := h s hE hp
  exact hM p e ha hc hk s m _ below hf happ ⟨rfl, hE, hp2⟩ hK
set_option maxRecDepth 100000 in
set_option maxHeartbeats 4000000 in
theorem c2_RW_count (l : Launch) (E : zP) (own : Bool) (nn : Nat) (ad : Nat → Nat) (en : Nat → va_E) (S : zSp) (C : zCp) (k : Int) (hk : r32 k) : Met l y_RW_count (.code y_RW_count b_RW_count 2 ( some FieldType.int ) :: zw) { frames := 1, cells := 0, slots := 0, locals := 20 } (zPc E [.ref (ad 0), .int (iI k)] (zSt E own nn ad en S C)) (zR (some (.int (iI (sp_count k ((S.2.1.length : Nat) : Int) ((S.2.2.2.1.length : Nat) : Int) ((S.2.2.1.1.1 : Nat) : Int) ((S.2.2.1.2 : Nat) : Int)))))) 0 0 (fun _ => False) := by
  refine zMetR_use (fun U hE hst => ?_)
  have hst0 := hst
  obtain ⟨hL, hso, s0, s1, s7, ⟨⟨f, t1, t2, hB, hF⟩, hc, hl⟩, so, s5, s6, g4, g11, g12, grow, ⟨fm, m1, m2, hBm, hFm⟩, gmo, g99, glist⟩ := hst
  have hgr := zgrp_of (Z := fun _ => True) hL hst0.2.2.2.2.2.2.2.2.2 (fun _ _ _ => trivial) (fun ho => ⟨trivial, (hso ho).2⟩)
  obtain ⟨⟨fo, o1, o2, hBo, hFo⟩, hco⟩ := so
  obtain ⟨m, o, fl, s5', sm, sn⟩ := s5
  have at' : ∀ i, i < 217 → i ≠ 14 → va_at E.1 zcl (ad i, en i) U.heap := fun i h1 h2 => hL.2.2 i (zRo.lo h1 h2)
  have a0 := at' 0 (by decide) (by decide)
  have a5 := at' 5 (by decide) (by decide)
  have a4 := at' 4 (by decide) (by decide)
  rw [s0] at a0
  rw [s5'] at a5
  rw [g4] at a4
  have rt := (hL.row (Z := fun _ => True) hst0.2.2.2.2.2.1.1 (zRo.lo (by decide) (by decide)) (zRo.lo (by decide) (by decide)) trivial trivial).row
  have ro := (hL.row (Z := fun _ => True) hst0.2.2.2.2.2.2.1.1 (zRo.lo (by decide) (by decide)) (zRo.lo (by decide) (by decide)) trivial trivial).row
  exact ⟨_, c_RW_count l E (ad 0) (ad 1) (ad 2) (ad 4) (ad 5) (ad 6) (ad 7) (ad 8) _ _ (ad 11) (ad 12) (ad 13) (ad 15) S.2.2.2.2.1 S.2.2.2.2.2 _ _ fl S.2.1 S.2.2.2.1 k hk, a0, a5, a4, rt, ro⟩

set_option maxRecDepth 100000 in
set_option maxHeartbeats 4000000 in
theorem c2_RW_result (l : Launch) (E : zP) (own : Bool) (nn : Nat) (ad : Nat → Nat) (en : Nat → va_E) (S : zSp) (C : zCp) (k : Nat) (hk : k < S.2.2.2.1.length) : Met l y_RW_result (.code y_RW_result b_RW_result 3 ( some FieldType.int ) :: zw) { frames := 1, cells := 0, slots := 0, locals := 21 } (zPc E [.ref (ad 0), .int (iI ((k : Nat) : Int))] (zSt E own nn ad en S C)) (zR (some (.int (iI (((sp_b S.2.2.2.1 k : Nat) : Int)))))) 0 0 (fun _ => False) := by
  refine zMetR_use (fun U hE hst => ?_)
  have hst0 := hst
  obtain ⟨hL, hso, s0, s1, s7, ⟨⟨f, t1, t2, hB, hF⟩, hc, hl⟩, so, s5, s6, g4, g11, g12, grow, ⟨fm, m1, m2, hBm, hFm⟩, gmo, g99, glist⟩ := hst
  have hgr := zgrp_of (Z := fun _ => True) hL hst0.2.2.2.2.2.2.2.2.2 (fun _ _ _ => trivial) (fun ho => ⟨trivial, (hso ho).2⟩)
  obtain ⟨⟨fo, o1, o2, hBo, hFo⟩, hco⟩ := so
  obtain ⟨m, o, fl, s5', sm, sn⟩ := s5
  have at' : ∀ i, i < 217 → i ≠ 14 → va_at E.1 zcl (ad i, en i) U.heap := fun i h1 h2 => hL.2.2 i (zRo.lo h1 h2)
  have a0 := at' 0 (by decide) (by decide)
  have a5 := at' 5 (by decide) (by decide)
  have a4 := at' 4 (by decide) (by decide)
  rw [s0] at a0
  rw [s5'] at a5
  rw [g4] at a4
  have rt := (hL.row (Z := fun _ => True) hst0.2.2.2.2.2.1.1 (zRo.lo (by decide) (by decide)) (zRo.lo (by decide) (by decide)) trivial trivial).row
  have ro := (hL.row (Z := fun _ => True) hst0.2.2.2.2.2.2.1.1 (zRo.lo (by decide) (by decide)) (zRo.lo (by decide) (by decide)) trivial trivial).row
  exact ⟨_, c_RW_result l E (ad 0) (ad 1) (ad 2) (ad 4) (ad 5) (ad 6) (ad 7) (ad 8) _ _ S.2.2.2.2.1 S.2.2.2.2.2 fl S.2.2.2.1 k hk, a0, a5, ro⟩

set_option maxRecDepth 100000 in
set_option maxHeartbeats 4000000 in
theorem c2_RW_fault (l : Launch) (E : zP) (own : Bool) (nn : Nat) (ad : Nat → Nat) (en : Nat → va_E) (S : zSp) (C : zCp) (k : Int) (hk : k = 0 ∨ k = 1) : Met l y_RW_fault (.code y_RW_fault b_RW_fault 2 ( some FieldType.int ) :: zw) { frames := 0, cells := 0, slots := 0, locals := 0 } (zPc E [.ref (ad 0), .int (iI k)] (zSt E own nn ad en S C)) (zR (some (.int (iI (if k = 0 then S.2.2.2.2.1 else S.2.2.2.2.2))))) 0 0 (fun _ => False) := by
  refine zMetR_use (fun U hE hst => ?_)
  have hst0 := hst
  obtain ⟨hL, hso, s0, s1, s7, ⟨⟨f, t1, t2, hB, hF⟩, hc, hl⟩, so, s5, s6, g4, g11, g12, grow, ⟨fm, m1, m2, hBm, hFm⟩, gmo, g99, glist⟩ := hst
  have hgr := zgrp_of (Z := fun _ => True) hL hst0.2.2.2.2.2.2.2.2.2 (fun _ _ _ => trivial) (fun ho => ⟨trivial, (hso ho).2⟩)
  obtain ⟨⟨fo, o1, o2, hBo, hFo⟩, hco⟩ := so
  obtain ⟨m, o, fl, s5', sm, sn⟩ := s5
  have at' : ∀ i, i < 217 → i ≠ 14 → va_at E.1 zcl (ad i, en i) U.heap := fun i h1 h2 => hL.2.2 i (zRo.lo h1 h2)
  have a0 := at' 0 (by decide) (by decide)
  have a5 := at' 5 (by decide) (by decide)
  have a4 := at' 4 (by decide) (by decide)
  rw [s0] at a0
  rw [s5'] at a5
  rw [g4] at a4
  have rt := (hL.row (Z := fun _ => True) hst0.2.2.2.2.2.1.1 (zRo.lo (by decide) (by decide)) (zRo.lo (by decide) (by decide)) trivial trivial).row
  have ro := (hL.row (Z := fun _ => True) hst0.2.2.2.2.2.2.1.1 (zRo.lo (by decide) (by decide)) (zRo.lo (by decide) (by decide)) trivial trivial).row
  exact ⟨_, c_RW_fault l E (ad 0) (ad 1) (ad 2) (ad 4) (ad 5) (ad 6) S.2.2.2.2.1 S.2.2.2.2.2 k hk, a0⟩
