set_option maxRecDepth 100000 in
set_option maxHeartbeats 4000000 in
theorem c2_RW_feed (l : Launch) (E : zP) (own : Bool) (nn : Nat) (ad : Nat → Nat) (en : Nat → va_E) (S : zSp) (C : zCp) (sz : Nat) (v1 v2 v3 v4 v5 : Int32) (h20 : S.2.1.length + 20 ≤ 65536) : Met l y_RW_feed (.code y_RW_feed b_RW_feed 6 ( some FieldType.int ) :: zw) { frames := 4, cells := ((max C.1 (sp_up (S.2.1.length + 20))) - C.1) / 16, slots := 2 * ((max C.1 (sp_up (S.2.1.length + 20))) - C.1), locals := 103 } (zPc E [.ref (ad 0), .int v1, .int v2, .int v3, .int v4, .int v5] (fun H => H.size = sz ∧ zSt E own nn ad en S C H)) (zW (fun v H => ∃ (ad' : Nat → Nat) (en' : Nat → va_E), ad' 0 = ad 0 ∧ zFr (zRo own nn) ad sz (zRo own nn) ad' ∧ v = some (.int (iI (((S.2.1 ++ sp_four v1 ++ sp_four v2 ++ sp_four v3 ++ sp_four v4 ++ sp_four v5).length : Nat) : Int))) ∧ zSt E own nn ad' en' (S.1, S.2.1 ++ sp_four v1 ++ sp_four v2 ++ sp_four v3 ++ sp_four v4 ++ sp_four v5, S.2.2) ((max C.1 (sp_up (S.2.1.length + 20))), C.2) H) (zAo (zRo own nn) ad sz)) (((max C.1 (sp_up (S.2.1.length + 20))) - C.1) / 16) (2 * ((max C.1 (sp_up (S.2.1.length + 20))) - C.1)) (zAo (zRo own nn) ad sz) := by
  refine zMet_use (fun U hE hp => ?_)
  obtain ⟨hsz, hst⟩ := hp
  subst hsz
  have hst0 := hst
  obtain ⟨hL, hso, s0, s1, s7, ⟨⟨f, t1, t2, hB, hF⟩, hc, hl⟩, srest⟩ := hst
  have hw : ([0, 2, 3] : List Nat).map (fun i => (ad i, en i)) = [(ad 0, en 0), (ad 2, en 2), (ad 3, en 3)] := rfl
  obtain ⟨p1, p2⟩ := hL.pre [0, 2, 3] hw (zRo.of4 (fun i hi => by simp only [List.mem_cons, List.not_mem_nil, or_false] at hi; omega)) (by decide)
  have hA := zAo_of (R := zRo own nn) (sz := U.heap.size) [0, 2, 3] hw (zRo.of4 (fun i hi => by simp only [List.mem_cons, List.not_mem_nil, or_false] at hi; omega))
  have k0 := @zSt.text E own nn ad en S C U.heap
  rw [s0, t1, t2] at p1 p2 hA
  refine ⟨_, _, _, c_RW_feed l E U.heap.size (ad 0) (ad 1) (ad 2) (ad 4) (ad 5) (ad 6) (ad 3) C.1 S.2.2.2.2.1 S.2.2.2.2.2 f S.2.1 v1 v2 v3 v4 v5 hB hF hc h20, ⟨rfl, p1, p2, trivial⟩, hA, ?_⟩
  rintro v H1 ⟨hv, q2, f2, hP1, hD1, hB1, hF1⟩ hz hk
  have hq := hA _ (hD1.2 2 _ rfl)
  rw [← s0, ← t1, ← t2] at hk
  rw [← t1, ← t2] at hD1
  rw [← s0] at hP1 hD1
  exact ⟨zUp ad 3 q2, _, rfl, zFr_up hq, hv, k0 hst0 hE.2.1 hk hP1 hD1 hB1 hF1 (sp_capok_max hc (sp_up_ok _)) (by simp [sp_four]; omega)⟩

set_option maxRecDepth 100000 in
set_option maxHeartbeats 4000000 in
theorem cx2_RW_feed (l : Launch) (htl : ∀ e : Env, l.admits e → e.platform.stackTraces = false) (E : zP) (own : Bool) (nn : Nat) (ad : Nat → Nat) (en : Nat → va_E) (S : zSp) (C : zCp) (sz : Nat) (v1 v2 v3 v4 v5 : Int32) (h20 : 65536 < S.2.1.length + 20) : MetX l y_RW_feed (.code y_RW_feed b_RW_feed 6 ( some FieldType.int ) :: zw) { frames := 7, cells := 1, slots := 6, locals := 81 } (zPc E [.ref (ad 0), .int v1, .int v2, .int v3, .int v4, .int v5] (fun H => H.size = sz ∧ zSt E own nn ad en S C H)) (zX "java/lang/IllegalStateException" (fun H => zSt E own nn ad en S C H) (zAo (zRo own nn) ad sz)) (1) (6) (zAo (zRo own nn) ad sz) := by
  refine zMetX_use (fun U hE hp => ?_)
  obtain ⟨hsz, hst⟩ := hp
  subst hsz
  have hst0 := hst
  obtain ⟨hL, hso, s0, s1, s7, ⟨⟨f, t1, t2, hB, hF⟩, hc, hl⟩, srest⟩ := hst
  have hw : ([0, 2, 3] : List Nat).map (fun i => (ad i, en i)) = [(ad 0, en 0), (ad 2, en 2), (ad 3, en 3)] := rfl
  obtain ⟨p1, p2⟩ := hL.pre [0, 2, 3] hw (zRo.of4 (fun i hi => by simp only [List.mem_cons, List.not_mem_nil, or_false] at hi; omega)) (by decide)
  have hA := zAo_of (R := zRo own nn) (sz := U.heap.size) [0, 2, 3] hw (zRo.of4 (fun i hi => by simp only [List.mem_cons, List.not_mem_nil, or_false] at hi; omega))
  have k0 := @zSt.same E own nn ad en S C U.heap
  have hw2 := hw
  rw [s0, t1, t2] at p1 p2 hA hw2
  exact ⟨_, _, _, cx_RW_feed l htl E U.heap.size (ad 0) (ad 1) (ad 2) (ad 4) (ad 5) (ad 6) (ad 3) C.1 S.2.2.2.2.1 S.2.2.2.2.2 f S.2.1 v1 v2 v3 v4 v5 hB hF hc h20, ⟨rfl, p1, p2, trivial⟩, hA, fun H1 hP1 hz hk => k0 hst0 hE.2.1 [0, 2, 3] hw2 (zRo.of4 (fun i hi => by simp only [List.mem_cons, List.not_mem_nil, or_false] at hi; omega)) (by decide) hP1 hk⟩
