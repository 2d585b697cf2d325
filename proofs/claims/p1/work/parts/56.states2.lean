theorem zbytes_take {b : List Nat} {cap : Nat} {f : Nat → Int32} (h : zbytes b cap f) (n : Nat) : zbytes (b.take n) cap f := by
  obtain ⟨h1, h2, h3, h4⟩ := h
  refine ⟨by rw [List.length_take]; omega, h2, fun x hx => h3 x (List.mem_of_mem_take hx), fun j hj => ?_⟩
  rw [List.length_take] at hj
  rw [h4 j (by omega)]
  congr 1
  simp [List.getD_eq_getElem?_getD, List.getElem?_take, show j < n by omega]
set_option maxRecDepth 100000 in
set_option maxHeartbeats 4000000 in
theorem c2_RW_end (l : Launch) (E : zP) (own : Bool) (nn : Nat) (ad : Nat → Nat) (en : Nat → va_E) (S : zSp) (C : zCp) (sz : Nat) (n0 : Nat) (hn : n0 ≤ S.2.1.length) : Met l y_RW_end (.code y_RW_end b_RW_end 2 ( some FieldType.int ) :: zw) { frames := 1, cells := 0, slots := 0, locals := 21 } (zPc E [.ref (ad 0), .int (iI ((n0 : Nat) : Int))] (fun H => H.size = sz ∧ zSt E own nn ad en S C H)) (zW (fun v H => ∃ (ad' : Nat → Nat) (en' : Nat → va_E), ad' 0 = ad 0 ∧ zFr (zRo own nn) ad sz (zRo own nn) ad' ∧ v = some (.int (iI ((n0 : Nat) : Int))) ∧ zSt E own nn ad' en' (S.1, S.2.1.take n0, S.2.2) C H) (zAo (zRo own nn) ad sz)) (0) (0) (zAo (zRo own nn) ad sz) := by
  refine zMet_use (fun U hE hp => ?_)
  obtain ⟨hsz, hst⟩ := hp
  subst hsz
  have hst0 := hst
  obtain ⟨hL, hso, s0, s1, s7, ⟨⟨f, t1, t2, hB, hF⟩, hc, hl⟩, srest⟩ := hst
  have hw : ([0, 2, 3] : List Nat).map (fun i => (ad i, en i)) = [(ad 0, en 0), (ad 2, en 2), (ad 3, en 3)] := rfl
  obtain ⟨p1, p2⟩ := hL.pre [0, 2, 3] hw (zRo.of4 (fun i hi => by simp only [List.mem_cons, List.not_mem_nil, or_false] at hi; omega)) (by decide)
  have hA := zAo_of (R := zRo own nn) (sz := U.heap.size) [0, 2, 3] hw (zRo.of4 (fun i hi => by simp only [List.mem_cons, List.not_mem_nil, or_false] at hi; omega))
  have k0 := @zSt.text E own nn ad en S C U.heap
  rw [s0, t1, t2] at p1 p2 hA
  refine ⟨_, _, _, c_RW_end l E U.heap.size (ad 0) (ad 1) (ad 2) (ad 4) (ad 5) (ad 6) (ad 3) C.1 S.2.2.2.2.1 S.2.2.2.2.2 f S.2.1 n0 hB hn, ⟨rfl, p1, p2, trivial⟩, hA, ?_⟩
  rintro v H1 ⟨hv, hP1, hD1⟩ hz hk
  rw [← s0, ← t1, ← t2] at hk
  rw [← s0] at hP1 hD1
  refine ⟨zUp ad 3 (ad 3), _, rfl, zFr_up (Or.inl ⟨3, zRo.lo (by decide) (by decide), rfl⟩), hv, k0 hst0 hE.2.1 hk hP1 ?_ (zbytes_take hB n0) hF hc (by rw [List.length_take]; omega)⟩
  rw [t1, t2]
  exact hD1

set_option maxRecDepth 100000 in
set_option maxHeartbeats 4000000 in
theorem cx2_RW_end (l : Launch) (htl : ∀ e : Env, l.admits e → e.platform.stackTraces = false) (E : zP) (own : Bool) (nn : Nat) (ad : Nat → Nat) (en : Nat → va_E) (S : zSp) (C : zCp) (sz : Nat) (k0 : Int) (hk0 : r32 k0) (hn : k0 < 0 ∨ ((S.2.1.length : Nat) : Int) < k0) : MetX l y_RW_end (.code y_RW_end b_RW_end 2 ( some FieldType.int ) :: zw) { frames := 7, cells := 1, slots := 6, locals := 81 } (zPc E [.ref (ad 0), .int (iI k0)] (fun H => H.size = sz ∧ zSt E own nn ad en S C H)) (zX "java/lang/IllegalArgumentException" (fun H => zSt E own nn ad en S C H) (zAo (zRo own nn) ad sz)) (1) (6) (zAo (zRo own nn) ad sz) := by
  refine zMetX_use (fun U hE hp => ?_)
  obtain ⟨hsz, hst⟩ := hp
  subst hsz
  have hst0 := hst
  obtain ⟨hL, hso, s0, s1, s7, ⟨⟨f, t1, t2, hB, hF⟩, hc, hl⟩, srest⟩ := hst
  have hw : ([0, 2, 3] : List Nat).map (fun i => (ad i, en i)) = [(ad 0, en 0), (ad 2, en 2), (ad 3, en 3)] := rfl
  obtain ⟨p1, p2⟩ := hL.pre [0, 2, 3] hw (zRo.of4 (fun i hi => by simp only [List.mem_cons, List.not_mem_nil, or_false] at hi; omega)) (by decide)
  have hA := zAo_of (R := zRo own nn) (sz := U.heap.size) [0, 2, 3] hw (zRo.of4 (fun i hi => by simp only [List.mem_cons, List.not_mem_nil, or_false] at hi; omega))
  have kz := @zSt.same E own nn ad en S C U.heap
  have hw2 := hw
  rw [s0, t1, t2] at p1 p2 hA hw2
  exact ⟨_, _, _, cx_RW_end l htl E U.heap.size (ad 0) (ad 1) (ad 2) (ad 4) (ad 5) (ad 6) (ad 3) C.1 S.2.2.2.2.1 S.2.2.2.2.2 f S.2.1 k0 hk0 hB hn, ⟨rfl, p1, p2, trivial⟩, hA, fun H1 hP1 hz hk => kz hst0 hE.2.1 [0, 2, 3] hw2 (zRo.of4 (fun i hi => by simp only [List.mem_cons, List.not_mem_nil, or_false] at hi; omega)) (by decide) hP1 hk⟩
