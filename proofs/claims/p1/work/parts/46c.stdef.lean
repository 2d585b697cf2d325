/-! The state of a ReplacementWriter, by roles: 0 itself, 1 encoding, 2 3 text, 4 groups, 5 output, 6 writing, 7 cases, 8 9 result, 10 escape, 11 texts, 12 isSet, 13 names, 14 the list's array, 15 16 mark, 17 + 2 i and 18 + 2 i what group i holds, 217 + 2 j and 218 + 2 j the j-th name. -/
def zRw (E : zP) (ad : Nat → Nat) (en : Nat → va_E) (r : Nat) (most : Int) (b : List Nat) (cap : Nat) : Prop := ∃ f : Nat → Int32, en r = .inr (1, [.int (iI most), .ref (ad (r + 1)), .int (iI ((b.length : Nat) : Int))]) ∧ en (r + 1) = .inl (E.2.1 0, cap, .inl f) ∧ zbytes b cap f ∧ zfit cap f
def zRo (own : Bool) (nn : Nat) (i : Nat) : Prop := (i < 217 ∧ (i = 14 → own = true)) ∨ (217 ≤ i ∧ i < 217 + 2 * nn)
def zTa (ad : Nat → Nat) : Nat → Option Nat := fun i => if i < 100 then some (ad (17 + 2 * i)) else none
theorem zTa_congr {ad ad' : Nat → Nat} (h : ∀ i, i < 100 → ad' (17 + 2 * i) = ad (17 + 2 * i)) : zTa ad' = zTa ad := by
  funext i
  unfold zTa
  by_cases q : i < 100
  · rw [if_pos q, if_pos q, h i q]
  · rw [if_neg q, if_neg q]
theorem zat_congrQ {D : va_G} {cl : List vw_C} {a n : Nat} {cA : ClassId} {f g : Nat → Option Nat} {H : Heap} (h : va_at D cl (a, .inl (cA, n, .inr (.inr (.inr (.inr f))))) H) (he : ∀ j, j < n → f j = g j) : va_at D cl (a, .inl (cA, n, .inr (.inr (.inr (.inr g))))) H := by
  have e : vp_cell cA (n, .inr (.inr (.inr (.inr f)))) = vp_cell cA (n, .inr (.inr (.inr (.inr g)))) := by
    show arrV cA n (fun j => va_rf (f j)) = arrV cA n (fun j => va_rf (g j))
    unfold arrV
    congr 1
    apply Array.ext
    · simp
    · intro i h1 h2
      simp at h1
      simp [he i h1]
  show H[a]? = some (vp_cell cA (n, .inr (.inr (.inr (.inr g)))))
  rw [← e]
  exact h
def zGr (E : zP) (own : Bool) (nn : Nat) (ad : Nat → Nat) (en : Nat → va_E) (utf : Bool) (G : sp_Src) (ng : Nat) (mcap : Nat) (gcap : Nat → Nat) : Prop :=
  en 4 = .inr (5, [.ref (ad 11), .ref (ad 12), .ref (ad 13), .ref (ad 15), .int (iI ((G.1 : Nat) : Int)), .int (iI ((ng : Nat) : Int))]) ∧
  en 11 = .inl (E.2.1 4, 100, .inr (.inr (.inr (.inr (zTa ad))))) ∧
  en 12 = .inl (E.2.1 1, 100, .inl (fun i => iI (bN (G.2.1 i).isSome))) ∧
  (∀ i, i < 100 → ∃ bs, zRw E ad en (17 + 2 * i) 65536 bs (gcap i) ∧ ∀ cs, G.2.1 i = some cs → bs = sp_encs utf cs ∧ sp_oks utf cs) ∧
  zRw E ad en 15 65536 (sp_encs utf G.2.2.2) mcap ∧ sp_oks utf G.2.2.2 ∧ G.1 ≤ 99 ∧
  (∃ (md : Int) (cap : Nat) (f : Nat → Option Nat), en 13 = .inr (9, [.ref (if own then ad 14 else E.2.2.1 4), .int (iI ((nn : Nat) : Int)), .int (iI md)]) ∧ (own = true → en 14 = .inl (E.2.1 5, cap, .inr (.inr (.inr (.inr f)))) ∧ nn ≤ cap ∧ cap < 2147483648 ∧ ∀ j, j < nn → f j = some (ad (217 + 2 * j))) ∧ (own = false → nn = 0)) ∧
  ∃ Nc : List (List Nat × Nat), Nc.length = nn ∧ (∀ x, x ∈ Nc ↔ x ∈ G.2.2.1) ∧ ∀ j, j < nn → ∃ f : Nat → Int32, en (217 + 2 * j) = .inr (4, [.ref (ad (218 + 2 * j)), .int (iI (((Nc.getD j ([], 0)).2 : Nat) : Int))]) ∧ en (218 + 2 * j) = .inl (E.2.1 0, (Nc.getD j ([], 0)).1.length, .inl f) ∧ (∀ k, k < (Nc.getD j ([], 0)).1.length → f k = sb_b ((Nc.getD j ([], 0)).1.getD k 0)) ∧ (∀ x ∈ (Nc.getD j ([], 0)).1, x < 128) ∧ (Nc.getD j ([], 0)).1.length ≤ 32 ∧ (Nc.getD j ([], 0)).2 ≤ 99
theorem zL.row {E : zP} {R : Nat → Prop} {ad : Nat → Nat} {en : Nat → va_E} {H : Heap} (h : zL E R ad en H) {r cap : Nat} {most : Int} {b : List Nat} (hr : zRw E ad en r most b cap) (h1 : R r) (h2 : R (r + 1)) {Z : Nat → Prop} (z1 : Z (ad r)) (z2 : Z (ad (r + 1))) : zrowZ E Z (ad r) b H := by
  obtain ⟨f, e1, e2, hB, -⟩ := hr
  refine ⟨most, ad (r + 1), cap, f, z1, z2, ?_, ?_, hB⟩
  · have := h.2.2 r h1
    rw [e1] at this
    exact this
  · have := h.2.2 (r + 1) h2
    rw [e2] at this
    exact this
theorem zgrp_of {E : zP} {own : Bool} {nn : Nat} {ad : Nat → Nat} {en : Nat → va_E} {utf : Bool} {G : sp_Src} {ng mcap : Nat} {gcap : Nat → Nat} {H : Heap} {Z : Nat → Prop} (h : zL E (zRo own nn) ad en H) (hg : zGr E own nn ad en utf G ng mcap gcap)
    (hZ : ∀ i, zRo own nn i → i = 4 ∨ 11 ≤ i → Z (ad i)) (hs : own = false → Z (E.2.2.1 4) ∧ True) : zgrp E Z utf (ad 4) G H := by
  obtain ⟨g4, g11, g12, gr, gm, gmo, g99, ⟨md, cap, f, g13, g14, g14n⟩, Nc, gl, gN, gn⟩ := hg
  have at' : ∀ i, zRo own nn i → va_at E.1 zcl (ad i, en i) H := h.2.2
  have r : ∀ i, i < 217 → i ≠ 14 → zRo own nn i := fun i h1 h2 => Or.inl ⟨h1, fun e => absurd e h2⟩
  refine ⟨ad 11, ad 12, ad 13, ad 15, ((ng : Nat) : Int), fun i => ad (17 + 2 * i), (List.range nn).map (fun j => ad (217 + 2 * j)), Nc, hZ 4 (r 4 (by decide) (by decide)) (Or.inl rfl), hZ 11 (r 11 (by decide) (by decide)) (Or.inr (by decide)), hZ 12 (r 12 (by decide) (by decide)) (Or.inr (by decide)), ?_, ?_, ?_, ?_, ?_, gmo, ?_, ?_, ?_, gN, g99⟩
  · have k := at' 4 (r 4 (by decide) (by decide))
    rw [g4] at k
    exact k
  · have k := at' 11 (r 11 (by decide) (by decide))
    rw [g11] at k
    exact zat_congrQ k (fun j hj => by unfold zTa; rw [if_pos hj])
  · have k := at' 12 (r 12 (by decide) (by decide))
    rw [g12] at k
    exact k
  · intro i hi cs hc
    obtain ⟨bs, q1, q2⟩ := gr i hi
    obtain ⟨e, ho⟩ := q2 cs hc
    subst e
    exact ⟨h.row q1 (r _ (by omega) (by omega)) (r _ (by omega) (by omega)) (hZ _ (r _ (by omega) (by omega)) (Or.inr (by omega))) (hZ _ (r _ (by omega) (by omega)) (Or.inr (by omega))), ho⟩
  · exact h.row gm (r _ (by omega) (by omega)) (r _ (by omega) (by omega)) (hZ _ (r _ (by omega) (by omega)) (Or.inr (by omega))) (hZ _ (r _ (by omega) (by omega)) (Or.inr (by omega)))
  · have hlen : ((List.range nn).map (fun j => ad (217 + 2 * j))).length = nn := by simp
    have k := at' 13 (r 13 (by decide) (by decide))
    rw [g13] at k
    cases own with
    | true =>
      obtain ⟨e14, c1, c2, c3⟩ := g14 rfl
      have r14 : zRo true nn 14 := Or.inl ⟨by decide, fun _ => rfl⟩
      have k2 := at' 14 r14
      rw [e14] at k2
      refine ⟨ad 14, cap, md, f, hZ 13 (r 13 (by decide) (by decide)) (Or.inr (by decide)), (fun _ => hZ 14 r14 (Or.inr (by decide))), ?_, (fun _ => k2), by rw [hlen]; exact c1, c2, fun j hj => ?_⟩
      · rw [hlen]
        exact k
      · rw [hlen] at hj
        rw [c3 j hj]
        simp [List.getD_eq_getElem?_getD, hj]
    | false =>
      have n0 := g14n rfl
      subst n0
      exact ⟨E.2.2.1 4, 0, md, fun _ => none, hZ 13 (r 13 (by decide) (by decide)) (Or.inr (by decide)), (fun h9 => absurd rfl h9), k, (fun h9 => absurd rfl h9), Nat.le_refl _, by decide, fun j hj => absurd hj (Nat.not_lt_zero _)⟩
  · rw [gl]
    simp
  · intro j hj
    rw [gl] at hj
    obtain ⟨f1, e1, e2, e3⟩ := gn j hj
    have r1 : zRo own nn (217 + 2 * j) := Or.inr ⟨by omega, by omega⟩
    have r2 : zRo own nn (218 + 2 * j) := Or.inr ⟨by omega, by omega⟩
    have k1 := at' _ r1
    have k2 := at' _ r2
    rw [e1] at k1
    rw [e2] at k2
    have e4 : ((List.range nn).map (fun j => ad (217 + 2 * j))).getD j 0 = ad (217 + 2 * j) := by simp [List.getD_eq_getElem?_getD, hj]
    rw [e4]
    exact ⟨_, f1, hZ _ r1 (Or.inr (by omega)), hZ _ r2 (Or.inr (by omega)), k1, k2, e3⟩
def zUp {α : Type} (f : Nat → α) (k : Nat) (v : α) : Nat → α := fun i => if i = k then v else f i
theorem zUp_at {α : Type} (f : Nat → α) (k : Nat) (v : α) : zUp f k v k = v := if_pos rfl
theorem zUp_ne {α : Type} (f : Nat → α) {k i : Nat} (v : α) (h : i ≠ k) : zUp f k v i = f i := if_neg h
theorem zRw.congr {E : zP} {ad ad' : Nat → Nat} {en en' : Nat → va_E} {r cap : Nat} {most : Int} {b : List Nat} (h : zRw E ad en r most b cap) (h1 : ad' (r + 1) = ad (r + 1)) (h2 : en' r = en r) (h3 : en' (r + 1) = en (r + 1)) : zRw E ad' en' r most b cap := by
  obtain ⟨f, e1, e2, e3⟩ := h
  exact ⟨f, by rw [h2, h1]; exact e1, by rw [h3]; exact e2, e3⟩
theorem zGr.congr {E : zP} {own : Bool} {nn : Nat} {ad ad' : Nat → Nat} {en en' : Nat → va_E} {utf : Bool} {G : sp_Src} {ng mcap : Nat} {gcap : Nat → Nat} (h : zGr E own nn ad en utf G ng mcap gcap) (ha : ∀ i, i = 4 ∨ 11 ≤ i → ad' i = ad i) (he : ∀ i, i = 4 ∨ 11 ≤ i → en' i = en i) : zGr E own nn ad' en' utf G ng mcap gcap := by
  obtain ⟨g4, g11, g12, gr, gm, gmo, g99, ⟨md, cap, f, g13, g14, g14n⟩, Nc, gl, gN, gn⟩ := h
  refine ⟨?_, ?_, ?_, fun i hi => ?_, gm.congr (ha _ (by omega)) (he _ (by omega)) (he _ (by omega)), gmo, g99, ⟨md, cap, f, ?_, fun ho => ?_, g14n⟩, Nc, gl, gN, fun j hj => ?_⟩
  · rw [he 4 (by omega), ha 11 (by omega), ha 12 (by omega), ha 13 (by omega), ha 15 (by omega)]
    exact g4
  · rw [he 11 (by omega), g11, zTa_congr (fun i _ => ha _ (by omega))]
  · rw [he 12 (by omega)]
    exact g12
  · obtain ⟨bs, q1, q2⟩ := gr i hi
    exact ⟨bs, q1.congr (ha _ (by omega)) (he _ (by omega)) (he _ (by omega)), q2⟩
  · rw [he 13 (by omega), ha 14 (by omega)]
    exact g13
  · obtain ⟨e14, c1, c2, c3⟩ := g14 ho
    exact ⟨by rw [he 14 (by omega)]; exact e14, c1, c2, fun j hj => by rw [ha _ (by omega)]; exact c3 j hj⟩
  · obtain ⟨f1, e1, e2, e3⟩ := gn j hj
    exact ⟨f1, by rw [he _ (by omega), ha _ (by omega)]; exact e1, by rw [he _ (by omega)]; exact e2, e3⟩
-- utf, ucp; the text; the groups, how many names were given; the result; the last code and offset
abbrev zSp : Type := (Bool × Bool) × List Nat × (sp_Src × Nat) × List Nat × Int × Int
-- room of the text, of the result, of the mark, of what the groups hold
abbrev zCp : Type := Nat × Nat × Nat × (Nat → Nat)
def zSe (E : zP) (own : Bool) (nn : Nat) (ad : Nat → Nat) (en : Nat → va_E) (S : zSp) (C : zCp) : Prop :=
  en 0 = .inr (0, [.ref (ad 1), .ref (ad 2), .ref (ad 4), .ref (ad 5), .ref (ad 6), .int (iI S.2.2.2.2.1), .int (iI S.2.2.2.2.2)]) ∧
  en 1 = .inr (2, [.int (iI (bN S.1.1))]) ∧ en 7 = .inr (3, [.int (iI ((5 * sp_many S.1.1 S.1.2 : Nat) : Int))]) ∧
  (zRw E ad en 2 65536 S.2.1 C.1 ∧ sp_capok C.1 ∧ S.2.1.length ≤ 65536) ∧ (zRw E ad en 8 262144 S.2.2.2.1 C.2.1 ∧ sp_capok C.2.1) ∧
  (∃ (m o : Nat) (fl : Bool), en 5 = .inr (6, [.ref (ad 1), .ref (ad 7), .ref (ad 8), .ref (E.2.2.1 (m + 1)), .ref (E.2.2.1 (o + 1)), .int (iI (bN fl))]) ∧ m ≤ 2 ∧ o ≤ 2) ∧
  (∃ (r1 r2 r3 : Bool) (cd off ch nx : Int), en 6 = .inr (8, [.ref (ad 2), .ref (ad 4), .ref (ad 5), .ref (ad 1), .ref (ad 10), .int (iI (bN r1)), .int (iI (bN r2)), .int (iI (bN r3)), .int (iI cd), .int (iI off)]) ∧ en 10 = .inr (7, [.ref (ad 2), .ref (ad 1), .int (iI ch), .int (iI nx)])) ∧
  zGr E own nn ad en S.1.1 S.2.2.1.1 S.2.2.1.2 C.2.2.1 C.2.2.2
def zSo (E : zP) (own : Bool) (H : Heap) : Prop := own = false → E.2.2.1 4 < E.2.2.2 ∧ True
def zSt (E : zP) (own : Bool) (nn : Nat) (ad : Nat → Nat) (en : Nat → va_E) (S : zSp) (C : zCp) (H : Heap) : Prop := zL E (zRo own nn) ad en H ∧ zSo E own H ∧ zSe E own nn ad en S C
theorem zL.no {E : zP} {R : Nat → Prop} {ad : Nat → Nat} {en : Nat → va_E} {H : Heap} (h : zL E R ad en H) (hE : E.2.2.2 ≤ H.size) {idx : List Nat} (hR : ∀ i ∈ idx, R i) {q : Nat} (hq : q < E.2.2.2) : ¬ va_A (idx.map (fun i => (ad i, en i))) H.size q := by
  rintro (⟨k, e, hk⟩ | hz)
  · obtain ⟨j, hj, e1⟩ := zroles_get hk
    have e2 : q = ad j := congrArg Prod.fst e1
    have := h.2.1 j (hR j (List.mem_of_getElem? hj))
    unfold zOld at this
    omega
  · omega
theorem zSo.lift {E : zP} {own : Bool} {R : Nat → Prop} {ad : Nat → Nat} {en : Nat → va_E} {H H1 : Heap} {idx : List Nat} (h : zSo E own H) (hL : zL E R ad en H) (hE : E.2.2.2 ≤ H.size) (hR : ∀ i ∈ idx, R i) (hk : ∀ q : Nat, q < H.size → ¬ va_A (idx.map (fun i => (ad i, en i))) H.size q → H1[q]? = H[q]?) : zSo E own H1 := by
  intro ho
  exact ⟨(h ho).1, trivial⟩
theorem zRo.lo {own : Bool} {nn i : Nat} (h1 : i < 217) (h2 : i ≠ 14) : zRo own nn i := Or.inl ⟨h1, fun e => absurd e h2⟩
theorem zbytes_nil {cap : Nat} {f : Nat → Int32} (h : cap < 2147483648) : zbytes [] cap f := ⟨Nat.zero_le _, h, (fun x hx => nomatch hx), fun j hj => absurd hj (Nat.not_lt_zero _)⟩
theorem zRo.of4 {own : Bool} {nn : Nat} {l : List Nat} (h : ∀ i ∈ l, i < 217 ∧ i ≠ 14) : ∀ i ∈ l, zRo own nn i := fun i hi => zRo.lo (h i hi).1 (h i hi).2
theorem zRo.same {own : Bool} {nn : Nat} {l : List Nat} : ∀ i, zRo own nn i → (zRo own nn i ∧ i ∉ l) ∨ i ∈ l := fun i hi => by
  by_cases q : i ∈ l
  · exact Or.inr q
  · exact Or.inl ⟨hi, q⟩
-- the text has changed, nothing else
theorem zSt.text {E : zP} {own : Bool} {nn : Nat} {ad : Nat → Nat} {en : Nat → va_E} {S : zSp} {C : zCp} {H H1 : Heap} (h : zSt E own nn ad en S C H) (hE : E.2.2.2 ≤ H.size) {b2 : List Nat} {q2 cap2 : Nat} {f2 : Nat → Int32}
    (hk : ∀ q : Nat, q < H.size → ¬ va_A [(ad 0, en 0), (ad 2, en 2), (ad 3, en 3)] H.size q → H1[q]? = H[q]?)
    (hP : va_P E.1 zcl [(ad 0, en 0), (ad 2, .inr (1, [.int (iI 65536), .ref q2, .int (iI ((b2.length : Nat) : Int))])), (q2, .inl (E.2.1 0, cap2, .inl f2))] H1)
    (hD : va_D (va_A [(ad 0, en 0), (ad 2, en 2), (ad 3, en 3)] H.size) [(ad 0, en 0), (ad 2, .inr (1, [.int (iI 65536), .ref q2, .int (iI ((b2.length : Nat) : Int))])), (q2, .inl (E.2.1 0, cap2, .inl f2))])
    (hB : zbytes b2 cap2 f2) (hF : zfit cap2 f2) (hc : sp_capok cap2) (hl : b2.length ≤ 65536) :
    zSt E own nn (zUp ad 3 q2) (zUp (zUp en 2 (.inr (1, [.int (iI 65536), .ref q2, .int (iI ((b2.length : Nat) : Int))]))) 3 (.inl (E.2.1 0, cap2, .inl f2))) (S.1, b2, S.2.2) (cap2, C.2) H1 := by
  obtain ⟨hL, hso, s0, s1, s7, ⟨st, sc, sl⟩, ⟨so, soc⟩, ⟨m, o, fl, s5, sm, sn⟩, ⟨r1, r2, r3, cd, off, ch, nx, s6, s10⟩, sg⟩ := h
  refine ⟨hL.lift (idx := [0, 2, 3]) (idx1 := [0, 2, 3]) hE ?_ hk hP hD ?_ ?_, hso.lift hL hE (idx := [0, 2, 3]) (zRo.of4 (fun i hi => by simp only [List.mem_cons, List.not_mem_nil, or_false] at hi; omega)) hk, ?_, ?_, ?_, ⟨⟨f2, ?_, ?_, hB, hF⟩, hc, hl⟩, ⟨?_, soc⟩, ⟨m, o, fl, ?_, sm, sn⟩, ⟨r1, r2, r3, cd, off, ch, nx, ?_, ?_⟩, ?_⟩
  · intro i hi
    rcases List.mem_cons.mp hi with rfl | hi
    · exact zRo.lo (by decide) (by decide)
    · rcases List.mem_cons.mp hi with rfl | hi
      · exact zRo.lo (by decide) (by decide)
      · rcases List.mem_cons.mp hi with rfl | hi
        · exact zRo.lo (by decide) (by decide)
        · cases hi
  · intro i _ hn
    have n2 : i ≠ 2 := fun e => hn (by simp [e])
    have n3 : i ≠ 3 := fun e => hn (by simp [e])
    exact ⟨zUp_ne _ _ n3, by rw [zUp_ne _ _ n3, zUp_ne _ _ n2]⟩
  · intro i hi
    by_cases q : i ∈ [0, 2, 3]
    · exact Or.inr q
    · exact Or.inl ⟨hi, q⟩
  all_goals first
    | exact s0
    | exact s1
    | exact s7
    | rfl
    | exact so.congr rfl rfl rfl
    | exact s5
    | exact s6
    | exact s10
    | exact sg.congr (fun i hi => zUp_ne _ _ (by omega)) (fun i hi => by rw [zUp_ne _ _ (by omega), zUp_ne _ _ (by omega)])
-- group n holds what the text was; the text is empty
theorem zSt.hold {E : zP} {own : Bool} {nn : Nat} {ad : Nat → Nat} {en : Nat → va_E} {S : zSp} {C : zCp} {H H1 : Heap} (h : zSt E own nn ad en S C H) (hE : E.2.2.2 ≤ H.size) {n q3 cap3 : Nat} {f3 : Nat → Int32} {cs : List Nat} (hn : n < 100) {eT : va_E} (heT : eT = .inr (1, [.int (iI 65536), .ref (ad 3), .int (iI ((([] : List Nat).length : Nat) : Int))])) {eS : va_E} (heS : eS = .inl (E.2.1 1, 100, .inl (fun j => if j = n then iI (bN true) else iI (bN (S.2.2.1.1.2.1 j).isSome)))) {eR : va_E} (heR : eR = .inr (1, [.int (iI 65536), .ref q3, .int (iI ((S.2.1.length : Nat) : Int))]))
    (hk : ∀ q : Nat, q < H.size → ¬ va_A ([0, 1, 2, 3, 4, 11, 12, 17 + 2 * n, 18 + 2 * n].map (fun i => (ad i, en i))) H.size q → H1[q]? = H[q]?)
    (hP : va_P E.1 zcl [(ad 0, en 0), (ad 1, en 1), (ad 2, eT), (ad 3, en 3), (ad 4, en 4), (ad 11, en 11), (ad 12, eS), (ad (17 + 2 * n), eR), (q3, .inl (E.2.1 0, cap3, .inl f3))] H1)
    (hD : va_D (va_A ([0, 1, 2, 3, 4, 11, 12, 17 + 2 * n, 18 + 2 * n].map (fun i => (ad i, en i))) H.size) [(ad 0, en 0), (ad 1, en 1), (ad 2, eT), (ad 3, en 3), (ad 4, en 4), (ad 11, en 11), (ad 12, eS), (ad (17 + 2 * n), eR), (q3, .inl (E.2.1 0, cap3, .inl f3))])
    (hB : zbytes S.2.1 cap3 f3) (hF : zfit cap3 f3) (hcs : S.2.1 = sp_encs S.1.1 cs) (hok : sp_oks S.1.1 cs) :
    zSt E own nn (zUp ad (18 + 2 * n) q3) (zUp (zUp (zUp (zUp en 2 eT) 12 eS) (17 + 2 * n) eR) (18 + 2 * n) (.inl (E.2.1 0, cap3, .inl f3))) (S.1, [], ((S.2.2.1.1.1, fun i => if i = n then some cs else S.2.2.1.1.2.1 i, S.2.2.1.1.2.2), S.2.2.1.2), S.2.2.2) (C.1, C.2.1, C.2.2.1, fun i => if i = n then cap3 else C.2.2.2 i) H1 := by
  obtain ⟨hL, hso, s0, s1, s7, ⟨⟨f0, t1, t2, t3, t4⟩, sc, sl⟩, ⟨so, soc⟩, ⟨m, o, fl, s5, sm, sn⟩, ⟨r1, r2, r3, cd, off, ch, nx, s6, s10⟩, ⟨g4, g11, g12, gr, gm, gmo, g99, ⟨md, cap, f, g13, g14, g14n⟩, Nc, gl, gN, gn⟩⟩ := h
  have a1 : ∀ i, i ≠ 18 + 2 * n → zUp ad (18 + 2 * n) q3 i = ad i := fun i hi => zUp_ne _ _ hi
  have e1 : ∀ i, i ≠ 2 → i ≠ 12 → i ≠ 17 + 2 * n → i ≠ 18 + 2 * n → zUp (zUp (zUp (zUp en 2 eT) 12 eS) (17 + 2 * n) eR) (18 + 2 * n) (.inl (E.2.1 0, cap3, .inl f3)) i = en i := fun i h1 h2 h3 h4 => by rw [zUp_ne _ _ h4, zUp_ne _ _ h3, zUp_ne _ _ h2, zUp_ne _ _ h1]
  have e2 : zUp (zUp (zUp (zUp en 2 eT) 12 eS) (17 + 2 * n) eR) (18 + 2 * n) (.inl (E.2.1 0, cap3, .inl f3)) 2 = eT := by rw [zUp_ne _ _ (by omega), zUp_ne _ _ (by omega), zUp_ne _ _ (by omega), zUp_at]
  have e12 : zUp (zUp (zUp (zUp en 2 eT) 12 eS) (17 + 2 * n) eR) (18 + 2 * n) (.inl (E.2.1 0, cap3, .inl f3)) 12 = eS := by rw [zUp_ne _ _ (by omega), zUp_ne _ _ (by omega), zUp_at]
  have e17 : zUp (zUp (zUp (zUp en 2 eT) 12 eS) (17 + 2 * n) eR) (18 + 2 * n) (.inl (E.2.1 0, cap3, .inl f3)) (17 + 2 * n) = eR := by rw [zUp_ne _ _ (by omega), zUp_at]
  have e18 : zUp (zUp (zUp (zUp en 2 eT) 12 eS) (17 + 2 * n) eR) (18 + 2 * n) (.inl (E.2.1 0, cap3, .inl f3)) (18 + 2 * n) = .inl (E.2.1 0, cap3, .inl f3) := zUp_at _ _ _
  generalize zUp (zUp (zUp (zUp en 2 eT) 12 eS) (17 + 2 * n) eR) (18 + 2 * n) (.inl (E.2.1 0, cap3, .inl f3)) = en' at *
  have aq : zUp ad (18 + 2 * n) q3 (18 + 2 * n) = q3 := zUp_at _ _ _
  generalize zUp ad (18 + 2 * n) q3 = ad' at *
  have hmap : [0, 1, 2, 3, 4, 11, 12, 17 + 2 * n, 18 + 2 * n].map (fun i => (ad' i, en' i)) = [(ad 0, en 0), (ad 1, en 1), (ad 2, eT), (ad 3, en 3), (ad 4, en 4), (ad 11, en 11), (ad 12, eS), (ad (17 + 2 * n), eR), (q3, .inl (E.2.1 0, cap3, .inl f3))] := by
    simp only [List.map, a1 0 (by omega), a1 1 (by omega), a1 2 (by omega), a1 3 (by omega), a1 4 (by omega), a1 11 (by omega), a1 12 (by omega), a1 (17 + 2 * n) (by omega), aq, e1 0 (by omega) (by omega) (by omega) (by omega), e1 1 (by omega) (by omega) (by omega) (by omega), e1 3 (by omega) (by omega) (by omega) (by omega), e1 4 (by omega) (by omega) (by omega) (by omega), e1 11 (by omega) (by omega) (by omega) (by omega), e2, e12, e17, e18]
  refine ⟨hL.lift (idx := [0, 1, 2, 3, 4, 11, 12, 17 + 2 * n, 18 + 2 * n]) (idx1 := [0, 1, 2, 3, 4, 11, 12, 17 + 2 * n, 18 + 2 * n]) hE ?_ hk (by rw [hmap]; exact hP) (by rw [hmap]; exact hD) ?_ zRo.same, hso.lift hL hE (idx := [0, 1, 2, 3, 4, 11, 12, 17 + 2 * n, 18 + 2 * n]) (zRo.of4 (fun i hi => by simp only [List.mem_cons, List.not_mem_nil, or_false] at hi; omega)) hk, ?_, ?_, ?_, ⟨⟨f0, ?_, ?_, ?_, t4⟩, sc, Nat.zero_le _⟩, ⟨?_, soc⟩, ⟨m, o, fl, ?_, sm, sn⟩, ⟨r1, r2, r3, cd, off, ch, nx, ?_, ?_⟩, ?_, ?_, ?_, fun i hi => ?_, ?_, gmo, g99, ⟨md, cap, f, ?_, fun ho => ?_, g14n⟩, Nc, gl, gN, fun j hj => ?_⟩
  · refine zRo.of4 (fun i hi => ?_)
    simp only [List.mem_cons, List.not_mem_nil, or_false] at hi
    omega
  · intro i _ hni
    simp only [List.mem_cons, List.not_mem_nil, or_false, not_or] at hni
    exact ⟨a1 i (by omega), e1 i (by omega) (by omega) (by omega) (by omega)⟩
  · rw [e1 0 (by omega) (by omega) (by omega) (by omega), a1 1 (by omega), a1 2 (by omega), a1 4 (by omega), a1 5 (by omega), a1 6 (by omega)]
    exact s0
  · rw [e1 1 (by omega) (by omega) (by omega) (by omega)]
    exact s1
  · rw [e1 7 (by omega) (by omega) (by omega) (by omega)]
    exact s7
  · rw [e2, a1 3 (by omega)]
    exact heT
  · rw [e1 3 (by omega) (by omega) (by omega) (by omega)]
    exact t2
  · exact zbytes_nil t3.2.1
  · exact so.congr (a1 9 (by omega)) (e1 8 (by omega) (by omega) (by omega) (by omega)) (e1 9 (by omega) (by omega) (by omega) (by omega))
  · rw [e1 5 (by omega) (by omega) (by omega) (by omega), a1 1 (by omega), a1 7 (by omega), a1 8 (by omega)]
    exact s5
  · rw [e1 6 (by omega) (by omega) (by omega) (by omega), a1 1 (by omega), a1 2 (by omega), a1 4 (by omega), a1 5 (by omega), a1 10 (by omega)]
    exact s6
  · rw [e1 10 (by omega) (by omega) (by omega) (by omega), a1 1 (by omega), a1 2 (by omega)]
    exact s10
  · rw [e1 4 (by omega) (by omega) (by omega) (by omega), a1 11 (by omega), a1 12 (by omega), a1 13 (by omega), a1 15 (by omega)]
    exact g4
  · rw [e1 11 (by omega) (by omega) (by omega) (by omega), g11, zTa_congr (fun i _ => a1 _ (by omega))]
  · rw [e12, heS]
    have : (fun j => if j = n then iI (bN true) else iI (bN (S.2.2.1.1.2.1 j).isSome)) = fun i => iI (bN (if i = n then some cs else S.2.2.1.1.2.1 i).isSome) := by
      funext j
      by_cases q : j = n
      · rw [if_pos q, if_pos q]; rfl
      · rw [if_neg q, if_neg q]
    rw [this]
  · by_cases q : i = n
    · subst q
      refine ⟨S.2.1, ⟨f3, ?_, ?_, ?_, ?_⟩, fun cs' hc => ?_⟩
      · rw [e17, heR, show 17 + 2 * i + 1 = 18 + 2 * i by omega, aq]
      · rw [show 17 + 2 * i + 1 = 18 + 2 * i by omega, e18]
        simp
      · simpa using hB
      · simpa using hF
      · have hc' : (if i = i then some cs else S.2.2.1.1.2.1 i) = some cs' := hc
        rw [if_pos rfl] at hc'
        cases hc'
        exact ⟨hcs, hok⟩
    · obtain ⟨bs, q1, q2⟩ := gr i hi
      refine ⟨bs, ?_, fun cs' hc => q2 cs' ?_⟩
      · have := q1.congr (ad' := ad') (en' := en') (a1 _ (by omega)) (e1 _ (by omega) (by omega) (by omega) (by omega)) (e1 _ (by omega) (by omega) (by omega) (by omega))
        show zRw E ad' en' (17 + 2 * i) 65536 bs (if i = n then cap3 else C.2.2.2 i)
        rw [if_neg q]
        exact this
      · have hc' : (if i = n then some cs else S.2.2.1.1.2.1 i) = some cs' := hc
        rw [if_neg q] at hc'
        exact hc'
  · exact gm.congr (a1 16 (by omega)) (e1 15 (by omega) (by omega) (by omega) (by omega)) (e1 16 (by omega) (by omega) (by omega) (by omega))
  · rw [e1 13 (by omega) (by omega) (by omega) (by omega), a1 14 (by omega)]
    exact g13
  · obtain ⟨e14, c1, c2, c3⟩ := g14 ho
    exact ⟨by rw [e1 14 (by omega) (by omega) (by omega) (by omega)]; exact e14, c1, c2, fun j hj => by rw [a1 _ (by omega)]; exact c3 j hj⟩
  · obtain ⟨f1, e1', e2', e3'⟩ := gn j hj
    exact ⟨f1, by rw [e1 _ (by omega) (by omega) (by omega) (by omega), a1 _ (by omega)]; exact e1', by rw [e1 _ (by omega) (by omega) (by omega) (by omega)]; exact e2', e3'⟩
-- the mark is what the text was; the text is empty
theorem zSt.mark {E : zP} {own : Bool} {nn : Nat} {ad : Nat → Nat} {en : Nat → va_E} {S : zSp} {C : zCp} {H H1 : Heap} (h : zSt E own nn ad en S C H) (hE : E.2.2.2 ≤ H.size) {q3 cap3 : Nat} {f3 : Nat → Int32} {cs : List Nat} {eT : va_E} (heT : eT = .inr (1, [.int (iI 65536), .ref (ad 3), .int (iI ((([] : List Nat).length : Nat) : Int))])) {eR : va_E} (heR : eR = .inr (1, [.int (iI 65536), .ref q3, .int (iI ((S.2.1.length : Nat) : Int))]))
    (hk : ∀ q : Nat, q < H.size → ¬ va_A ([0, 1, 2, 3, 4, 15, 16].map (fun i => (ad i, en i))) H.size q → H1[q]? = H[q]?)
    (hP : va_P E.1 zcl [(ad 0, en 0), (ad 1, en 1), (ad 2, eT), (ad 3, en 3), (ad 4, en 4), (ad 15, eR), (q3, .inl (E.2.1 0, cap3, .inl f3))] H1)
    (hD : va_D (va_A ([0, 1, 2, 3, 4, 15, 16].map (fun i => (ad i, en i))) H.size) [(ad 0, en 0), (ad 1, en 1), (ad 2, eT), (ad 3, en 3), (ad 4, en 4), (ad 15, eR), (q3, .inl (E.2.1 0, cap3, .inl f3))])
    (hB : zbytes S.2.1 cap3 f3) (hF : zfit cap3 f3) (hcs : S.2.1 = sp_encs S.1.1 cs) (hok : sp_oks S.1.1 cs) :
    zSt E own nn (zUp ad 16 q3) (zUp (zUp (zUp en 2 eT) 15 eR) 16 (.inl (E.2.1 0, cap3, .inl f3))) (S.1, [], ((S.2.2.1.1.1, S.2.2.1.1.2.1, S.2.2.1.1.2.2.1, cs), S.2.2.1.2), S.2.2.2) (C.1, C.2.1, cap3, C.2.2.2) H1 := by
  obtain ⟨hL, hso, s0, s1, s7, ⟨⟨f0, t1, t2, t3, t4⟩, sc, sl⟩, ⟨so, soc⟩, ⟨m, o, fl, s5, sm, sn⟩, ⟨r1, r2, r3, cd, off, ch, nx, s6, s10⟩, ⟨g4, g11, g12, gr, gm, gmo, g99, ⟨md, cap, f, g13, g14, g14n⟩, Nc, gl, gN, gn⟩⟩ := h
  have a1 : ∀ i, i ≠ 16 → zUp ad 16 q3 i = ad i := fun i hi => zUp_ne _ _ hi
  have e1 : ∀ i, i ≠ 2 → i ≠ 15 → i ≠ 16 → zUp (zUp (zUp en 2 eT) 15 eR) 16 (.inl (E.2.1 0, cap3, .inl f3)) i = en i := fun i h1 h2 h3 => by rw [zUp_ne _ _ h3, zUp_ne _ _ h2, zUp_ne _ _ h1]
  have e2 : zUp (zUp (zUp en 2 eT) 15 eR) 16 (.inl (E.2.1 0, cap3, .inl f3)) 2 = eT := rfl
  have e15 : zUp (zUp (zUp en 2 eT) 15 eR) 16 (.inl (E.2.1 0, cap3, .inl f3)) 15 = eR := rfl
  have e16 : zUp (zUp (zUp en 2 eT) 15 eR) 16 (.inl (E.2.1 0, cap3, .inl f3)) 16 = .inl (E.2.1 0, cap3, .inl f3) := rfl
  generalize zUp (zUp (zUp en 2 eT) 15 eR) 16 (.inl (E.2.1 0, cap3, .inl f3)) = en' at *
  have aq : zUp ad 16 q3 16 = q3 := rfl
  generalize zUp ad 16 q3 = ad' at *
  have hmap : [0, 1, 2, 3, 4, 15, 16].map (fun i => (ad' i, en' i)) = [(ad 0, en 0), (ad 1, en 1), (ad 2, eT), (ad 3, en 3), (ad 4, en 4), (ad 15, eR), (q3, .inl (E.2.1 0, cap3, .inl f3))] := by
    simp only [List.map, a1 0 (by omega), a1 1 (by omega), a1 2 (by omega), a1 3 (by omega), a1 4 (by omega), a1 15 (by omega), aq, e1 0 (by omega) (by omega) (by omega), e1 1 (by omega) (by omega) (by omega), e1 3 (by omega) (by omega) (by omega), e1 4 (by omega) (by omega) (by omega), e2, e15, e16]
  refine ⟨hL.lift (idx := [0, 1, 2, 3, 4, 15, 16]) (idx1 := [0, 1, 2, 3, 4, 15, 16]) hE ?_ hk (by rw [hmap]; exact hP) (by rw [hmap]; exact hD) ?_ zRo.same, hso.lift hL hE (idx := [0, 1, 2, 3, 4, 15, 16]) (zRo.of4 (fun i hi => by simp only [List.mem_cons, List.not_mem_nil, or_false] at hi; omega)) hk, ?_, ?_, ?_, ⟨⟨f0, ?_, ?_, zbytes_nil t3.2.1, t4⟩, sc, Nat.zero_le _⟩, ⟨?_, soc⟩, ⟨m, o, fl, ?_, sm, sn⟩, ⟨r1, r2, r3, cd, off, ch, nx, ?_, ?_⟩, ?_, ?_, ?_, fun i hi => ?_, ⟨f3, ?_, ?_, ?_, hF⟩, hok, g99, ⟨md, cap, f, ?_, fun ho => ?_, g14n⟩, Nc, gl, gN, fun j hj => ?_⟩
  · refine zRo.of4 (fun i hi => ?_)
    simp only [List.mem_cons, List.not_mem_nil, or_false] at hi
    omega
  · intro i _ hni
    simp only [List.mem_cons, List.not_mem_nil, or_false, not_or] at hni
    exact ⟨a1 i (by omega), e1 i (by omega) (by omega) (by omega)⟩
  · rw [e1 0 (by omega) (by omega) (by omega), a1 1 (by omega), a1 2 (by omega), a1 4 (by omega), a1 5 (by omega), a1 6 (by omega)]
    exact s0
  · rw [e1 1 (by omega) (by omega) (by omega)]
    exact s1
  · rw [e1 7 (by omega) (by omega) (by omega)]
    exact s7
  · rw [e2, a1 3 (by omega)]
    exact heT
  · rw [e1 3 (by omega) (by omega) (by omega)]
    exact t2
  · exact so.congr (a1 9 (by omega)) (e1 8 (by omega) (by omega) (by omega)) (e1 9 (by omega) (by omega) (by omega))
  · rw [e1 5 (by omega) (by omega) (by omega), a1 1 (by omega), a1 7 (by omega), a1 8 (by omega)]
    exact s5
  · rw [e1 6 (by omega) (by omega) (by omega), a1 1 (by omega), a1 2 (by omega), a1 4 (by omega), a1 5 (by omega), a1 10 (by omega)]
    exact s6
  · rw [e1 10 (by omega) (by omega) (by omega), a1 1 (by omega), a1 2 (by omega)]
    exact s10
  · rw [e1 4 (by omega) (by omega) (by omega), a1 11 (by omega), a1 12 (by omega), a1 13 (by omega), a1 15 (by omega)]
    exact g4
  · rw [e1 11 (by omega) (by omega) (by omega), g11, zTa_congr (fun i _ => a1 _ (by omega))]
  · rw [e1 12 (by omega) (by omega) (by omega)]
    exact g12
  · obtain ⟨bs, q1, q2⟩ := gr i hi
    exact ⟨bs, q1.congr (a1 _ (by omega)) (e1 _ (by omega) (by omega) (by omega)) (e1 _ (by omega) (by omega) (by omega)), q2⟩
  · rw [e15, heR, aq, hcs]
  · exact e16
  · rw [← hcs]
    exact hB
  · rw [e1 13 (by omega) (by omega) (by omega), a1 14 (by omega)]
    exact g13
  · obtain ⟨e14, c1, c2, c3⟩ := g14 ho
    exact ⟨by rw [e1 14 (by omega) (by omega) (by omega)]; exact e14, c1, c2, fun j hj => by rw [a1 _ (by omega)]; exact c3 j hj⟩
  · obtain ⟨f1, e1', e2', e3'⟩ := gn j hj
    exact ⟨f1, by rw [e1 _ (by omega) (by omega) (by omega), a1 _ (by omega)]; exact e1', by rw [e1 _ (by omega) (by omega) (by omega)]; exact e2', e3'⟩
-- group n is let go
theorem zSt.unset {E : zP} {own : Bool} {nn : Nat} {ad : Nat → Nat} {en : Nat → va_E} {S : zSp} {C : zCp} {H H1 : Heap} (h : zSt E own nn ad en S C H) (hE : E.2.2.2 ≤ H.size) {n : Nat} {eS : va_E} (heS : eS = .inl (E.2.1 1, 100, .inl (fun j => if j = n then iI (bN false) else iI (bN (S.2.2.1.1.2.1 j).isSome))))
    (hk : ∀ q : Nat, q < H.size → ¬ va_A ([0, 4, 12].map (fun i => (ad i, en i))) H.size q → H1[q]? = H[q]?) (hP : va_P E.1 zcl [(ad 0, en 0), (ad 4, en 4), (ad 12, eS)] H1) (hD : va_D (va_A ([0, 4, 12].map (fun i => (ad i, en i))) H.size) [(ad 0, en 0), (ad 4, en 4), (ad 12, eS)]) :
    zSt E own nn ad (zUp en 12 eS) (S.1, S.2.1, ((S.2.2.1.1.1, fun i => if i = n then none else S.2.2.1.1.2.1 i, S.2.2.1.1.2.2), S.2.2.1.2), S.2.2.2) C H1 := by
  obtain ⟨hL, hso, s0, s1, s7, st, so, s5, s6, ⟨g4, g11, g12, gr, gm, gmo, g99, gl, gN⟩⟩ := h
  refine ⟨hL.lift (idx := [0, 4, 12]) (idx1 := [0, 4, 12]) hE ?_ hk hP hD ?_ zRo.same, hso.lift hL hE (idx := [0, 4, 12]) (zRo.of4 (fun i hi => by simp only [List.mem_cons, List.not_mem_nil, or_false] at hi; omega)) hk, s0, s1, s7, st, so, s5, s6, g4, g11, ?_, fun i hi => ?_, gm, gmo, g99, gl, ?_⟩
  · refine zRo.of4 (fun i hi => ?_)
    simp only [List.mem_cons, List.not_mem_nil, or_false] at hi
    omega
  · intro i _ hni
    simp only [List.mem_cons, List.not_mem_nil, or_false, not_or] at hni
    exact ⟨rfl, zUp_ne _ _ (by omega)⟩
  · show eS = _
    rw [heS]
    have : (fun j => if j = n then iI (bN false) else iI (bN (S.2.2.1.1.2.1 j).isSome)) = fun i => iI (bN (if i = n then none else S.2.2.1.1.2.1 i).isSome) := by
      funext j
      by_cases q : j = n
      · rw [if_pos q, if_pos q]; rfl
      · rw [if_neg q, if_neg q]
    rw [this]
  · obtain ⟨bs, q1, q2⟩ := gr i hi
    refine ⟨bs, q1.congr rfl (zUp_ne _ _ (by omega)) (zUp_ne _ _ (by omega)), fun cs hc => q2 cs ?_⟩
    have hc' : (if i = n then none else S.2.2.1.1.2.1 i) = some cs := hc
    by_cases q : i = n
    · rw [if_pos q] at hc'; cases hc'
    · rw [if_neg q] at hc'; exact hc'
  · obtain ⟨Nc, a, b, gn⟩ := gN
    refine ⟨Nc, a, b, fun j hj => ?_⟩
    obtain ⟨f1, e1', e2', e3'⟩ := gn j hj
    exact ⟨f1, by rw [zUp_ne _ _ (by omega)]; exact e1', by rw [zUp_ne _ _ (by omega)]; exact e2', e3'⟩
theorem zat_congr {D : va_G} {cl : List vw_C} {a n : Nat} {cA : ClassId} {f g : Nat → Int32} {H : Heap} (h : va_at D cl (a, .inl (cA, n, .inl f)) H) (he : ∀ j, j < n → f j = g j) : va_at D cl (a, .inl (cA, n, .inl g)) H := by
  have e : vp_cell cA (n, .inl f) = vp_cell cA (n, .inl g) := by
    rw [vp_cell_i, vp_cell_i]
    unfold arrV
    congr 1
    apply Array.ext
    · simp
    · intro i h1 h2
      simp at h1
      simp [he i h1]
  show H[a]? = some (vp_cell cA (n, .inl g))
  rw [← e]
  exact h
-- the groups anew
theorem zSt.groups {E : zP} {own : Bool} {nn : Nat} {ad : Nat → Nat} {en : Nat → va_E} {S : zSp} {C : zCp} {H H1 : Heap} (h : zSt E own nn ad en S C H) (hE : E.2.2.2 ≤ H.size) {n : Nat} (hn : n ≤ 99) {ext : List Nat} {md : Int} {eG eS eA eM e14 : va_E} (hext : (ext = [] ∧ e14 = en 14) ∨ (ext = [14] ∧ own = true ∧ ∃ (cap : Nat) (f : Nat → Option Nat), e14 = .inl (E.2.1 5, cap, .inr (.inr (.inr (.inr f)))) ∧ cap < 2147483648))
    (heG : eG = .inr (5, [.ref (ad 11), .ref (ad 12), .ref (ad 13), .ref (ad 15), .int (iI ((n : Nat) : Int)), .int (iI ((0 : Nat) : Int))])) (heS : eS = .inl (E.2.1 1, 100, .inl (fun _ => iI (bN false)))) (heA : eA = .inr (9, [.ref (if own then ad 14 else E.2.2.1 4), .int (iI ((0 : Nat) : Int)), .int (iI md)])) (heM : eM = .inr (1, [.int (iI 65536), .ref (ad 16), .int (iI ((([] : List Nat).length : Nat) : Int))]))
    (hk : ∀ q : Nat, q < H.size → ¬ va_A (([0, 4, 12, 13, 15] ++ ext).map (fun i => (ad i, en i))) H.size q → H1[q]? = H[q]?) (hP : va_P E.1 zcl ([(ad 0, en 0), (ad 4, eG), (ad 12, eS), (ad 13, eA), (ad 15, eM)] ++ ext.map (fun i => (ad i, e14))) H1) (hD : va_D (va_A (([0, 4, 12, 13, 15] ++ ext).map (fun i => (ad i, en i))) H.size) ([(ad 0, en 0), (ad 4, eG), (ad 12, eS), (ad 13, eA), (ad 15, eM)] ++ ext.map (fun i => (ad i, e14)))) :
    zSt E own 0 ad (zUp (zUp (zUp (zUp (zUp en 4 eG) 12 eS) 13 eA) 15 eM) 14 e14) (S.1, S.2.1, ((n, fun _ => none, [], []), 0), S.2.2.2) C H1 := by
  obtain ⟨hL, hso, s0, s1, s7, st, so, s5, s6, ⟨g4, g11, g12, gr, ⟨fm, m1, m2, m3, m4⟩, gmo, g99, ⟨md0, cap, f, g13, g14, g14n⟩, gN⟩⟩ := h
  have e1 : ∀ i, i ≠ 4 → i ≠ 12 → i ≠ 13 → i ≠ 15 → i ≠ 14 → zUp (zUp (zUp (zUp (zUp en 4 eG) 12 eS) 13 eA) 15 eM) 14 e14 i = en i := fun i h1 h2 h3 h4 h5 => by rw [zUp_ne _ _ h5, zUp_ne _ _ h4, zUp_ne _ _ h3, zUp_ne _ _ h2, zUp_ne _ _ h1]
  have hext14 : ∀ i, i ∉ ext → i = 14 → e14 = en 14 := by
    intro i hi e
    subst e
    rcases hext with ⟨_, h2⟩ | ⟨h1, _⟩
    · exact h2
    · exact absurd (by rw [h1]; simp) hi
  have hsub : ∀ i, i ∈ ext → i = 14 ∧ own = true := by
    intro i hi
    rcases hext with ⟨h1, _⟩ | ⟨h1, h2, _⟩
    · rw [h1] at hi; cases hi
    · rw [h1] at hi
      exact ⟨List.mem_singleton.mp hi, h2⟩
  have hmap : ([0, 4, 12, 13, 15] ++ ext).map (fun i => (ad i, zUp (zUp (zUp (zUp (zUp en 4 eG) 12 eS) 13 eA) 15 eM) 14 e14 i)) = [(ad 0, en 0), (ad 4, eG), (ad 12, eS), (ad 13, eA), (ad 15, eM)] ++ ext.map (fun i => (ad i, e14)) := by
    rw [List.map_append]
    congr 1
    apply List.map_congr_left
    intro i hi
    rw [(hsub i hi).1]
    rfl
  have hR9 : ∀ i ∈ [0, 4, 12, 13, 15] ++ ext, zRo own nn i := (fun i hi => by
    rcases List.mem_append.mp hi with hi | hi
    · exact zRo.of4 (l := [0, 4, 12, 13, 15]) (fun i hi => by simp only [List.mem_cons, List.not_mem_nil, or_false] at hi; omega) i hi
    · obtain ⟨e, o⟩ := hsub i hi
      exact Or.inl ⟨by omega, fun _ => o⟩)
  refine ⟨hL.lift (idx := [0, 4, 12, 13, 15] ++ ext) (idx1 := [0, 4, 12, 13, 15] ++ ext) hE ?_ hk (by rw [hmap]; exact hP) (by rw [hmap]; exact hD) ?_ ?_, hso.lift hL hE (idx := [0, 4, 12, 13, 15] ++ ext) hR9 hk, s0, s1, s7, st, so, s5, s6, heG, g11, heS, fun i hi => ?_, ⟨fm, heM, m2, zbytes_nil m3.2.1, m4⟩, fun c hc => (nomatch hc), hn, ?_, [], rfl, fun x => Iff.rfl, fun j hj => absurd hj (Nat.not_lt_zero _)⟩
  · intro i hi
    rcases List.mem_append.mp hi with hi | hi
    · exact zRo.of4 (l := [0, 4, 12, 13, 15]) (fun i hi => by simp only [List.mem_cons, List.not_mem_nil, or_false] at hi; omega) i hi
    · obtain ⟨e, o⟩ := hsub i hi
      exact Or.inl ⟨by omega, fun _ => o⟩
  · intro i _ hni
    have h9 : i ∉ [0, 4, 12, 13, 15] ∧ i ∉ ext := ⟨fun z => hni (List.mem_append_left _ z), fun z => hni (List.mem_append_right _ z)⟩
    have h8 := h9.1
    simp only [List.mem_cons, List.not_mem_nil, or_false, not_or] at h8
    refine ⟨rfl, ?_⟩
    by_cases q : i = 14
    · subst q
      rw [zUp_at]
      exact hext14 14 h9.2 rfl
    · exact e1 i (by omega) (by omega) (by omega) (by omega) q
  · intro i hi
    by_cases q : i ∈ [0, 4, 12, 13, 15] ++ ext
    · exact Or.inr q
    · refine Or.inl ⟨?_, q⟩
      rcases hi with hi | hi
      · exact Or.inl hi
      · omega
  · obtain ⟨bs, q1, q2⟩ := gr i hi
    exact ⟨bs, q1.congr rfl (e1 _ (by omega) (by omega) (by omega) (by omega) (by omega)) (e1 _ (by omega) (by omega) (by omega) (by omega) (by omega)), fun cs hc => nomatch hc⟩
  · rcases hext with ⟨h1, h2⟩ | ⟨h1, h2, cap', f', h3, h4⟩
    · refine ⟨md, cap, f, heA, fun ho => ?_, fun _ => rfl⟩
      obtain ⟨e14', c1, c2, c3⟩ := g14 ho
      exact ⟨by rw [zUp_at, h2]; exact e14', Nat.zero_le _, c2, fun j hj => absurd hj (Nat.not_lt_zero _)⟩
    · exact ⟨md, cap', f', heA, fun ho => ⟨by rw [zUp_at]; exact h3, Nat.zero_le _, h4, fun j hj => absurd hj (Nat.not_lt_zero _)⟩, fun _ => rfl⟩
-- a name that the group bore already; the text is empty
theorem zSt.name0 {E : zP} {own : Bool} {nn : Nat} {ad : Nat → Nat} {en : Nat → va_E} {S : zSp} {C : zCp} {H H1 : Heap} (h : zSt E own nn ad en S C H) (hE : E.2.2.2 ≤ H.size) {w : List Nat} {k : Nat} (hwk : (w, k) ∈ S.2.2.1.1.2.2.1) {eT eG : va_E} (heT : eT = .inr (1, [.int (iI 65536), .ref (ad 3), .int (iI ((([] : List Nat).length : Nat) : Int))])) (heG : eG = .inr (5, [.ref (ad 11), .ref (ad 12), .ref (ad 13), .ref (ad 15), .int (iI ((S.2.2.1.1.1 : Nat) : Int)), .int (iI ((S.2.2.1.2 + 1 : Nat) : Int))]))
    (hk : ∀ q : Nat, q < H.size → ¬ va_A ([0, 2, 3, 4].map (fun i => (ad i, en i))) H.size q → H1[q]? = H[q]?) (hP : va_P E.1 zcl [(ad 0, en 0), (ad 2, eT), (ad 3, en 3), (ad 4, eG)] H1) (hD : va_D (va_A ([0, 2, 3, 4].map (fun i => (ad i, en i))) H.size) [(ad 0, en 0), (ad 2, eT), (ad 3, en 3), (ad 4, eG)]) :
    zSt E own nn ad (zUp (zUp en 2 eT) 4 eG) (S.1, [], ((S.2.2.1.1.1, S.2.2.1.1.2.1, S.2.2.1.1.2.2.1 ++ [(w, k)], S.2.2.1.1.2.2.2), S.2.2.1.2 + 1), S.2.2.2) C H1 := by
  obtain ⟨hL, hso, s0, s1, s7, ⟨⟨f0, t1, t2, t3, t4⟩, sc, sl⟩, so, s5, s6, ⟨g4, g11, g12, gr, gm, gmo, g99, gl, Nc, n1, n2, n3⟩⟩ := h
  have e1 : ∀ i, i ≠ 2 → i ≠ 4 → zUp (zUp en 2 eT) 4 eG i = en i := fun i h1 h2 => by rw [zUp_ne _ _ h2, zUp_ne _ _ h1]
  refine ⟨hL.lift (idx := [0, 2, 3, 4]) (idx1 := [0, 2, 3, 4]) hE ?_ hk hP hD ?_ zRo.same, hso.lift hL hE (idx := [0, 2, 3, 4]) (zRo.of4 (fun i hi => by simp only [List.mem_cons, List.not_mem_nil, or_false] at hi; omega)) hk, s0, s1, s7, ⟨⟨f0, heT, t2, zbytes_nil t3.2.1, t4⟩, sc, Nat.zero_le _⟩, so, s5, s6, heG, g11, g12, fun i hi => ?_, gm, gmo, g99, gl, Nc, n1, fun x => ?_, fun j hj => ?_⟩
  · refine zRo.of4 (fun i hi => ?_)
    simp only [List.mem_cons, List.not_mem_nil, or_false] at hi
    omega
  · intro i _ hni
    simp only [List.mem_cons, List.not_mem_nil, or_false, not_or] at hni
    exact ⟨rfl, e1 i (by omega) (by omega)⟩
  · obtain ⟨bs, q1, q2⟩ := gr i hi
    exact ⟨bs, q1.congr rfl (e1 _ (by omega) (by omega)) (e1 _ (by omega) (by omega)), q2⟩
  · rw [n2 x]
    constructor
    · exact fun z => List.mem_append_left _ z
    · intro z
      rcases List.mem_append.mp z with z | z
      · exact z
      · rw [List.mem_singleton.mp z]; exact hwk
  · obtain ⟨f1, e1', e2', e3'⟩ := n3 j hj
    exact ⟨f1, by rw [e1 _ (by omega) (by omega)]; exact e1', by rw [e1 _ (by omega) (by omega)]; exact e2', e3'⟩
-- a new name; the text is empty
theorem zSt.name1 {E : zP} {own : Bool} {nn : Nat} {ad : Nat → Nat} {en : Nat → va_E} {S : zSp} {C : zCp} {H H1 : Heap} (h : zSt E own nn ad en S C H) (hE : E.2.2.2 ≤ H.size) {w : List Nat} {k ea qn ql cap2 : Nat} {md : Int} {f2 : Nat → Option Nat} {fl : Nat → Int32} {ext : List Nat} (hext : (ext = [] ∧ own = false) ∨ (ext = [14] ∧ own = true)) (hk99 : k ≤ 99) (hw : ∀ x ∈ w, x < 128) (hw32 : w.length ≤ 32) (hfl : ∀ j, j < w.length → fl j = sb_b (w.getD j 0)) (hcap : nn + 1 ≤ cap2) (hcap2 : cap2 < 2147483648) (hf2 : ∀ j, j < nn → f2 j = some (ad (217 + 2 * j))) (hf2n : f2 nn = some qn)
    {eT eG eA e14 eN eL : va_E} (heT : eT = .inr (1, [.int (iI 65536), .ref (ad 3), .int (iI ((([] : List Nat).length : Nat) : Int))])) (heG : eG = .inr (5, [.ref (ad 11), .ref (ad 12), .ref (ad 13), .ref (ad 15), .int (iI ((S.2.2.1.1.1 : Nat) : Int)), .int (iI ((S.2.2.1.2 + 1 : Nat) : Int))])) (heA : eA = .inr (9, [.ref ea, .int (iI ((nn + 1 : Nat) : Int)), .int (iI md)])) (he14 : e14 = .inl (E.2.1 5, cap2, .inr (.inr (.inr (.inr f2))))) (heN : eN = .inr (4, [.ref ql, .int (iI ((k : Nat) : Int))])) (heL : eL = .inl (E.2.1 0, w.length, .inl fl))
    (hk : ∀ q : Nat, q < H.size → ¬ va_A (([0, 2, 3, 4, 13] ++ ext).map (fun i => (ad i, en i))) H.size q → H1[q]? = H[q]?) (hP : va_P E.1 zcl [(ad 0, en 0), (ad 2, eT), (ad 3, en 3), (ad 4, eG), (ad 13, eA), (ea, e14), (qn, eN), (ql, eL)] H1) (hD : va_D (va_A (([0, 2, 3, 4, 13] ++ ext).map (fun i => (ad i, en i))) H.size) [(ad 0, en 0), (ad 2, eT), (ad 3, en 3), (ad 4, eG), (ad 13, eA), (ea, e14), (qn, eN), (ql, eL)]) :
    zSt E true (nn + 1) (zUp (zUp (zUp ad 14 ea) (217 + 2 * nn) qn) (218 + 2 * nn) ql) (zUp (zUp (zUp (zUp (zUp (zUp en 2 eT) 4 eG) 13 eA) 14 e14) (217 + 2 * nn) eN) (218 + 2 * nn) eL) (S.1, [], ((S.2.2.1.1.1, S.2.2.1.1.2.1, S.2.2.1.1.2.2.1 ++ [(w, k)], S.2.2.1.1.2.2.2), S.2.2.1.2 + 1), S.2.2.2) C H1 := by
  obtain ⟨hL, hso, s0, s1, s7, ⟨⟨f0, t1, t2, t3, t4⟩, sc, sl⟩, ⟨so, soc⟩, ⟨m, o, flg, s5, sm, sn⟩, ⟨r1, r2, r3, cd, off, ch, nx, s6, s10⟩, ⟨g4, g11, g12, gr, gm, gmo, g99, gl, Nc, n1, n2, n3⟩⟩ := h
  have a1 : ∀ i, i ≠ 14 → i ≠ 217 + 2 * nn → i ≠ 218 + 2 * nn → zUp (zUp (zUp ad 14 ea) (217 + 2 * nn) qn) (218 + 2 * nn) ql i = ad i := fun i h1 h2 h3 => by rw [zUp_ne _ _ h3, zUp_ne _ _ h2, zUp_ne _ _ h1]
  have a14 : zUp (zUp (zUp ad 14 ea) (217 + 2 * nn) qn) (218 + 2 * nn) ql 14 = ea := by rw [zUp_ne _ _ (by omega), zUp_ne _ _ (by omega), zUp_at]
  have aN : zUp (zUp (zUp ad 14 ea) (217 + 2 * nn) qn) (218 + 2 * nn) ql (217 + 2 * nn) = qn := by rw [zUp_ne _ _ (by omega), zUp_at]
  have aL : zUp (zUp (zUp ad 14 ea) (217 + 2 * nn) qn) (218 + 2 * nn) ql (218 + 2 * nn) = ql := zUp_at _ _ _
  generalize zUp (zUp (zUp ad 14 ea) (217 + 2 * nn) qn) (218 + 2 * nn) ql = ad' at *
  have e1 : ∀ i, i ≠ 2 → i ≠ 4 → i ≠ 13 → i ≠ 14 → i ≠ 217 + 2 * nn → i ≠ 218 + 2 * nn → zUp (zUp (zUp (zUp (zUp (zUp en 2 eT) 4 eG) 13 eA) 14 e14) (217 + 2 * nn) eN) (218 + 2 * nn) eL i = en i := fun i h1 h2 h3 h4 h5 h6 => by rw [zUp_ne _ _ h6, zUp_ne _ _ h5, zUp_ne _ _ h4, zUp_ne _ _ h3, zUp_ne _ _ h2, zUp_ne _ _ h1]
  have e2 : zUp (zUp (zUp (zUp (zUp (zUp en 2 eT) 4 eG) 13 eA) 14 e14) (217 + 2 * nn) eN) (218 + 2 * nn) eL 2 = eT := by rw [zUp_ne _ _ (by omega), zUp_ne _ _ (by omega)]; rfl
  have e4 : zUp (zUp (zUp (zUp (zUp (zUp en 2 eT) 4 eG) 13 eA) 14 e14) (217 + 2 * nn) eN) (218 + 2 * nn) eL 4 = eG := by rw [zUp_ne _ _ (by omega), zUp_ne _ _ (by omega)]; rfl
  have e13 : zUp (zUp (zUp (zUp (zUp (zUp en 2 eT) 4 eG) 13 eA) 14 e14) (217 + 2 * nn) eN) (218 + 2 * nn) eL 13 = eA := by rw [zUp_ne _ _ (by omega), zUp_ne _ _ (by omega)]; rfl
  have e14' : zUp (zUp (zUp (zUp (zUp (zUp en 2 eT) 4 eG) 13 eA) 14 e14) (217 + 2 * nn) eN) (218 + 2 * nn) eL 14 = e14 := by rw [zUp_ne _ _ (by omega), zUp_ne _ _ (by omega)]; rfl
  have eN' : zUp (zUp (zUp (zUp (zUp (zUp en 2 eT) 4 eG) 13 eA) 14 e14) (217 + 2 * nn) eN) (218 + 2 * nn) eL (217 + 2 * nn) = eN := by rw [zUp_ne _ _ (by omega), zUp_at]
  have eL' : zUp (zUp (zUp (zUp (zUp (zUp en 2 eT) 4 eG) 13 eA) 14 e14) (217 + 2 * nn) eN) (218 + 2 * nn) eL (218 + 2 * nn) = eL := zUp_at _ _ _
  generalize zUp (zUp (zUp (zUp (zUp (zUp en 2 eT) 4 eG) 13 eA) 14 e14) (217 + 2 * nn) eN) (218 + 2 * nn) eL = en' at *
  have hmap : [0, 2, 3, 4, 13, 14, 217 + 2 * nn, 218 + 2 * nn].map (fun i => (ad' i, en' i)) = [(ad 0, en 0), (ad 2, eT), (ad 3, en 3), (ad 4, eG), (ad 13, eA), (ea, e14), (qn, eN), (ql, eL)] := by
    simp only [List.map, a1 0 (by omega) (by omega) (by omega), a1 2 (by omega) (by omega) (by omega), a1 3 (by omega) (by omega) (by omega), a1 4 (by omega) (by omega) (by omega), a1 13 (by omega) (by omega) (by omega), a14, aN, aL, e1 0 (by omega) (by omega) (by omega) (by omega) (by omega) (by omega), e1 3 (by omega) (by omega) (by omega) (by omega) (by omega) (by omega), e2, e4, e13, e14', eN', eL']
  have hsub : ∀ i, i ∈ ext → i = 14 ∧ own = true := by
    intro i hi
    rcases hext with ⟨h1, _⟩ | ⟨h1, h2⟩
    · rw [h1] at hi; cases hi
    · rw [h1] at hi
      exact ⟨List.mem_singleton.mp hi, h2⟩
  refine ⟨hL.lift (idx := [0, 2, 3, 4, 13] ++ ext) (idx1 := [0, 2, 3, 4, 13, 14, 217 + 2 * nn, 218 + 2 * nn]) hE ?_ hk (by rw [hmap]; exact hP) (by rw [hmap]; exact hD) ?_ ?_, (fun z => nomatch z), ?_, ?_, ?_, ⟨⟨f0, ?_, ?_, zbytes_nil t3.2.1, t4⟩, sc, Nat.zero_le _⟩, ⟨?_, soc⟩, ⟨m, o, flg, ?_, sm, sn⟩, ⟨r1, r2, r3, cd, off, ch, nx, ?_, ?_⟩, ?_, ?_, ?_, fun i hi => ?_, ?_, gmo, g99, ⟨md, cap2, f2, ?_, fun _ => ⟨?_, hcap, hcap2, fun j hj => ?_⟩, fun z => nomatch z⟩, Nc ++ [(w, k)], ?_, fun x => ?_, fun j hj => ?_⟩
  · intro i hi
    rcases List.mem_append.mp hi with hi | hi
    · exact zRo.of4 (l := [0, 2, 3, 4, 13]) (fun i hi => by simp only [List.mem_cons, List.not_mem_nil, or_false] at hi; omega) i hi
    · obtain ⟨e, o⟩ := hsub i hi
      exact Or.inl ⟨by omega, fun _ => o⟩
  · intro i hi hni
    have h9 : i ∉ [0, 2, 3, 4, 13] ∧ i ∉ ext := ⟨fun z => hni (List.mem_append_left _ z), fun z => hni (List.mem_append_right _ z)⟩
    have h8 := h9.1
    simp only [List.mem_cons, List.not_mem_nil, or_false, not_or] at h8
    have h14 : i ≠ 14 := by
      intro e
      subst e
      rcases hext with ⟨h1, h2⟩ | ⟨h1, h2⟩
      · rcases hi with ⟨_, hi⟩ | hi
        · rw [hi rfl] at h2; cases h2
        · omega
      · exact h9.2 (by rw [h1]; simp)
    have hlt : i < 217 + 2 * nn := by
      rcases hi with hi | hi <;> omega
    exact ⟨a1 i h14 (by omega) (by omega), e1 i (by omega) (by omega) (by omega) h14 (by omega) (by omega)⟩
  · intro i hi
    by_cases q : i ∈ [0, 2, 3, 4, 13, 14, 217 + 2 * nn, 218 + 2 * nn]
    · exact Or.inr q
    · left
      simp only [List.mem_cons, List.not_mem_nil, or_false, not_or] at q
      refine ⟨?_, fun z => ?_⟩
      · rcases hi with hi | hi
        · exact Or.inl ⟨hi.1, fun e => absurd e (by omega)⟩
        · exact Or.inr ⟨hi.1, by omega⟩
      · rcases List.mem_append.mp z with z | z
        · simp only [List.mem_cons, List.not_mem_nil, or_false] at z
          omega
        · exact absurd (hsub i z).1 (by omega)
  · rw [e1 0 (by omega) (by omega) (by omega) (by omega) (by omega) (by omega), a1 1 (by omega) (by omega) (by omega), a1 2 (by omega) (by omega) (by omega), a1 4 (by omega) (by omega) (by omega), a1 5 (by omega) (by omega) (by omega), a1 6 (by omega) (by omega) (by omega)]
    exact s0
  · rw [e1 1 (by omega) (by omega) (by omega) (by omega) (by omega) (by omega)]
    exact s1
  · rw [e1 7 (by omega) (by omega) (by omega) (by omega) (by omega) (by omega)]
    exact s7
  · rw [e2, a1 3 (by omega) (by omega) (by omega)]
    exact heT
  · rw [e1 3 (by omega) (by omega) (by omega) (by omega) (by omega) (by omega)]
    exact t2
  · exact so.congr (a1 9 (by omega) (by omega) (by omega)) (e1 8 (by omega) (by omega) (by omega) (by omega) (by omega) (by omega)) (e1 9 (by omega) (by omega) (by omega) (by omega) (by omega) (by omega))
  · rw [e1 5 (by omega) (by omega) (by omega) (by omega) (by omega) (by omega), a1 1 (by omega) (by omega) (by omega), a1 7 (by omega) (by omega) (by omega), a1 8 (by omega) (by omega) (by omega)]
    exact s5
  · rw [e1 6 (by omega) (by omega) (by omega) (by omega) (by omega) (by omega), a1 1 (by omega) (by omega) (by omega), a1 2 (by omega) (by omega) (by omega), a1 4 (by omega) (by omega) (by omega), a1 5 (by omega) (by omega) (by omega), a1 10 (by omega) (by omega) (by omega)]
    exact s6
  · rw [e1 10 (by omega) (by omega) (by omega) (by omega) (by omega) (by omega), a1 1 (by omega) (by omega) (by omega), a1 2 (by omega) (by omega) (by omega)]
    exact s10
  · rw [e4, a1 11 (by omega) (by omega) (by omega), a1 12 (by omega) (by omega) (by omega), a1 13 (by omega) (by omega) (by omega), a1 15 (by omega) (by omega) (by omega)]
    exact heG
  · rw [e1 11 (by omega) (by omega) (by omega) (by omega) (by omega) (by omega), g11, zTa_congr (fun i hi => a1 _ (by omega) (by omega) (by omega))]
  · rw [e1 12 (by omega) (by omega) (by omega) (by omega) (by omega) (by omega)]
    exact g12
  · obtain ⟨bs, q1, q2⟩ := gr i hi
    exact ⟨bs, q1.congr (a1 _ (by omega) (by omega) (by omega)) (e1 _ (by omega) (by omega) (by omega) (by omega) (by omega) (by omega)) (e1 _ (by omega) (by omega) (by omega) (by omega) (by omega) (by omega)), q2⟩
  · exact gm.congr (a1 16 (by omega) (by omega) (by omega)) (e1 15 (by omega) (by omega) (by omega) (by omega) (by omega) (by omega)) (e1 16 (by omega) (by omega) (by omega) (by omega) (by omega) (by omega))
  · rw [e13, a14]
    exact heA
  · rw [e14']
    exact he14
  · by_cases q : j = nn
    · subst q
      rw [aN]
      exact hf2n
    · rw [a1 _ (by omega) (by omega) (by omega)]
      exact hf2 j (by omega)
  · rw [List.length_append, n1]
    rfl
  · rw [List.mem_append, List.mem_append, n2 x]
  · by_cases q : j = nn
    · subst q
      have e : (Nc ++ [(w, k)]).getD j ([], 0) = (w, k) := by rw [← n1]; simp [List.getD_eq_getElem?_getD]
      rw [e]
      exact ⟨fl, by rw [eN', aL]; exact heN, by rw [eL']; exact heL, hfl, hw, hw32, hk99⟩
    · have hj' : j < nn := by omega
      have e : (Nc ++ [(w, k)]).getD j ([], 0) = Nc.getD j ([], 0) := by simp [List.getD_eq_getElem?_getD, List.getElem?_append_left (by omega : j < Nc.length)]
      rw [e]
      obtain ⟨f1, x1, x2, x3⟩ := n3 j hj'
      exact ⟨f1, by rw [e1 _ (by omega) (by omega) (by omega) (by omega) (by omega) (by omega), a1 _ (by omega) (by omega) (by omega)]; exact x1, by rw [e1 _ (by omega) (by omega) (by omega) (by omega) (by omega) (by omega)]; exact x2, x3⟩
