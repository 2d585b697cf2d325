/-! From contracts on explicit cells to contracts on states. -/
def zAo (R : Nat → Prop) (ad : Nat → Nat) (sz : Nat) : Nat → Prop := fun q => (∃ i, R i ∧ q = ad i) ∨ sz ≤ q
theorem zAo_of {R : Nat → Prop} {ad : Nat → Nat} {en : Nat → va_E} {sz : Nat} {W : va_W} (idx : List Nat) (hW : idx.map (fun i => (ad i, en i)) = W) (hR : ∀ i ∈ idx, R i) : ∀ q, va_A W sz q → zAo R ad sz q := by
  subst hW
  rintro q (⟨k, e, hk⟩ | hz)
  · obtain ⟨j, hj, e1⟩ := zroles_get hk
    exact Or.inl ⟨j, hR j (List.mem_of_getElem? hj), congrArg Prod.fst e1⟩
  · exact Or.inr hz
theorem zL.pre {E : zP} {R : Nat → Prop} {ad : Nat → Nat} {en : Nat → va_E} {H : Heap} {W : va_W} (h : zL E R ad en H) (idx : List Nat) (hW : idx.map (fun i => (ad i, en i)) = W) (hR : ∀ i ∈ idx, R i) (hn : idx.Nodup) : va_P E.1 zcl W H ∧ va_D (zOld E) W := by
  subst hW
  exact ⟨h.P idx hR, (h.D idx hR hn).weaken (fun _ _ _ z => z.1)⟩
theorem zSt.same {E : zP} {own : Bool} {nn : Nat} {ad : Nat → Nat} {en : Nat → va_E} {S : zSp} {C : zCp} {H H1 : Heap} {W : va_W} (h : zSt E own nn ad en S C H) (hE : E.2.2.2 ≤ H.size) (idx : List Nat) (hW : idx.map (fun i => (ad i, en i)) = W) (hR : ∀ i ∈ idx, zRo own nn i) (hn : idx.Nodup) (hP : va_P E.1 zcl W H1) (hk : ∀ q : Nat, q < H.size → ¬ va_A W H.size q → H1[q]? = H[q]?) : zSt E own nn ad en S C H1 := by
  subst hW
  exact ⟨h.1.lift (idx := idx) (idx1 := idx) hE hR hk hP ((h.1.D idx hR hn).self) (fun i _ _ => ⟨rfl, rfl⟩) zRo.same, h.2.1.lift h.1 hE hR hk, h.2.2⟩
-- nothing of the state was touched
theorem zSt.kept {E : zP} {own : Bool} {nn : Nat} {ad : Nat → Nat} {en : Nat → va_E} {S : zSp} {C : zCp} {H H1 : Heap} (h : zSt E own nn ad en S C H) (hq : ∀ i, zRo own nn i → H1[ad i]? = H[ad i]?) (hs : ∀ q : Nat, q < E.2.2.2 → H1[q]? = H[q]?) : zSt E own nn ad en S C H1 := ⟨h.1.kept hq, fun ho => ⟨(h.2.1 ho).1, trivial⟩, h.2.2⟩
