/-! The cells of an object and of all that it owns, by roles: R which roles there are, ad their addresses, en what stands there. -/
def zL (E : zP) (R : Nat → Prop) (ad : Nat → Nat) (en : Nat → va_E) (H : Heap) : Prop := (∀ i j, R i → R j → ad i = ad j → i = j) ∧ (∀ i, R i → zOld E (ad i)) ∧ ∀ i, R i → va_at E.1 zcl (ad i, en i) H
abbrev zw_of_roles (ad : Nat → Nat) (en : Nat → va_E) (idx : List Nat) : va_W := idx.map (fun i => (ad i, en i))
theorem zroles_get {ad : Nat → Nat} {en : Nat → va_E} {idx : List Nat} {k : Nat} {q : Nat × va_E} (h : (idx.map (fun i => (ad i, en i)))[k]? = some q) : ∃ i, idx[k]? = some i ∧ q = (ad i, en i) := by
  rw [List.getElem?_map] at h
  cases hi : idx[k]? with
  | none => rw [hi] at h; cases h
  | some i => rw [hi] at h; exact ⟨i, rfl, (Option.some.inj h).symm⟩
theorem zL.P {E : zP} {R : Nat → Prop} {ad : Nat → Nat} {en : Nat → va_E} {H : Heap} (h : zL E R ad en H) (idx : List Nat) (hR : ∀ i ∈ idx, R i) : va_P E.1 zcl (idx.map (fun i => (ad i, en i))) H := by
  intro k q hk
  obtain ⟨i, hi, rfl⟩ := zroles_get hk
  exact h.2.2 i (hR i (List.mem_of_getElem? hi))
def zZ (R : Nat → Prop) (ad : Nat → Nat) (idx : List Nat) : Nat → Prop := fun q => ∃ i, R i ∧ i ∉ idx ∧ q = ad i
theorem zL.D {E : zP} {R : Nat → Prop} {ad : Nat → Nat} {en : Nat → va_E} {H : Heap} (h : zL E R ad en H) (idx : List Nat) (hR : ∀ i ∈ idx, R i) (hn : idx.Nodup) : va_D (fun x => zOld E x ∧ ¬ zZ R ad idx x) (idx.map (fun i => (ad i, en i))) := by
  refine ⟨fun a b p q ha hb e => ?_, fun k q hk => ?_⟩
  · obtain ⟨i, hi, rfl⟩ := zroles_get ha
    obtain ⟨j, hj, rfl⟩ := zroles_get hb
    have := h.1 i j (hR i (List.mem_of_getElem? hi)) (hR j (List.mem_of_getElem? hj)) e
    subst this
    have ha' := (List.getElem?_eq_some_iff.mp hi)
    have hb' := (List.getElem?_eq_some_iff.mp hj)
    obtain ⟨la, ea⟩ := ha'
    obtain ⟨lb, eb⟩ := hb'
    rcases Nat.lt_trichotomy a b with hab | hab | hab
    · exact absurd (ea.trans eb.symm) (List.pairwise_iff_getElem.mp hn a b la lb hab)
    · exact hab
    · exact absurd (eb.trans ea.symm) (List.pairwise_iff_getElem.mp hn b a lb la hab)
  · obtain ⟨i, hi, rfl⟩ := zroles_get hk
    have hm := List.mem_of_getElem? hi
    refine ⟨h.2.1 i (hR i hm), ?_⟩
    rintro ⟨j, hj, hn', e⟩
    have := h.1 i j (hR i hm) hj e
    subst this
    exact hn' hm
theorem zL.lt {E : zP} {R : Nat → Prop} {ad : Nat → Nat} {en : Nat → va_E} {H : Heap} (h : zL E R ad en H) {i : Nat} (hi : R i) : ad i < H.size := (h.2.2 i hi).lt
theorem zL.Zlt {E : zP} {R : Nat → Prop} {ad : Nat → Nat} {en : Nat → va_E} {H : Heap} (h : zL E R ad en H) (idx : List Nat) : ∀ q, zZ R ad idx q → q < H.size := by
  rintro q ⟨i, hi, -, rfl⟩
  exact h.lt hi
theorem zL.kept {E : zP} {R : Nat → Prop} {ad : Nat → Nat} {en : Nat → va_E} {H H1 : Heap} (h : zL E R ad en H) (hq : ∀ i, R i → H1[ad i]? = H[ad i]?) : zL E R ad en H1 := ⟨h.1, h.2.1, fun i hi => (h.2.2 i hi).kept (hq i hi)⟩
-- behind a method that changed the roles idx, and left the roles idx1
theorem zL.lift {E : zP} {R R' : Nat → Prop} {ad ad' : Nat → Nat} {en en' : Nat → va_E} {H H1 : Heap} {idx idx1 : List Nat} (h : zL E R ad en H) (hE : E.2.2.2 ≤ H.size) (hR : ∀ i ∈ idx, R i)
    (hk : ∀ q : Nat, q < H.size → ¬ va_A (idx.map (fun i => (ad i, en i))) H.size q → H1[q]? = H[q]?) (hP : va_P E.1 zcl (idx1.map (fun i => (ad' i, en' i))) H1) (hD : va_D (va_A (idx.map (fun i => (ad i, en i))) H.size) (idx1.map (fun i => (ad' i, en' i))))
    (he : ∀ i, R i → i ∉ idx → ad' i = ad i ∧ en' i = en i) (hR' : ∀ i, R' i → (R i ∧ i ∉ idx) ∨ i ∈ idx1) : zL E R' ad' en' H1 := by
  have old : ∀ i, R i → i ∉ idx → ¬ va_A (idx.map (fun i => (ad i, en i))) H.size (ad i) := by
    rintro i hi hn (⟨k, e, hk⟩ | hz)
    · obtain ⟨j, hj, e1⟩ := zroles_get hk
      have hm := List.mem_of_getElem? hj
      have e2 : ad i = ad j := congrArg Prod.fst e1
      have := h.1 i j hi (hR j hm) e2
      subst this
      exact hn hm
    · exact Nat.not_le.mpr (h.lt hi) hz
  have new : ∀ j, j ∈ idx1 → ∃ k : Nat, idx1[k]? = some j ∧ (idx1.map (fun i => (ad' i, en' i)))[k]? = some (ad' j, en' j) := by
    intro j hj
    obtain ⟨k, hk⟩ := List.getElem?_of_mem hj
    exact ⟨k, hk, by rw [List.getElem?_map, hk]; rfl⟩
  refine ⟨fun i j hi hj e => ?_, fun i hi => ?_, fun i hi => ?_⟩
  · rcases hR' i hi with ⟨i1, i2⟩ | i1 <;> rcases hR' j hj with ⟨j1, j2⟩ | j1
    · rw [(he i i1 i2).1, (he j j1 j2).1] at e
      exact h.1 i j i1 j1 e
    · exfalso
      obtain ⟨k, -, hk2⟩ := new j j1
      have := hD.2 k _ hk2
      rw [(he i i1 i2).1] at e
      exact old i i1 i2 (by rw [e]; exact this)
    · exfalso
      obtain ⟨k, -, hk2⟩ := new i i1
      have := hD.2 k _ hk2
      rw [(he j j1 j2).1] at e
      exact old j j1 j2 (by rw [← e]; exact this)
    · obtain ⟨k, k1, k2⟩ := new i i1
      obtain ⟨k', k1', k2'⟩ := new j j1
      have := hD.1 k k' _ _ k2 k2' e
      subst this
      exact Option.some.inj (k1.symm.trans k1')
  · rcases hR' i hi with ⟨i1, i2⟩ | i1
    · rw [(he i i1 i2).1]
      exact h.2.1 i i1
    · obtain ⟨k, -, k2⟩ := new i i1
      rcases hD.2 k _ k2 with ⟨k', e, hk'⟩ | hz
      · obtain ⟨j, hj, e1⟩ := zroles_get hk'
        have e2 : ad' i = ad j := congrArg Prod.fst e1
        show zOld E (ad' i)
        rw [e2]
        exact h.2.1 j (hR j (List.mem_of_getElem? hj))
      · exact Nat.le_trans hE hz
  · rcases hR' i hi with ⟨i1, i2⟩ | i1
    · rw [(he i i1 i2).1, (he i i1 i2).2]
      exact (h.2.2 i i1).kept (hk _ (h.lt i1) (old i i1 i2))
    · obtain ⟨k, -, k2⟩ := new i i1
      exact hP k _ k2
-- a contract on explicit cells, used where a state is known
theorem zMet_use {l : Launch} {y : MethodName} {ws : List Cond} {rm : Room} {E : zP} {av : List Value} {Pre' : Heap → Prop} {post' : Option Value → Heap → Prop} {A' : Nat → Prop} {mc ms : Nat}
    (h : ∀ U : State, zE E U U.heap → Pre' U.heap → ∃ (Pre : Heap → Prop) (post : Option Value → Heap → Prop) (A : Nat → Prop), Met l y ws rm (zPc E av Pre) (zW post A) mc ms A ∧ Pre U.heap ∧ (∀ q, A q → A' q) ∧ ∀ v H1, post v H1 → U.heap.size ≤ H1.size → (∀ q : Nat, q < U.heap.size → ¬ A q → H1[q]? = U.heap[q]?) → post' v H1) : Met l y ws rm (zPc E av Pre') (zW post' A') mc ms A' := by
  intro p e ha hc hk s m args below hf happ hP hK
  obtain ⟨rfl, hE, hp⟩ := hP
  obtain ⟨Pre, post, A, hM, hp2, hA, hpost⟩ := h s hE hp
  obtain ⟨n, o, h1, h2, h3, ⟨v, e1, e2, e3, e4⟩, L, h5, h6⟩ := hM p e ha hc hk s m _ below hf happ ⟨rfl, hE, hp2⟩ hK
  exact ⟨n, o, h1, h2, h3, ⟨v, e1, hpost v _ e2 e3 e4, e3, fun q q1 q2 => e4 q q1 (fun z => q2 (hA q z))⟩, L, h5, fun q hq => hA _ (h6 q hq)⟩
theorem zMetX_use {l : Launch} {y : MethodName} {ws : List Cond} {rm : Room} {E : zP} {av : List Value} {cls : String} {Pre' post' : Heap → Prop} {A' : Nat → Prop} {mc ms : Nat}
    (h : ∀ U : State, zE E U U.heap → Pre' U.heap → ∃ (Pre post : Heap → Prop) (A : Nat → Prop), MetX l y ws rm (zPc E av Pre) (zX cls post A) mc ms A ∧ Pre U.heap ∧ (∀ q, A q → A' q) ∧ ∀ H1, post H1 → U.heap.size ≤ H1.size → (∀ q : Nat, q < U.heap.size → ¬ A q → H1[q]? = U.heap[q]?) → post' H1) : MetX l y ws rm (zPc E av Pre') (zX cls post' A') mc ms A' := by
  intro p e ha hc hk s m args below hf happ hP hK
  obtain ⟨rfl, hE, hp⟩ := hP
  obtain ⟨Pre, post, A, hM, hp2, hA, hpost⟩ := h s hE hp
  obtain ⟨n, o, h1, h2, h3, x, e0, ⟨e1, e2, e3, e4⟩, L, h5, h6⟩ := hM p e ha hc hk s m _ below hf happ ⟨rfl, hE, hp2⟩ hK
  exact ⟨n, o, h1, h2, h3, x, e0, ⟨e1, hpost _ e2 e3 e4, e3, fun q q1 q2 => e4 q q1 (fun z => q2 (hA q z))⟩, L, h5, fun q hq => hA _ (h6 q hq)⟩
