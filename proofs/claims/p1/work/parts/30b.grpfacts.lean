/-! Groups: what they hold, frozen; the search for a name. -/
def sp_gI (r : Option (Option Nat)) : Int := match r with
  | none => -2
  | some none => -1
  | some (some g) => (g : Int)
def zgrp (E : zP) (Z : Nat → Prop) (utf : Bool) (gr : Nat) (G : sp_Src) (H : Heap) : Prop := ∃ (ta sa al mk : Nat) (ng : Int) (ra : Nat → Nat) (nx : List Nat) (Nc : List (List Nat × Nat)),
  Z gr ∧ Z ta ∧ Z sa ∧ zO E 5 gr [.ref ta, .ref sa, .ref al, .ref mk, .int (iI ((G.1 : Nat) : Int)), .int (iI ng)] H ∧
  zQ E 4 ta 100 (fun i => some (ra i)) H ∧ zA E 1 sa 100 (fun i => iI (bN (G.2.1 i).isSome)) H ∧
  (∀ i, i < 100 → ∀ cs, G.2.1 i = some cs → zrowZ E Z (ra i) (sp_encs utf cs) H ∧ sp_oks utf cs) ∧
  zrowZ E Z mk (sp_encs utf G.2.2.2) H ∧ sp_oks utf G.2.2.2 ∧
  zlist E Z al nx H ∧ nx.length = Nc.length ∧ (∀ j, j < Nc.length → zname E Z (nx.getD j 0) (Nc.getD j ([], 0)).1 (Nc.getD j ([], 0)).2 H) ∧
  (∀ x, x ∈ Nc ↔ x ∈ G.2.2.1) ∧ G.1 ≤ 99
theorem zname.fz {E : zP} {Z : Nat → Prop} {a g : Nat} {w : List Nat} {A : Nat → Prop} {H0 H : Heap} {locs : List Loc} (h : zname E Z a w g H0) (hS : va_S A H0 H locs) (hn : ∀ q, Z q → ¬ A q) : zname E Z a w g H := by
  obtain ⟨q, f, z1, z2, hO, hA, hr⟩ := h
  exact ⟨q, f, z1, z2, zfz hS hO (hn _ z1), zfz hS hA (hn _ z2), hr⟩
theorem zlist.fz {E : zP} {Z : Nat → Prop} {a : Nat} {x : List Nat} {A : Nat → Prop} {H0 H : Heap} {locs : List Loc} (h : zlist E Z a x H0) (hS : va_S A H0 H locs) (hn : ∀ q, Z q → ¬ A q) : zlist E Z a x H := by
  obtain ⟨ea, cap, md, f, z1, z2, hO, hQ, hr⟩ := h
  exact ⟨ea, cap, md, f, z1, z2, zfz hS hO (hn _ z1), fun h9 => zfz hS (hQ h9) (hn _ (z2 h9)), hr⟩
theorem zgrp.fz {E : zP} {Z : Nat → Prop} {utf : Bool} {gr : Nat} {G : sp_Src} {A : Nat → Prop} {H0 H : Heap} {locs : List Loc} (h : zgrp E Z utf gr G H0) (hS : va_S A H0 H locs) (hn : ∀ q, Z q → ¬ A q) : zgrp E Z utf gr G H := by
  obtain ⟨ta, sa, al, mk, ng, ra, nx, Nc, z1, z2, z3, hO, hQ, hA, hR, hM, hMo, hL, hnl, hN, hm⟩ := h
  exact ⟨ta, sa, al, mk, ng, ra, nx, Nc, z1, z2, z3, zfz hS hO (hn _ z1), zfz hS hQ (hn _ z2), zfz hS hA (hn _ z3), fun i hi cs hc => ⟨(hR i hi cs hc).1.fz hS hn, (hR i hi cs hc).2⟩, hM.fz hS hn, hMo, hL.fz hS hn, hnl, fun j hj => (hN j hj).fz hS hn, hm⟩
theorem sp_same_eq {b w : List Nat} {k0 k1 : Nat} (h01 : k0 ≤ k1) (h1 : k1 ≤ b.length) : (decide (k1 - k0 = w.length) && sp_same b k0 w) = decide (w = (b.drop k0).take (k1 - k0)) := by
  have hlen : ((b.drop k0).take (k1 - k0)).length = k1 - k0 := by rw [List.length_take, List.length_drop]; omega
  have hget : ∀ m, m < k1 - k0 → ((b.drop k0).take (k1 - k0)).getD m 0 = sp_b b (k0 + m) := by
    intro m hm
    unfold sp_b
    simp [List.getD_eq_getElem?_getD, List.getElem?_take, List.getElem?_drop, hm]
  by_cases h : w = (b.drop k0).take (k1 - k0)
  · rw [decide_eq_true h]
    have e1 : k1 - k0 = w.length := by rw [h, hlen]
    rw [decide_eq_true e1, Bool.true_and]
    refine sp_same_t (fun m hm => ?_)
    rw [← hget m (by omega), ← h]
  · rw [decide_eq_false h]
    by_cases e1 : k1 - k0 = w.length
    · rw [decide_eq_true e1, Bool.true_and]
      by_cases hs : sp_same b k0 w = true
      · exfalso
        apply h
        unfold sp_same at hs
        rw [List.all_eq_true] at hs
        apply List.ext_getElem?
        intro m
        by_cases hm : m < w.length
        · have h2 := hs m (List.mem_range.mpr hm)
          have h3 : sp_b b (k0 + m) = w.getD m 0 := by simpa using h2
          have h4 := hget m (by omega)
          rw [h3, List.getD_eq_getElem?_getD, List.getD_eq_getElem?_getD, List.getElem?_eq_getElem hm, List.getElem?_eq_getElem (by rw [hlen]; omega)] at h4
          rw [List.getElem?_eq_getElem hm, List.getElem?_eq_getElem (by rw [hlen]; omega)]
          simp only [Option.getD_some] at h4
          rw [h4]
        · rw [List.getElem?_eq_none (by omega), List.getElem?_eq_none (by rw [hlen]; omega)]
      · simpa using hs
    · rw [decide_eq_false e1, Bool.false_and]
theorem sp_fold_take {α β : Type} (f : β → α → β) (d : α) (z : β) (l : List α) {k : Nat} (h : k < l.length) : (l.take (k + 1)).foldl f z = f ((l.take k).foldl f z) (l.getD k d) := by
  rw [List.take_succ_eq_append_getElem h, List.foldl_append, List.getD_eq_getElem?_getD, List.getElem?_eq_getElem h]
  rfl
-- the search's outcome by what it passes
def sp_okB (S : Nat → Option (List Nat)) (w : List Nat) (l : List (List Nat × Nat)) (r : Option (Option Nat)) : Prop := match r with
  | none => ∀ x ∈ l, x.1 ≠ w
  | some none => (∃ x ∈ l, x.1 = w) ∧ ∀ x ∈ l, x.1 = w → (S x.2).isSome = false
  | some (some g) => (∃ x ∈ l, x.1 = w ∧ x.2 = g ∧ (S g).isSome = true) ∧ ∀ x ∈ l, x.1 = w → (S x.2).isSome = true → g ≤ x.2
theorem sp_okB_step {S : Nat → Option (List Nat)} {w : List Nat} {l : List (List Nat × Nat)} {r : Option (Option Nat)} (h : sp_okB S w l r) (x : List Nat × Nat) : sp_okB S w (l ++ [x]) (sp_best S w r x) := by
  unfold sp_best
  by_cases hw : x.1 = w
  · rw [if_pos hw]
    by_cases hs : (S x.2).isSome = true
    · rw [if_pos hs]
      rcases r with _ | _ | g
      · refine ⟨⟨x, by simp, hw, rfl, hs⟩, fun y hy h1 h2 => ?_⟩
        rcases List.mem_append.mp hy with q | q
        · exact absurd h1 (h y q)
        · rw [List.mem_singleton.mp q]; exact Nat.le_refl _
      · refine ⟨⟨x, by simp, hw, rfl, hs⟩, fun y hy h1 h2 => ?_⟩
        rcases List.mem_append.mp hy with q | q
        · have := h.2 y q h1; rw [this] at h2; cases h2
        · rw [List.mem_singleton.mp q]; exact Nat.le_refl _
      · obtain ⟨⟨y, hy, h1, h2, h3⟩, h4⟩ := h
        show sp_okB S w (l ++ [x]) (some (some (min g x.2)))
        refine ⟨?_, fun z hz h5 h6 => ?_⟩
        · rcases Nat.le_total g x.2 with q | q
          · rw [Nat.min_eq_left q]; exact ⟨y, List.mem_append_left _ hy, h1, h2, h3⟩
          · rw [Nat.min_eq_right q]; exact ⟨x, by simp, hw, rfl, hs⟩
        · rcases List.mem_append.mp hz with q | q
          · exact Nat.le_trans (Nat.min_le_left _ _) (h4 z q h5 h6)
          · rw [List.mem_singleton.mp q]; exact Nat.min_le_right _ _
    · rw [if_neg hs]
      have hs' : (S x.2).isSome = false := by simpa using hs
      rcases r with _ | _ | g
      · refine ⟨⟨x, by simp, hw⟩, fun y hy h1 => ?_⟩
        rcases List.mem_append.mp hy with q | q
        · exact absurd h1 (h y q)
        · rw [List.mem_singleton.mp q]; exact hs'
      · refine ⟨⟨x, by simp, hw⟩, fun y hy h1 => ?_⟩
        rcases List.mem_append.mp hy with q | q
        · exact h.2 y q h1
        · rw [List.mem_singleton.mp q]; exact hs'
      · obtain ⟨⟨y, hy, h1, h2, h3⟩, h4⟩ := h
        refine ⟨⟨y, List.mem_append_left _ hy, h1, h2, h3⟩, fun z hz h5 h6 => ?_⟩
        rcases List.mem_append.mp hz with q | q
        · exact h4 z q h5 h6
        · rw [List.mem_singleton.mp q, hs'] at h6; cases h6
  · rw [if_neg hw]
    rcases r with _ | _ | g
    · intro y hy
      rcases List.mem_append.mp hy with q | q
      · exact h y q
      · rw [List.mem_singleton.mp q]; exact hw
    · obtain ⟨⟨y, hy, h1⟩, h2⟩ := h
      refine ⟨⟨y, List.mem_append_left _ hy, h1⟩, fun z hz h3 => ?_⟩
      rcases List.mem_append.mp hz with q | q
      · exact h2 z q h3
      · rw [List.mem_singleton.mp q] at h3; exact absurd h3 hw
    · obtain ⟨⟨y, hy, h1, h2, h3⟩, h4⟩ := h
      refine ⟨⟨y, List.mem_append_left _ hy, h1, h2, h3⟩, fun z hz h5 h6 => ?_⟩
      rcases List.mem_append.mp hz with q | q
      · exact h4 z q h5 h6
      · rw [List.mem_singleton.mp q] at h5; exact absurd h5 hw
theorem sp_okB_fold {S : Nat → Option (List Nat)} {w : List Nat} : ∀ (l m : List (List Nat × Nat)) (r : Option (Option Nat)), sp_okB S w m r → sp_okB S w (m ++ l) (l.foldl (sp_best S w) r) := by
  intro l
  induction l with
  | nil => intro m r h; simpa using h
  | cons x l ih =>
    intro m r h
    have := ih (m ++ [x]) _ (sp_okB_step h x)
    rw [List.append_assoc] at this
    exact this
theorem sp_okB_uniq {S : Nat → Option (List Nat)} {w : List Nat} {a b : List (List Nat × Nat)} (h : ∀ x, x ∈ a ↔ x ∈ b) {r r' : Option (Option Nat)} (h1 : sp_okB S w a r) (h2 : sp_okB S w b r') : r = r' := by
  rcases r with _ | _ | g <;> rcases r' with _ | _ | g'
  · rfl
  · obtain ⟨⟨x, hx, e⟩, -⟩ := h2; exact absurd e (h1 x ((h x).mpr hx))
  · obtain ⟨⟨x, hx, e, -⟩, -⟩ := h2; exact absurd e (h1 x ((h x).mpr hx))
  · obtain ⟨⟨x, hx, e⟩, -⟩ := h1; exact absurd e (h2 x ((h x).mp hx))
  · rfl
  · obtain ⟨⟨x, hx, e, e2, e3⟩, -⟩ := h2
    have := h1.2 x ((h x).mpr hx) e
    rw [e2, e3] at this; cases this
  · obtain ⟨⟨x, hx, e, -⟩, -⟩ := h1; exact absurd e (h2 x ((h x).mp hx))
  · obtain ⟨⟨x, hx, e, e2, e3⟩, -⟩ := h1
    have := h2.2 x ((h x).mp hx) e
    rw [e2, e3] at this; cases this
  · obtain ⟨⟨x, hx, e, e2, e3⟩, h3⟩ := h1
    obtain ⟨⟨y, hy, f, f2, f3⟩, h4⟩ := h2
    have q1 := h3 y ((h y).mpr hy) f (by rw [f2]; exact f3)
    have q2 := h4 x ((h x).mp hx) e (by rw [e2]; exact e3)
    rw [show g = g' by omega]
theorem sp_best_set {S : Nat → Option (List Nat)} {w : List Nat} {a b : List (List Nat × Nat)} (h : ∀ x, x ∈ a ↔ x ∈ b) : a.foldl (sp_best S w) none = b.foldl (sp_best S w) none :=
  sp_okB_uniq h (sp_okB_fold a [] none (fun x hx => by cases hx)) (sp_okB_fold b [] none (fun x hx => by cases hx))
