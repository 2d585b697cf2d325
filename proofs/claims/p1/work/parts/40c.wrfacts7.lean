/-! The end of writePart. -/
def zWp (E : zP) (A : Nat → Prop) (w es h rb tx gr en ca : Nat) (rich uemp uunk utf : Bool) (of0 : Int) (t : List Nat) (cap : Nat) (r : sp_R) (v : Option Value) (H : Heap) : Prop :=
  ∃ (cd of ch nx : Int) (o : sp_O) (full : Bool) (q cap2 : Nat) (f : Nat → Int32),
    va_P E.1 zcl [(w, .inr (8, [.ref tx, .ref gr, .ref h, .ref en, .ref es, .int (iI (bN rich)), .int (iI (bN uemp)), .int (iI (bN uunk)), .int (iI cd), .int (iI of)])), (es, .inr (7, [.ref tx, .ref en, .int (iI ch), .int (iI nx)])), (h, .inr (6, [.ref en, .ref ca, .ref rb, .ref (E.2.2.1 (o.2.1 + 1)), .ref (E.2.2.1 (o.2.2 + 1)), .int (iI (bN full))])), (rb, .inr (1, [.int (iI 262144), .ref q, .int (iI ((o.1.length : Nat) : Int))])), (q, .inl (E.2.1 0, cap2, .inl f))] H ∧
    va_D A [(w, .inr (8, [.ref tx, .ref gr, .ref h, .ref en, .ref es, .int (iI (bN rich)), .int (iI (bN uemp)), .int (iI (bN uunk)), .int (iI cd), .int (iI of)])), (es, .inr (7, [.ref tx, .ref en, .int (iI ch), .int (iI nx)])), (h, .inr (6, [.ref en, .ref ca, .ref rb, .ref (E.2.2.1 (o.2.1 + 1)), .ref (E.2.2.1 (o.2.2 + 1)), .int (iI (bN full))])), (rb, .inr (1, [.int (iI 262144), .ref q, .int (iI ((o.1.length : Nat) : Int))])), (q, .inl (E.2.1 0, cap2, .inl f))] ∧
    zbytes o.1 cap2 f ∧ zfit cap2 f ∧ sp_capok cap2 ∧ cap2 = sp_pcap cap r ∧ o.2.1 ≤ 2 ∧ o.2.2 ≤ 2 ∧
    v = none ∧
    (r.1 = 0 → cd = 0 ∧ of = of0 ∧ full = false ∧ o = r.2.2.2) ∧
    (r.1 = -48 → full = true ∧ cd = -48 ∧ of = -1) ∧
    (r.1 ≠ 0 → r.1 ≠ -48 → full = false ∧ cd = r.1 ∧ of = ((sp_off utf t r.2.1.toNat : Nat) : Int) ∧ o = r.2.2.2)

def zPartOK (l : Launch) (E : zP) (d : Nat) : Prop := ∀ (sz : Nat) (Z : Nat → Prop) (w es h rb q tx gr en ca cap mode once : Nat) (rich uemp uunk utf ucp : Bool) (of0 ch nx : Int) (f : Nat → Int32) (out t : List Nat) (G : sp_Src) (k j : Nat) (hkj : k ≤ j) (hj : j ≤ t.length) (hB : zbytes out cap f) (hF : zfit cap f) (hc : sp_capok cap) (hmode : mode ≤ 2) (honce : once ≤ 2) (hoks : sp_oks utf t) (htl : (sp_encs utf t).length ≤ 65536), Met l y_Writing_writePart (.code y_Writing_writePart b_Writing_writePart 7 none :: zw) { frames := 32 + 3 * d, cells := ((sp_pcap cap (sp_part (utf, ucp, rich, uemp, uunk) G t d k j (out, mode, once)) - cap) / 16), slots := (2 * (sp_pcap cap (sp_part (utf, ucp, rich, uemp, uunk) G t d k j (out, mode, once)) - cap)), locals := 3070 + 100 * d } (zPc E [.ref w, .int (iI ((sp_off utf t k : Nat) : Int)), .int (iI ((sp_off utf t j : Nat) : Int)), .int (iI ((20 - d : Nat) : Int))] (fun H => H.size = sz ∧ va_P E.1 zcl [(w, .inr (8, [.ref tx, .ref gr, .ref h, .ref en, .ref es, .int (iI (bN rich)), .int (iI (bN uemp)), .int (iI (bN uunk)), .int (iI 0), .int (iI of0)])), (es, .inr (7, [.ref tx, .ref en, .int (iI ch), .int (iI nx)])), (h, .inr (6, [.ref en, .ref ca, .ref rb, .ref (E.2.2.1 (mode + 1)), .ref (E.2.2.1 (once + 1)), .int (iI (bN false))])), (rb, .inr (1, [.int (iI 262144), .ref q, .int (iI ((out.length : Nat) : Int))])), (q, .inl (E.2.1 0, cap, .inl f))] H ∧ va_D (fun x => zOld E x ∧ ¬ Z x) [(w, .inr (8, [.ref tx, .ref gr, .ref h, .ref en, .ref es, .int (iI (bN rich)), .int (iI (bN uemp)), .int (iI (bN uunk)), .int (iI 0), .int (iI of0)])), (es, .inr (7, [.ref tx, .ref en, .int (iI ch), .int (iI nx)])), (h, .inr (6, [.ref en, .ref ca, .ref rb, .ref (E.2.2.1 (mode + 1)), .ref (E.2.2.1 (once + 1)), .int (iI (bN false))])), (rb, .inr (1, [.int (iI 262144), .ref q, .int (iI ((out.length : Nat) : Int))])), (q, .inl (E.2.1 0, cap, .inl f))] ∧ (∀ q, Z q → q < sz) ∧ (Z tx ∧ Z en ∧ Z ca ∧ zO E 2 en [.int (iI (bN utf))] H ∧ zO E 3 ca [.int (iI ((5 * sp_many utf ucp : Nat) : Int))] H ∧ zrowZ E Z tx (sp_encs utf t) H ∧ zgrp E Z utf gr G H))) (zW (fun v H => zWp E (va_A [(w, .inr (8, [.ref tx, .ref gr, .ref h, .ref en, .ref es, .int (iI (bN rich)), .int (iI (bN uemp)), .int (iI (bN uunk)), .int (iI 0), .int (iI of0)])), (es, .inr (7, [.ref tx, .ref en, .int (iI ch), .int (iI nx)])), (h, .inr (6, [.ref en, .ref ca, .ref rb, .ref (E.2.2.1 (mode + 1)), .ref (E.2.2.1 (once + 1)), .int (iI (bN false))])), (rb, .inr (1, [.int (iI 262144), .ref q, .int (iI ((out.length : Nat) : Int))])), (q, .inl (E.2.1 0, cap, .inl f))] sz) w es h rb tx gr en ca rich uemp uunk utf of0 t cap (sp_part (utf, ucp, rich, uemp, uunk) G t d k j (out, mode, once)) v H) (va_A [(w, .inr (8, [.ref tx, .ref gr, .ref h, .ref en, .ref es, .int (iI (bN rich)), .int (iI (bN uemp)), .int (iI (bN uunk)), .int (iI 0), .int (iI of0)])), (es, .inr (7, [.ref tx, .ref en, .int (iI ch), .int (iI nx)])), (h, .inr (6, [.ref en, .ref ca, .ref rb, .ref (E.2.2.1 (mode + 1)), .ref (E.2.2.1 (once + 1)), .int (iI (bN false))])), (rb, .inr (1, [.int (iI 262144), .ref q, .int (iI ((out.length : Nat) : Int))])), (q, .inl (E.2.1 0, cap, .inl f))] sz)) ((sp_pcap cap (sp_part (utf, ucp, rich, uemp, uunk) G t d k j (out, mode, once)) - cap) / 16) (2 * (sp_pcap cap (sp_part (utf, ucp, rich, uemp, uunk) G t d k j (out, mode, once)) - cap)) (va_A [(w, .inr (8, [.ref tx, .ref gr, .ref h, .ref en, .ref es, .int (iI (bN rich)), .int (iI (bN uemp)), .int (iI (bN uunk)), .int (iI 0), .int (iI of0)])), (es, .inr (7, [.ref tx, .ref en, .int (iI ch), .int (iI nx)])), (h, .inr (6, [.ref en, .ref ca, .ref rb, .ref (E.2.2.1 (mode + 1)), .ref (E.2.2.1 (once + 1)), .int (iI (bN false))])), (rb, .inr (1, [.int (iI 262144), .ref q, .int (iI ((out.length : Nat) : Int))])), (q, .inl (E.2.1 0, cap, .inl f))] sz)
theorem zWp.none {E : zP} {A : Nat → Prop} {w es h rb tx gr en ca : Nat} {rich uemp uunk utf : Bool} {of0 : Int} {t : List Nat} {cap : Nat} {r : sp_R} {v : Option Value} {H : Heap} (z : zWp E A w es h rb tx gr en ca rich uemp uunk utf of0 t cap r v H) : v = none := by
  obtain ⟨_, _, _, _, _, _, _, _, _, _, _, _, _, _, _, _, _, h, _⟩ := z
  exact h
theorem zWp.mono {E : zP} {A B : Nat → Prop} {w es h rb tx gr en ca : Nat} {rich uemp uunk utf : Bool} {of0 : Int} {t : List Nat} {cap : Nat} {r : sp_R} {v : Option Value} {H : Heap} (hAB : ∀ q, A q → B q) (z : zWp E A w es h rb tx gr en ca rich uemp uunk utf of0 t cap r v H) : zWp E B w es h rb tx gr en ca rich uemp uunk utf of0 t cap r v H := by
  obtain ⟨cd, of, ch, nx, o, full, q, cap2, f, h1, h2, h3⟩ := z
  exact ⟨cd, of, ch, nx, o, full, q, cap2, f, h1, h2.weaken (fun _ _ _ h => hAB _ h), h3⟩
theorem sp_pcap_in {cap two : Nat} {r : sp_R} : sp_pcap cap (sp_in r two) = sp_pcap cap r := by
  unfold sp_in
  split
  · rename_i q
    unfold sp_pcap sp_goes
    rw [q]
  · rfl
theorem zWr_in {E : zP} {A : Nat → Prop} {w es h rb tx gr en ca : Nat} {rich uemp uunk utf : Bool} {of0 : Int} {t : List Nat} {cap : Nat} {r : sp_R} {v : Option Value} {H : Heap} {j two : Nat} (z : zWp E A w es h rb tx gr en ca rich uemp uunk utf of0 t cap r v H) (nxt : Int) (hn : 0 ≤ nxt ∧ nxt ≤ 131072) (h1 : two + 1 < j → nxt = ((sp_off utf t (two + 1) : Nat) : Int)) (h2 : j ≤ two + 1 → ((sp_off utf t j : Nat) : Int) ≤ nxt) : zWr E A w es h rb tx gr en ca rich uemp uunk utf of0 t j cap (sp_in r two) (some (.int (iI nxt))) H := by
  obtain ⟨cd, of, ch, nx, o, full, q, cap2, f, a1, a2, a3, a4, a5, a6, a7, a8, a9, b0, b48, bx⟩ := z
  refine ⟨cd, of, ch, nx, nxt, o, full, q, cap2, f, a1, a2, a3, a4, a5, by rw [sp_pcap_in]; exact a6, a7, a8, rfl, hn, ?_, ?_, ?_⟩
  · intro z
    by_cases h0 : r.1 = 0
    · obtain ⟨c1, c2, c3, c4⟩ := b0 h0
      unfold sp_in
      rw [if_pos h0]
      exact ⟨c1, c2, c3, c4, h1, h2⟩
    · unfold sp_in at z
      rw [if_neg h0] at z
      exact absurd z h0
  · intro z
    by_cases h0 : r.1 = 0
    · unfold sp_in at z
      rw [if_pos h0] at z
      exact absurd (show (0 : Int) = -48 from z) (by decide)
    · unfold sp_in at z
      rw [if_neg h0] at z
      obtain ⟨c1, c2, c3⟩ := b48 z
      exact ⟨c1, Or.inr ⟨c2, c3⟩⟩
  · by_cases h0 : r.1 = 0
    · unfold sp_in
      rw [if_pos h0]
      intro z
      exact absurd rfl z
    · unfold sp_in
      rw [if_neg h0]
      exact bx
