/-! What a step of the writing comes to, in the class's cells. -/
def sp_pcap (cap : Nat) (r : sp_R) : Nat := if r.1 = -48 then 262144 else max cap (sp_up r.2.2.2.1.length)
def zWr (E : zP) (A : Nat → Prop) (w es h rb tx gr en ca : Nat) (rich uemp uunk utf : Bool) (of0 : Int) (t : List Nat) (j cap : Nat) (r : sp_R) (v : Option Value) (H : Heap) : Prop :=
  ∃ (cd of ch nx nxt : Int) (o : sp_O) (full : Bool) (q cap2 : Nat) (f : Nat → Int32),
    va_P E.1 zcl [(w, .inr (8, [.ref tx, .ref gr, .ref h, .ref en, .ref es, .int (iI (bN rich)), .int (iI (bN uemp)), .int (iI (bN uunk)), .int (iI cd), .int (iI of)])), (es, .inr (7, [.ref tx, .ref en, .int (iI ch), .int (iI nx)])), (h, .inr (6, [.ref en, .ref ca, .ref rb, .ref (E.2.2.1 (o.2.1 + 1)), .ref (E.2.2.1 (o.2.2 + 1)), .int (iI (bN full))])), (rb, .inr (1, [.int (iI 262144), .ref q, .int (iI ((o.1.length : Nat) : Int))])), (q, .inl (E.2.1 0, cap2, .inl f))] H ∧
    va_D A [(w, .inr (8, [.ref tx, .ref gr, .ref h, .ref en, .ref es, .int (iI (bN rich)), .int (iI (bN uemp)), .int (iI (bN uunk)), .int (iI cd), .int (iI of)])), (es, .inr (7, [.ref tx, .ref en, .int (iI ch), .int (iI nx)])), (h, .inr (6, [.ref en, .ref ca, .ref rb, .ref (E.2.2.1 (o.2.1 + 1)), .ref (E.2.2.1 (o.2.2 + 1)), .int (iI (bN full))])), (rb, .inr (1, [.int (iI 262144), .ref q, .int (iI ((o.1.length : Nat) : Int))])), (q, .inl (E.2.1 0, cap2, .inl f))] ∧
    zbytes o.1 cap2 f ∧ zfit cap2 f ∧ sp_capok cap2 ∧ cap2 = sp_pcap cap r ∧ o.2.1 ≤ 2 ∧ o.2.2 ≤ 2 ∧
    v = some (.int (iI nxt)) ∧ (0 ≤ nxt ∧ nxt ≤ 131072) ∧
    (r.1 = 0 → cd = 0 ∧ of = of0 ∧ full = false ∧ o = r.2.2.2 ∧ (r.2.2.1 < j → nxt = ((sp_off utf t r.2.2.1 : Nat) : Int)) ∧ (j ≤ r.2.2.1 → ((sp_off utf t j : Nat) : Int) ≤ nxt)) ∧
    (r.1 = -48 → full = true ∧ ((cd = 0 ∧ of = of0) ∨ (cd = -48 ∧ of = -1))) ∧
    (r.1 ≠ 0 → r.1 ≠ -48 → full = false ∧ cd = r.1 ∧ of = ((sp_off utf t r.2.1.toNat : Nat) : Int) ∧ o = r.2.2.2)
