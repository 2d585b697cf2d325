theorem zPi_end {E : zP} {A : Nat → Prop} {w es h rb tx gr en ca q1 cap cap1 j m : Nat} {rich uemp uunk utf ucp full : Bool} {of0 aa cd of ch1 nx1 : Int} {t : List Nat} {G : sp_Src} {dp : Option (Nat → Nat → sp_O → sp_R)} {R : sp_R} {o1 : sp_O} {f1 : Nat → Int32} {H : Heap} (hz : zPi (utf, ucp, rich, uemp, uunk) G t dp j of0 cap R m aa cd of o1 full cap1 f1) (hj : j ≤ t.length) (he : ((sp_off utf t j : Nat) : Int) ≤ aa ∨ cd ≠ 0) (hP : va_P E.1 zcl [(w, .inr (8, [.ref tx, .ref gr, .ref h, .ref en, .ref es, .int (iI (bN rich)), .int (iI (bN uemp)), .int (iI (bN uunk)), .int (iI cd), .int (iI of)])), (es, .inr (7, [.ref tx, .ref en, .int (iI ch1), .int (iI nx1)])), (h, .inr (6, [.ref en, .ref ca, .ref rb, .ref (E.2.2.1 (o1.2.1 + 1)), .ref (E.2.2.1 (o1.2.2 + 1)), .int (iI (bN full))])), (rb, .inr (1, [.int (iI 262144), .ref q1, .int (iI ((o1.1.length : Nat) : Int))])), (q1, .inl (E.2.1 0, cap1, .inl f1))] H) (hD : va_D A [(w, .inr (8, [.ref tx, .ref gr, .ref h, .ref en, .ref es, .int (iI (bN rich)), .int (iI (bN uemp)), .int (iI (bN uunk)), .int (iI cd), .int (iI of)])), (es, .inr (7, [.ref tx, .ref en, .int (iI ch1), .int (iI nx1)])), (h, .inr (6, [.ref en, .ref ca, .ref rb, .ref (E.2.2.1 (o1.2.1 + 1)), .ref (E.2.2.1 (o1.2.2 + 1)), .int (iI (bN full))])), (rb, .inr (1, [.int (iI 262144), .ref q1, .int (iI ((o1.1.length : Nat) : Int))])), (q1, .inl (E.2.1 0, cap1, .inl f1))]) : zWp E A w es h rb tx gr en ca rich uemp uunk utf of0 t cap R none H := by
  obtain ⟨a1, a2, a3, a4, a5, a6, a7, a8, a9, a0⟩ := hz
  rcases a0 with ⟨c0, c1, c2, e1, e2, e3, e4⟩ | ⟨c0, c1, c2, c3, c4⟩
  · have hjm : j ≤ m := Nat.le_of_not_lt (fun q => by
      have q1 : aa = ((sp_off utf t m : Nat) : Int) := e3 q
      have q2 := (sp_off_lt utf (t := t) (i := m) (j := j) (by omega) (by omega)).2 q
      omega)
    rw [sp_loop_out hjm] at e1
    have hcap : cap1 = sp_pcap cap R := by
      rw [← e2, e1]
      unfold sp_pcap sp_goes
      rw [if_neg (show ¬ (0 : Int) = -48 by decide)]
      exact (Nat.max_eq_left (sp_up_le a3 a1.1)).symm
    refine ⟨cd, of, ch1, nx1, o1, full, q1, cap1, f1, hP, hD, a1, a2, a3, hcap, a4, a5, rfl, fun _ => ⟨c0, c1, c2, by rw [e1]; rfl⟩, fun z => ?_, fun z => ?_⟩
    · rw [e1] at z
      exact absurd (show (0 : Int) = -48 from z) (by decide)
    · rw [e1] at z
      exact absurd rfl z
  · exact ⟨cd, of, ch1, nx1, o1, full, q1, cap1, f1, hP, hD, a1, a2, a3, c2, a4, a5, rfl, fun z => absurd z c1, c3, fun _ => c4⟩
