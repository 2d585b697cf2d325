/-! The state that the constructor leaves. -/
def zAd (W : va_W) (i : Nat) : Nat := (W.getD (if i < 14 then i else i - 1) (0, .inr (0, []))).1
def zEn (W : va_W) (i : Nat) : va_E := (W.getD (if i < 14 then i else i - 1) (0, .inr (0, []))).2
theorem zRs_len (E : zP) : ∀ rs : List (Nat × Nat), (zRs E rs).length = 2 * rs.length
  | [] => rfl
  | r :: rs => by
    show (_ :: _ :: zRs E rs).length = _
    rw [List.length_cons, List.length_cons, zRs_len E rs, List.length_cons]
    omega
theorem zRs_at (E : zP) : ∀ (rs : List (Nat × Nat)) (i : Nat) (h : i < rs.length), (zRs E rs)[2 * i]? = some (rs[i].1, .inr (1, [.int (iI 65536), .ref rs[i].2, .int (iI 0)])) ∧ (zRs E rs)[2 * i + 1]? = some (rs[i].2, .inl (E.2.1 0, 16, .inl (fun _ => 0)))
  | [], i, h => absurd h (Nat.not_lt_zero _)
  | r :: rs, 0, h => ⟨rfl, rfl⟩
  | r :: rs, i + 1, h => by
    have k := zRs_at E rs i (by simpa using h)
    rw [show 2 * (i + 1) = 2 * i + 1 + 1 by omega]
    exact k
theorem zfit0 (n : Nat) : zfit n (fun _ => 0) := fun _ _ => (by decide : fits .byte (.int 0) = true)
theorem zfresh_row {E : zP} {W0 : va_W} {rs : List (Nat × Nat)} (h0 : W0.length = 16) (i : Nat) (hi : i < rs.length) : zAd (W0 ++ zRs E rs) (17 + 2 * i) = rs[i].1 ∧ zAd (W0 ++ zRs E rs) (17 + 2 * i + 1) = rs[i].2 ∧ zEn (W0 ++ zRs E rs) (17 + 2 * i) = .inr (1, [.int (iI 65536), .ref rs[i].2, .int (iI 0)]) ∧ zEn (W0 ++ zRs E rs) (17 + 2 * i + 1) = .inl (E.2.1 0, 16, .inl (fun _ => 0)) := by
  obtain ⟨a, b⟩ := zRs_at E rs i hi
  have p1 : (W0 ++ zRs E rs)[if 17 + 2 * i < 14 then 17 + 2 * i else 17 + 2 * i - 1]? = some (rs[i].1, .inr (1, [.int (iI 65536), .ref rs[i].2, .int (iI 0)])) := by
    rw [if_neg (by omega), List.getElem?_append_right (by omega), h0, show 17 + 2 * i - 1 - 16 = 2 * i by omega]
    exact a
  have p2 : (W0 ++ zRs E rs)[if 17 + 2 * i + 1 < 14 then 17 + 2 * i + 1 else 17 + 2 * i + 1 - 1]? = some (rs[i].2, .inl (E.2.1 0, 16, .inl (fun _ => 0))) := by
    rw [if_neg (by omega), List.getElem?_append_right (by omega), h0, show 17 + 2 * i + 1 - 1 - 16 = 2 * i + 1 by omega]
    exact b
  unfold zAd zEn
  rw [List.getD_eq_getElem?_getD, List.getD_eq_getElem?_getD, p1, p2]
  exact ⟨rfl, rfl, rfl, rfl⟩
theorem zfresh_get {W : va_W} {i : Nat} (hl : W.length = 216) (hi : zRo false 0 i) : W[if i < 14 then i else i - 1]? = some (zAd W i, zEn W i) := by
  have h1 : i < 217 ∧ i ≠ 14 := by
    rcases hi with ⟨a, b⟩ | ⟨a, b⟩
    · exact ⟨a, fun q => absurd (b q) (by decide)⟩
    · omega
  unfold zAd zEn
  have h2 : (if i < 14 then i else i - 1) < W.length := by rw [hl]; split <;> omega
  rw [List.getD_eq_getElem?_getD, List.getElem?_eq_getElem h2]
  rfl
theorem zSt_fresh {E : zP} {A : Nat → Prop} {H : Heap} {x en tx q gr h w ca rb oq es ta sa al mk mq : Nat} {u p : Bool} {rs : List (Nat × Nat)} (hrs : rs.length = 100) (hso : E.2.2.1 4 < E.2.2.2) (hA : ∀ y, A y → zOld E y)
    (hP : va_P E.1 zcl ([(x, .inr (0, [.ref en, .ref tx, .ref gr, .ref h, .ref w, .int (iI 0), .int (iI (-1))])), (en, .inr (2, [.int (iI (bN u))])), (tx, .inr (1, [.int (iI 65536), .ref q, .int (iI 0)])), (q, .inl (E.2.1 0, 16, .inl (fun _ => 0))), (gr, .inr (5, [.ref ta, .ref sa, .ref al, .ref mk, .int (iI 0), .int (iI 0)])), (h, .inr (6, [.ref en, .ref ca, .ref rb, .ref (E.2.2.1 1), .ref (E.2.2.1 1), .int (iI (bN false))])), (w, .inr (8, [.ref tx, .ref gr, .ref h, .ref en, .ref es, .int (iI (bN false)), .int (iI (bN false)), .int (iI (bN false)), .int (iI 0), .int (iI (-1))])), (ca, .inr (3, [.int (iI ((5 * sp_many u p : Nat) : Int))])), (rb, .inr (1, [.int (iI 262144), .ref oq, .int (iI 0)])), (oq, .inl (E.2.1 0, 16, .inl (fun _ => 0))), (es, .inr (7, [.ref tx, .ref en, .int (iI 0), .int (iI 0)])), (ta, .inl (E.2.1 4, 100, .inr (.inr (.inr (.inr (zRf rs)))))), (sa, .inl (E.2.1 1, 100, .inl (fun _ => 0))), (al, .inr (9, [.ref (E.2.2.1 4), .int (iI 0), .int (iI 0)])), (mk, .inr (1, [.int (iI 65536), .ref mq, .int (iI 0)])), (mq, .inl (E.2.1 0, 16, .inl (fun _ => 0)))] ++ zRs E rs) H) (hD : va_D A ([(x, .inr (0, [.ref en, .ref tx, .ref gr, .ref h, .ref w, .int (iI 0), .int (iI (-1))])), (en, .inr (2, [.int (iI (bN u))])), (tx, .inr (1, [.int (iI 65536), .ref q, .int (iI 0)])), (q, .inl (E.2.1 0, 16, .inl (fun _ => 0))), (gr, .inr (5, [.ref ta, .ref sa, .ref al, .ref mk, .int (iI 0), .int (iI 0)])), (h, .inr (6, [.ref en, .ref ca, .ref rb, .ref (E.2.2.1 1), .ref (E.2.2.1 1), .int (iI (bN false))])), (w, .inr (8, [.ref tx, .ref gr, .ref h, .ref en, .ref es, .int (iI (bN false)), .int (iI (bN false)), .int (iI (bN false)), .int (iI 0), .int (iI (-1))])), (ca, .inr (3, [.int (iI ((5 * sp_many u p : Nat) : Int))])), (rb, .inr (1, [.int (iI 262144), .ref oq, .int (iI 0)])), (oq, .inl (E.2.1 0, 16, .inl (fun _ => 0))), (es, .inr (7, [.ref tx, .ref en, .int (iI 0), .int (iI 0)])), (ta, .inl (E.2.1 4, 100, .inr (.inr (.inr (.inr (zRf rs)))))), (sa, .inl (E.2.1 1, 100, .inl (fun _ => 0))), (al, .inr (9, [.ref (E.2.2.1 4), .int (iI 0), .int (iI 0)])), (mk, .inr (1, [.int (iI 65536), .ref mq, .int (iI 0)])), (mq, .inl (E.2.1 0, 16, .inl (fun _ => 0)))] ++ zRs E rs)) :
    ∃ (ad : Nat → Nat) (en' : Nat → va_E), ad 0 = x ∧ (∀ i, zRo false 0 i → A (ad i)) ∧ zSt E false 0 ad en' ((u, p), [], ((0, fun _ => none, [], []), 0), [], 0, -1) (16, 16, 16, fun _ => 16) H := by
  obtain ⟨W0, hW0⟩ : ∃ W0, W0 = ([(x, .inr (0, [.ref en, .ref tx, .ref gr, .ref h, .ref w, .int (iI 0), .int (iI (-1))])), (en, .inr (2, [.int (iI (bN u))])), (tx, .inr (1, [.int (iI 65536), .ref q, .int (iI 0)])), (q, .inl (E.2.1 0, 16, .inl (fun _ => 0))), (gr, .inr (5, [.ref ta, .ref sa, .ref al, .ref mk, .int (iI 0), .int (iI 0)])), (h, .inr (6, [.ref en, .ref ca, .ref rb, .ref (E.2.2.1 1), .ref (E.2.2.1 1), .int (iI (bN false))])), (w, .inr (8, [.ref tx, .ref gr, .ref h, .ref en, .ref es, .int (iI (bN false)), .int (iI (bN false)), .int (iI (bN false)), .int (iI 0), .int (iI (-1))])), (ca, .inr (3, [.int (iI ((5 * sp_many u p : Nat) : Int))])), (rb, .inr (1, [.int (iI 262144), .ref oq, .int (iI 0)])), (oq, .inl (E.2.1 0, 16, .inl (fun _ => 0))), (es, .inr (7, [.ref tx, .ref en, .int (iI 0), .int (iI 0)])), (ta, .inl (E.2.1 4, 100, .inr (.inr (.inr (.inr (zRf rs)))))), (sa, .inl (E.2.1 1, 100, .inl (fun _ => 0))), (al, .inr (9, [.ref (E.2.2.1 4), .int (iI 0), .int (iI 0)])), (mk, .inr (1, [.int (iI 65536), .ref mq, .int (iI 0)])), (mq, .inl (E.2.1 0, 16, .inl (fun _ => 0)))] : va_W) := ⟨_, rfl⟩
  have h16 : W0.length = 16 := by rw [hW0]; rfl
  have hlen : (W0 ++ zRs E rs).length = 216 := by rw [List.length_append, h16, zRs_len, hrs]
  rw [← hW0] at hP hD
  have hg : ∀ i, zRo false 0 i → (W0 ++ zRs E rs)[if i < 14 then i else i - 1]? = some (zAd (W0 ++ zRs E rs) i, zEn (W0 ++ zRs E rs) i) := fun i hi => zfresh_get hlen hi
  have hrow : ∀ i, i < 100 → zAd (W0 ++ zRs E rs) (17 + 2 * i) = (rs.getD i (0, 0)).1 ∧ zAd (W0 ++ zRs E rs) (17 + 2 * i + 1) = (rs.getD i (0, 0)).2 ∧ zEn (W0 ++ zRs E rs) (17 + 2 * i) = .inr (1, [.int (iI 65536), .ref (rs.getD i (0, 0)).2, .int (iI 0)]) ∧ zEn (W0 ++ zRs E rs) (17 + 2 * i + 1) = .inl (E.2.1 0, 16, .inl (fun _ => 0)) := by
    intro i hi
    have hi' : i < rs.length := by omega
    have e : rs.getD i (0, 0) = rs[i] := by rw [List.getD_eq_getElem?_getD, List.getElem?_eq_getElem hi']; rfl
    rw [e]
    exact zfresh_row h16 i hi'
  have hta : zRf rs = zTa (zAd (W0 ++ zRs E rs)) := by
    funext i
    unfold zRf zTa
    by_cases hi : i < 100
    · rw [if_pos hi, (hrow i hi).1, List.getD_eq_getElem?_getD, List.getElem?_eq_getElem (show i < rs.length by omega)]
      rfl
    · rw [if_neg hi, List.getElem?_eq_none (by omega)]
      rfl
  refine ⟨zAd (W0 ++ zRs E rs), zEn (W0 ++ zRs E rs), by rw [hW0]; rfl, fun i hi => hD.2 _ _ (hg i hi), ⟨fun i j hi hj e => ?_, fun i hi => hA _ (hD.2 _ _ (hg i hi)), fun i hi => hP _ _ (hg i hi)⟩, fun _ => ⟨hso, trivial⟩, ?_⟩
  · have k := hD.1 _ _ _ _ (hg i hi) (hg j hj) e
    have a1 : i < 217 ∧ i ≠ 14 := by
      rcases hi with ⟨a, b⟩ | ⟨a, b⟩
      · exact ⟨a, fun q => absurd (b q) (by decide)⟩
      · omega
    have a2 : j < 217 ∧ j ≠ 14 := by
      rcases hj with ⟨a, b⟩ | ⟨a, b⟩
      · exact ⟨a, fun q => absurd (b q) (by decide)⟩
      · omega
    split at k <;> split at k <;> omega
  · have hsa : (fun _ => 0 : Nat → Int32) = fun i => iI (bN ((fun _ => none : Nat → Option (List Nat)) i).isSome) := funext fun _ => (by decide : (0 : Int32) = iI (bN false))
    have hz : zbytes [] 16 (fun _ => (0 : Int32)) := zbytes_nil (by decide)
    have hcap : sp_capok 16 := Or.inl rfl
    have hR : ∀ (r : Nat) (most : Int), zEn (W0 ++ zRs E rs) r = .inr (1, [.int (iI most), .ref (zAd (W0 ++ zRs E rs) (r + 1)), .int (iI 0)]) → zEn (W0 ++ zRs E rs) (r + 1) = .inl (E.2.1 0, 16, .inl (fun _ => 0)) → zRw E (zAd (W0 ++ zRs E rs)) (zEn (W0 ++ zRs E rs)) r most [] 16 := fun r most a b => ⟨fun _ => 0, a, b, hz, zfit0 16⟩
    have hGr : zGr E false 0 (zAd (W0 ++ zRs E rs)) (zEn (W0 ++ zRs E rs)) u (0, fun _ => none, [], []) 0 16 (fun _ => 16) := by
      refine ⟨?_, ?_, ?_, ?_, ?_, ?_, ?_, ?_, ?_⟩
      · rw [hW0] <;> rfl
      · rw [← hta, hW0] <;> rfl
      · have e9 : zEn (W0 ++ zRs E rs) 12 = .inl (E.2.1 1, 100, .inl (fun _ => 0)) := by rw [hW0] <;> rfl
        rw [e9, hsa]
      · intro i hi
        exact ⟨[], hR _ _ (by rw [(hrow i hi).2.2.1, (hrow i hi).2.1]) (hrow i hi).2.2.2, fun cs hc => nomatch hc⟩
      · exact hR 15 65536 (by rw [hW0] <;> rfl) (by rw [hW0] <;> rfl)
      · exact fun c hc => nomatch hc
      · exact Nat.zero_le _
      · exact ⟨0, 0, fun _ => none, by rw [hW0] <;> rfl, (fun ho => nomatch ho), fun _ => rfl⟩
      · exact ⟨[], rfl, fun x => Iff.rfl, fun j hj => absurd hj (Nat.not_lt_zero _)⟩
    refine ⟨?_, ?_, ?_, ⟨hR 2 65536 ?_ ?_, hcap, Nat.zero_le _⟩, ⟨hR 8 262144 ?_ ?_, hcap⟩, ⟨0, 0, false, ?_, Nat.zero_le _, Nat.zero_le _⟩, ⟨false, false, false, 0, -1, 0, 0, ?_, ?_⟩, hGr⟩
    all_goals (rw [hW0] <;> rfl)
