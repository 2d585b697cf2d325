/-! writePart's loop: its start, its steps, its end. -/
theorem sp_pcap_ge {cap : Nat} {r : sp_R} (hc : sp_capok cap) : cap ≤ sp_pcap cap r := by
  have := sp_capok_r hc
  unfold sp_pcap
  split <;> omega
theorem zPi_first {M : sp_Md} {G : sp_Src} {t : List Nat} {d j k : Nat} {of0 : Int} {cap : Nat} {o : sp_O} {f : Nat → Int32} (hkj : k ≤ j) (hj : j ≤ t.length) (hB : zbytes o.1 cap f) (hF : zfit cap f) (hc : sp_capok cap) (hm : o.2.1 ≤ 2) (ho : o.2.2 ≤ 2) (htl : (sp_encs M.1 t).length ≤ 65536) : zPi M G t (if d = 0 then none else some (sp_part M G t (d - 1))) j of0 cap (sp_part M G t d k j o) k ((sp_off M.1 t k : Nat) : Int) 0 of0 o false cap f := by
  have hb := sp_off_le_len M.1 (t := t) (i := k) (by omega)
  refine ⟨hB, hF, hc, hm, ho, Nat.le_refl _, sp_pcap_ge hc, ⟨by omega, by omega⟩, ⟨by decide, by decide⟩, Or.inl ⟨rfl, rfl, rfl, sp_part_loop, rfl, fun _ => rfl, fun h => ?_⟩⟩
  have := sp_off_mono M.1 (t := t) h (by omega)
  omega
theorem zPi_next {M : sp_Md} {G : sp_Src} {t : List Nat} {dp : Option (Nat → Nat → sp_O → sp_R)} {j m cap cap1 cap2 : Nat} {of0 aa of nxt cd2 of2 cd3 of3 : Int} {R r : sp_R} {o1 o2 : sp_O} {full full2 : Bool} {f1 f2 : Nat → Int32} (hz : zPi M G t dp j of0 cap R m aa 0 of o1 full cap1 f1) (hd : sp_grD dp) (hm : m < j) (hj : j ≤ t.length) (htl : (sp_encs M.1 t).length ≤ 65536) (hr : r = sp_step M G t dp m j o1) (hcd : sp_cd r) (hB2 : zbytes o2.1 cap2 f2) (hF2 : zfit cap2 f2) (hc2 : sp_capok cap2) (hcap2 : cap2 = sp_pcap cap1 r) (hm2 : o2.2.1 ≤ 2) (ho2 : o2.2.2 ≤ 2) (hn : 0 ≤ nxt ∧ nxt ≤ 131072)
    (b0 : r.1 = 0 → cd2 = 0 ∧ of2 = of0 ∧ full2 = false ∧ o2 = r.2.2.2 ∧ (r.2.2.1 < j → nxt = ((sp_off M.1 t r.2.2.1 : Nat) : Int)) ∧ (j ≤ r.2.2.1 → ((sp_off M.1 t j : Nat) : Int) ≤ nxt))
    (b48 : r.1 = -48 → full2 = true ∧ ((cd2 = 0 ∧ of2 = of0) ∨ (cd2 = -48 ∧ of2 = -1)))
    (bx : r.1 ≠ 0 → r.1 ≠ -48 → full2 = false ∧ cd2 = r.1 ∧ of2 = ((sp_off M.1 t r.2.1.toNat : Nat) : Int) ∧ o2 = r.2.2.2)
    (hff : full2 = false → cd3 = cd2 ∧ of3 = of2) (hft : full2 = true → cd3 = (if cd2 = 0 then -48 else cd2) ∧ of3 = (if cd2 = 0 then -1 else of2)) : zPi M G t dp j of0 cap R r.2.2.1 (max (aa + 1) nxt) cd3 of3 o2 full2 cap2 f2 := by
  obtain ⟨a1, a2, a3, a4, a5, a6, a7, a8, -, a9⟩ := hz
  rcases a9 with ⟨-, -, -, e1, e2, e3, e4⟩ | ⟨h, -⟩
  · have hb := sp_off_le_len M.1 (t := t) (i := m) (by omega)
    have ea := e3 hm
    rw [sp_loop_step hm, ← hr] at e1
    have hg1 := sp_pcap_ge (r := r) a3
    have hg2 := sp_pcap_ge (r := R) hc2
    by_cases h0 : r.1 = 0
    · obtain ⟨c1, c2, c3, c4, c5, c6⟩ := b0 h0
      obtain ⟨d1, d2⟩ := hff c3
      rw [if_pos h0] at e1
      have hnx : m + 1 ≤ r.2.2.1 := by
        have := sp_nx_step (M := M) (G := G) (t := t) (dp := dp) (o := o1) hm
        rw [← hr] at this
        exact this h0
      have hgr : r.2.2.2.1.length ≤ R.2.2.2.1.length := by rw [e1]; exact sp_gr_loop hd _ _ _
      have e5 : sp_pcap cap2 R = sp_pcap cap R := by rw [hcap2, sp_pcap_go h0 hgr]; exact e2
      refine ⟨hB2, hF2, hc2, hm2, ho2, by omega, by omega, ⟨by omega, by omega⟩, ⟨by omega, by omega⟩, Or.inl ⟨by omega, by omega, c3, by rw [c4]; exact e1, e5, fun h => ?_, fun h => ?_⟩⟩
      · have q := c5 h
        have := (sp_off_lt M.1 (t := t) (i := m) (j := r.2.2.1) (by omega) (by omega)).2 (by omega)
        omega
      · have := c6 h
        omega
    · rw [if_neg h0] at e1
      subst e1
      have hcap : cap2 = sp_pcap cap R := by rw [hcap2]; exact e2
      by_cases h48 : R.1 = -48
      · obtain ⟨c1, c2⟩ := b48 h48
        obtain ⟨d1, d2⟩ := hft c1
        have q : cd3 = -48 ∧ of3 = -1 := by
          rcases c2 with ⟨c2, -⟩ | ⟨c2, c3⟩
          · rw [if_pos c2] at d1 d2
            exact ⟨d1, d2⟩
          · rw [if_neg (by omega)] at d1 d2
            exact ⟨by omega, by omega⟩
        exact ⟨hB2, hF2, hc2, hm2, ho2, by omega, by omega, ⟨by omega, by omega⟩, ⟨by omega, by omega⟩, Or.inr ⟨by omega, h0, hcap, fun _ => ⟨c1, q⟩, fun h => absurd h48 h⟩⟩
      · obtain ⟨c1, c2, c3, c4⟩ := bx h0 h48
        obtain ⟨d1, d2⟩ := hff c1
        have hl := hcd.1
        have hu := hcd.2
        exact ⟨hB2, hF2, hc2, hm2, ho2, by omega, by omega, ⟨by omega, by omega⟩, ⟨by omega, by omega⟩, Or.inr ⟨by omega, h0, hcap, fun h => absurd h h48, fun _ => ⟨c1, by omega, by omega, c4⟩⟩⟩
  · exact absurd rfl h
