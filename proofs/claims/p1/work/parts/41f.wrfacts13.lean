/-! The room of a step of writePart's loop. -/
theorem zPi_room {M : sp_Md} {G : sp_Src} {t : List Nat} {dp : Option (Nat → Nat → sp_O → sp_R)} {j m cap cap1 : Nat} {of0 aa of : Int} {R r : sp_R} {o1 : sp_O} {full : Bool} {f1 : Nat → Int32} (hz : zPi M G t dp j of0 cap R m aa 0 of o1 full cap1 f1) (hd : sp_grD dp) (hm : m < j) (hr : r = sp_step M G t dp m j o1) : cap1 ≤ sp_pcap cap1 r ∧ sp_pcap cap1 r ≤ sp_pcap cap R := by
  obtain ⟨a1, a2, a3, a4, a5, a6, a7, a8, -, a9⟩ := hz
  refine ⟨sp_pcap_ge a3, ?_⟩
  rcases a9 with ⟨-, -, -, e1, e2, e3, e4⟩ | ⟨h, -⟩
  · rw [sp_loop_step hm, ← hr] at e1
    by_cases h0 : r.1 = 0
    · rw [if_pos h0] at e1
      have hgr : r.2.2.2.1.length ≤ R.2.2.2.1.length := by rw [e1]; exact sp_gr_loop hd _ _ _
      have hok : sp_capok (sp_pcap cap1 r) := by
        unfold sp_pcap
        rw [if_neg (by omega)]
        exact sp_capok_max a3 (sp_up_ok _)
      have := sp_pcap_ge (r := R) hok
      rw [sp_pcap_go h0 hgr] at this
      omega
    · rw [if_neg h0] at e1
      rw [← e2, e1]
      exact Nat.le_refl _
  · exact absurd rfl h
theorem sp_cd2 {r : sp_R} {cd2 : Int} (h : sp_cd r) (h0 : r.1 = 0 → cd2 = 0) (h48 : r.1 = -48 → cd2 = 0 ∨ cd2 = -48) (hx : r.1 ≠ 0 → r.1 ≠ -48 → cd2 = r.1) : -100 ≤ cd2 ∧ cd2 ≤ 0 := by
  have qa := h.1
  have qb := h.2
  by_cases w0 : r.1 = 0
  · have := h0 w0
    omega
  · by_cases w1 : r.1 = -48
    · have := h48 w1
      omega
    · have := hx w0 w1
      omega
