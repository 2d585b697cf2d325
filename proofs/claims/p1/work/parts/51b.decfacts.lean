/-! A text without a bad place is its characters' bytes; how many characters it has. -/
theorem sp_drop1 {l : List Nat} {k : Nat} (h : k < l.length) : l.drop k = sp_b l k :: l.drop (k + 1) := by
  rw [List.drop_eq_getElem_cons h]
  unfold sp_b
  rw [List.getD_eq_getElem?_getD, List.getElem?_eq_getElem h]
  rfl
theorem sp_good_enc {utf : Bool} {l : List Nat} {k : Nat} (hk : k < l.length) (h : sp_good utf l k = true) : l.drop k = sp_enc utf (sp_chr utf l k) ++ l.drop (k + sp_lead utf (sp_b l k)) ∧ sp_ok utf (sp_chr utf l k) = true ∧ 1 ≤ sp_lead utf (sp_b l k) ∧ k + sp_lead utf (sp_b l k) ≤ l.length := by
  unfold sp_good at h
  simp only [Bool.and_eq_true, Bool.or_eq_true, decide_eq_true_eq, sp_con] at h
  obtain ⟨⟨⟨⟨⟨h1, h2⟩, h3⟩, h4⟩, h5⟩, h6⟩ := h
  have hl : sp_lead utf (sp_b l k) = 1 ∨ sp_lead utf (sp_b l k) = 2 ∨ sp_lead utf (sp_b l k) = 3 ∨ sp_lead utf (sp_b l k) = 4 := by
    unfold sp_lead at h1 ⊢
    repeat' split
    all_goals simp_all
  have hb : (sp_lead utf (sp_b l k) = 1 ∧ (utf = false ∨ sp_b l k < 128)) ∨ (utf = true ∧ 194 ≤ sp_b l k ∧ sp_b l k ≤ 244 ∧ (sp_lead utf (sp_b l k) = 2 → sp_b l k < 224) ∧ (sp_lead utf (sp_b l k) = 3 → 224 ≤ sp_b l k ∧ sp_b l k < 240) ∧ (sp_lead utf (sp_b l k) = 4 → 240 ≤ sp_b l k) ∧ sp_lead utf (sp_b l k) ≠ 1) := by
    unfold sp_lead
    by_cases q : utf = false ∨ sp_b l k < 128
    · left
      exact ⟨if_pos q, q⟩
    · right
      have hu : utf = true := by cases utf <;> simp_all
      have hq2 : ¬ sp_b l k < 128 := fun z => q (Or.inr z)
      unfold sp_lead at h1
      rw [if_neg q] at h1 ⊢
      by_cases q3 : sp_b l k < 194 ∨ 244 < sp_b l k
      · rw [if_pos q3] at h1
        exact absurd rfl h1
      · rw [if_neg q3]
        refine ⟨hu, by omega, by omega, ?_, ?_, ?_, ?_⟩
        all_goals (repeat' split) <;> omega
  rcases hb with ⟨e1, q⟩ | ⟨hu, b1, b2, b3, b4, b5, b6⟩
  · have ec : sp_chr utf l k = sp_b l k := by unfold sp_chr; simp only [e1]; simp
    have ee : sp_enc utf (sp_b l k) = [sp_b l k] := by unfold sp_enc; rw [if_pos q]
    rw [ec] at h5
    rw [ec, e1, ee]
    exact ⟨sp_drop1 hk, h5, Nat.le_refl _, by omega⟩
  · subst hu
    rcases hl with e | e | e | e
    · exact absurd e b6
    · have c1 := h2.resolve_left (by omega)
      have ec : sp_chr true l k = sp_b l k % 32 * 64 + sp_b l (k + 1) % 64 := by unfold sp_chr; simp only [e]; simp
      have b3' := b3 e
      rw [ec] at h5 h6
      rw [ec, e]
      refine ⟨?_, h5, by omega, by omega⟩
      rw [sp_drop1 hk, sp_drop1 c1.1]
      unfold sp_enc
      rw [if_neg (fun z => z.elim (fun y => nomatch y) (fun y => by omega)), if_pos (by omega)]
      simp only [List.cons_append, List.nil_append, List.cons.injEq]
      refine ⟨by omega, by omega, trivial⟩
    · have c1 := h2.resolve_left (by omega)
      have c2 := h3.resolve_left (by omega)
      have ec : sp_chr true l k = (sp_b l k % 16 * 64 + sp_b l (k + 1) % 64) * 64 + sp_b l (k + 2) % 64 := by unfold sp_chr; simp only [e]; simp
      have b4' := b4 e
      rw [ec] at h5 h6
      rw [e] at h6
      have hc : 2048 ≤ (sp_b l k % 16 * 64 + sp_b l (k + 1) % 64) * 64 + sp_b l (k + 2) % 64 := by
        unfold sp_len at h6
        rw [if_neg] at h6
        · split at h6
          · omega
          · omega
        · rintro (z | z)
          · simp at z
          · rw [if_pos (Or.inr z)] at h6
            omega
      rw [ec, e]
      refine ⟨?_, h5, by omega, by omega⟩
      rw [sp_drop1 hk, sp_drop1 c1.1, sp_drop1 c2.1]
      unfold sp_enc
      rw [if_neg (fun z => z.elim (fun y => nomatch y) (fun y => by omega)), if_neg (by omega), if_pos (by omega)]
      simp only [List.cons_append, List.nil_append, List.cons.injEq]
      refine ⟨by omega, by omega, by omega, trivial⟩
    · have c1 := h2.resolve_left (by omega)
      have c2 := h3.resolve_left (by omega)
      have c3 := h4.resolve_left (by omega)
      have ec : sp_chr true l k = ((sp_b l k % 8 * 64 + sp_b l (k + 1) % 64) * 64 + sp_b l (k + 2) % 64) * 64 + sp_b l (k + 3) % 64 := by unfold sp_chr; simp only [e]; simp
      have b5' := b5 e
      rw [ec] at h5 h6
      rw [e] at h6
      have hc : 65536 ≤ ((sp_b l k % 8 * 64 + sp_b l (k + 1) % 64) * 64 + sp_b l (k + 2) % 64) * 64 + sp_b l (k + 3) % 64 := by
        unfold sp_len at h6
        rw [if_neg] at h6
        · split at h6
          · omega
          · split at h6 <;> omega
        · rintro (z | z)
          · simp at z
          · rw [if_pos (Or.inr z)] at h6
            omega
      rw [ec, e]
      refine ⟨?_, h5, by omega, by omega⟩
      rw [sp_drop1 hk, sp_drop1 c1.1, sp_drop1 c2.1, sp_drop1 c3.1]
      unfold sp_enc
      rw [if_neg (fun z => z.elim (fun y => nomatch y) (fun y => by omega)), if_neg (by omega), if_neg (by omega)]
      simp only [List.cons_append, List.nil_append, List.cons.injEq]
      refine ⟨by omega, by omega, by omega, by omega, trivial⟩
theorem sp_dec_good {utf : Bool} {l : List Nat} : ∀ (f k : Nat), l.length ≤ k + f → (sp_dec utf l f k).2 < 0 → l.drop k = sp_encs utf (sp_dec utf l f k).1 ∧ sp_oks utf (sp_dec utf l f k).1
  | 0, k, h, _ => by
    refine ⟨?_, fun c hc => nomatch hc⟩
    rw [List.drop_eq_nil_of_le (by omega)]
    rfl
  | f + 1, k, h, hd => by
    unfold sp_dec at hd ⊢
    by_cases q : l.length ≤ k
    · rw [if_pos q]
      refine ⟨?_, fun c hc => nomatch hc⟩
      rw [List.drop_eq_nil_of_le q]
      rfl
    · rw [if_neg q] at hd ⊢
      by_cases g : sp_good utf l k = true
      · rw [if_pos g] at hd ⊢
        obtain ⟨e1, e2, e3, e4⟩ := sp_good_enc (by omega) g
        obtain ⟨i1, i2⟩ := sp_dec_good f (k + sp_lead utf (sp_b l k)) (by omega) hd
        refine ⟨?_, ?_⟩
        · rw [e1, i1]
          rfl
        · intro c hc
          rcases List.mem_cons.mp hc with rfl | hc
          · exact e2
          · exact i2 c hc
      · rw [if_neg g] at hd
        simp at hd
        omega
theorem sp_text_ok {utf : Bool} {l : List Nat} (h : sp_fault utf l < 0) : l = sp_encs utf (sp_chars utf l) ∧ sp_oks utf (sp_chars utf l) := by
  have := sp_dec_good l.length 0 (by omega) h
  rw [List.drop_zero] at this
  exact this
theorem sp_cnt_enc {utf : Bool} {c : Nat} (h : sp_ok utf c = true) : (sp_enc utf c).countP (sp_beg utf) = 1 := by
  have hc : c ≤ 1114111 := by
    cases utf <;> simp [sp_ok] at h <;> omega
  unfold sp_enc
  by_cases q : utf = false ∨ c < 128
  · rw [if_pos q]
    have : sp_beg utf c = true := by
      unfold sp_beg
      rcases q with rfl | q
      · rfl
      · simp only [Bool.or_eq_true, decide_eq_true_eq, Bool.not_eq_true', bne_iff_ne]
        right
        omega
    simp [this]
  · rw [if_neg q]
    have hu : utf = true := by cases utf <;> simp_all
    subst hu
    have q' : ¬ c < 128 := fun z => q (Or.inr z)
    have h0 : ∀ x, 128 ≤ x → x < 192 → sp_beg true x = false := by
      intro x h1 h2
      simp [sp_beg]
      omega
    have h1 : ∀ x, 192 ≤ x → x < 256 → sp_beg true x = true := by
      intro x h1 h2
      simp [sp_beg]
      omega
    by_cases q2 : c < 2048
    · rw [if_pos q2]
      simp [h1 (192 + c / 64) (by omega) (by omega), h0 (128 + c % 64) (by omega) (by omega)]
    · rw [if_neg q2]
      by_cases q3 : c < 65536
      · rw [if_pos q3]
        simp [h1 (224 + c / 4096) (by omega) (by omega), h0 (128 + c / 64 % 64) (by omega) (by omega), h0 (128 + c % 64) (by omega) (by omega)]
      · rw [if_neg q3]
        simp [h1 (240 + c / 262144) (by omega) (by omega), h0 (128 + c / 4096 % 64) (by omega) (by omega), h0 (128 + c / 64 % 64) (by omega) (by omega), h0 (128 + c % 64) (by omega) (by omega)]
theorem sp_cnt_encs {utf : Bool} : ∀ {cs : List Nat}, sp_oks utf cs → sp_cnt utf (sp_encs utf cs) = cs.length
  | [], _ => rfl
  | c :: cs, h => by
    have e : sp_encs utf (c :: cs) = sp_enc utf c ++ sp_encs utf cs := rfl
    have i := sp_cnt_encs (cs := cs) (fun x hx => h x (List.mem_cons_of_mem _ hx))
    unfold sp_cnt at i ⊢
    rw [e, List.countP_append, i, sp_cnt_enc (h c List.mem_cons_self), List.length_cons]
    omega
theorem sp_text_cnt {utf : Bool} {l : List Nat} (h : sp_fault utf l < 0) : sp_cnt utf l = (sp_chars utf l).length := by
  obtain ⟨e, o⟩ := sp_text_ok h
  have := sp_cnt_encs o
  rw [← e] at this
  exact this
