/-! What the table of case gives stays a character. -/
theorem sp_rows_ok : ∀ r ∈ sp_rows, 0 ≤ r.1 ∧ r.2.1 ≤ 10000 ∧ 0 ≤ r.1 + r.2.2.2.1 ∧ r.2.1 + r.2.2.2.1 ≤ 20000 := by decide +kernel
theorem sp_rows_ok8 : ∀ r ∈ sp_rows.take 3, 0 ≤ r.1 ∧ r.2.1 ≤ 222 ∧ 0 ≤ r.1 + r.2.2.2.1 ∧ r.2.1 + r.2.2.2.1 ≤ 254 := by decide +kernel
theorem sp_find_r (up : Bool) (c M B : Int) : ∀ rs : List sp_Row, (∀ r ∈ rs, 0 ≤ r.1 ∧ r.2.1 ≤ M ∧ 0 ≤ r.1 + r.2.2.2.1 ∧ r.2.1 + r.2.2.2.1 ≤ M) → 0 ≤ c → c ≤ B → M ≤ B → 0 ≤ sp_find up c rs ∧ sp_find up c rs ≤ B := by
  intro rs
  induction rs with
  | nil => intro _ h0 h1 _; exact ⟨h0, h1⟩
  | cons r rs ih =>
    intro h h0 h1 hM
    have hr := h r List.mem_cons_self
    have ihh := ih (fun x hx => h x (List.mem_cons_of_mem _ hx)) h0 h1 hM
    by_cases hc : r.2.2.2.2 ≠ (if up then 2 else 1) ∧ sp_isUp r (if up then c - r.2.2.2.1 else c) = true
    · rw [show sp_find up c (r :: rs) = (if up then c - r.2.2.2.1 else c + r.2.2.2.1) from if_pos hc]
      have h2 := hc.2
      unfold sp_isUp at h2
      have h3 := of_decide_eq_true h2
      cases up
      · simp only [Bool.false_eq_true, if_false] at h3 ⊢
        omega
      · simp only [if_true] at h3 ⊢
        omega
    · rw [show sp_find up c (r :: rs) = sp_find up c rs from if_neg hc]
      exact ihh
theorem sp_case_lt {utf ucp : Bool} {how c : Nat} (h : sp_ok utf c = true) : sp_case utf ucp how c < 2097152 ∧ (utf = false → sp_case utf ucp how c < 256) := by
  have hc : c ≤ 1114111 ∧ (utf = false → c ≤ 255) := by
    cases utf <;> simp [sp_ok] at h <;> simp <;> omega
  unfold sp_case
  split
  · constructor
    · omega
    · intro q; have := hc.2 q; omega
  · constructor
    · have := (sp_find_r (how = 1) (c : Int) 20000 1114111 (sp_rows.take (sp_many utf ucp)) (fun r hr => by have := sp_rows_ok r (List.mem_of_mem_take hr); omega) (by omega) (by omega) (by omega))
      omega
    · intro q
      have := (sp_find_r (how = 1) (c : Int) 254 255 (sp_rows.take (sp_many utf ucp)) (fun r hr => by
        have hm : sp_many utf ucp ≤ 3 := by subst q; unfold sp_many; simp; split <;> omega
        have := sp_rows_ok8 r (List.mem_of_mem_take (i := sp_many utf ucp) (by rw [List.take_take, Nat.min_eq_left hm]; exact hr))
        omega) (by omega) (by have := hc.2 q; omega) (by omega))
      omega
theorem sp_case_eq {utf ucp : Bool} {how c : Nat} (h : sp_ok utf c = true) : (if how = 0 then (c : Int) else sp_find (decide (how = 1)) (c : Int) (sp_rows.take (sp_many utf ucp))) = ((sp_case utf ucp how c : Nat) : Int) := by
  have hc : c ≤ 1114111 := by
    cases utf <;> simp [sp_ok] at h <;> omega
  unfold sp_case
  split
  · rfl
  · have := (sp_find_r (decide (how = 1)) (c : Int) 20000 1114111 (sp_rows.take (sp_many utf ucp)) (fun r hr => by have := sp_rows_ok r (List.mem_of_mem_take hr); omega) (by omega) (by omega) (by omega))
    omega
theorem sp_many_le (utf ucp : Bool) : sp_many utf ucp ≤ 18 := by cases utf <;> cases ucp <;> decide
theorem sp_enc_len (utf : Bool) (c : Nat) : (sp_enc utf c).length = sp_len utf c := by
  unfold sp_enc sp_len
  by_cases h1 : utf = false ∨ c < 128
  · simp [h1]
  · by_cases h2 : c < 2048
    · simp [h1, h2]
    · by_cases h3 : c < 65536
      · simp [h1, h2, h3]
      · simp [h1, h2, h3]
theorem zrow.of {E : zP} {a q cap : Nat} {most : Int} {f : Nat → Int32} {b : List Nat} {H : Heap} (hO : zO E 1 a [.int (iI most), .ref q, .int (iI ((b.length : Nat) : Int))] H) (hA : zA E 0 q cap f H) (hB : zbytes b cap f) : zrow E a b H := ⟨most, q, cap, f, hO, hA, hB⟩
