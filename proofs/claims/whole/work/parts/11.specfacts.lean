/-! Facts of the specification, without the machine. -/
theorem sp_at_in {b : List Nat} {z : Int} {n : Nat} (hz : z = (n : Int)) (h : n < b.length) : sp_at b z = ((sp_b b n : Nat) : Int) := by
  subst hz
  unfold sp_at sp_b
  rw [if_pos (by omega)]
  simp
theorem sp_con_at (b : List Nat) (n : Nat) : sp_con b n = decide (128 ≤ sp_at b (n : Int) ∧ sp_at b (n : Int) < 192) := by
  unfold sp_con
  by_cases h : n < b.length
  · rw [sp_at_in rfl h]
    congr 1
    apply propext
    omega
  · unfold sp_at
    rw [if_neg (by omega)]
    congr 1
    apply propext
    omega
theorem sp_lead_le (utf : Bool) (x : Nat) : sp_lead utf x ≤ 4 := by
  unfold sp_lead
  repeat' split
  all_goals omega
theorem sp_b_lt {b : List Nat} (h : ∀ x ∈ b, x < 256) (k : Nat) : sp_b b k < 256 := by
  unfold sp_b
  by_cases hk : k < b.length
  · exact getD_lt h hk
  · rw [List.getD_eq_getElem?_getD, List.getElem?_eq_none (by omega)]
    decide
theorem sp_chr_lt (utf : Bool) {b : List Nat} (h : ∀ x ∈ b, x < 256) (k : Nat) : sp_chr utf b k < 2097152 := by
  have := sp_b_lt h k
  unfold sp_chr
  simp only
  repeat' split
  all_goals omega
theorem sp_len_le (utf : Bool) (x : Nat) : 1 ≤ sp_len utf x ∧ sp_len utf x ≤ 4 := by
  unfold sp_len
  repeat' split
  all_goals omega
