/-! The search in the table of case. -/
theorem sp_rows_len : sp_rows.length = 18 := rfl
theorem sp_take_drop {mr r : Nat} (h : r < mr) (hm : mr ≤ 18) : (sp_rows.take mr).drop r = sp_row r :: (sp_rows.take mr).drop (r + 1) := by
  have hl : r < (sp_rows.take mr).length := by rw [List.length_take, sp_rows_len]; omega
  rw [List.drop_eq_getElem_cons hl]
  congr 1
  rw [List.getElem_take]
  unfold sp_row
  rw [List.getD_eq_getElem?_getD, List.getElem?_eq_getElem (by rw [sp_rows_len]; omega)]
  rfl
theorem sp_find_step (up : Bool) (c : Int) {mr r : Nat} (h : r < mr) (hm : mr ≤ 18) : sp_find up c ((sp_rows.take mr).drop r) = if (sp_row r).2.2.2.2 ≠ (if up then 2 else 1) ∧ sp_isUp (sp_row r) (if up then c - (sp_row r).2.2.2.1 else c) = true then (if up then c - (sp_row r).2.2.2.1 else c + (sp_row r).2.2.2.1) else sp_find up c ((sp_rows.take mr).drop (r + 1)) := by
  rw [sp_take_drop h hm]
  rfl
theorem sp_find_end (up : Bool) (c : Int) {mr r : Nat} (h : mr ≤ r) : sp_find up c ((sp_rows.take mr).drop r) = c := by
  rw [List.drop_of_length_le (by rw [List.length_take]; omega)]
  rfl
