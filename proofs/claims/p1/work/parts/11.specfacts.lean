/-! Facts of the specification, without the machine. -/
theorem sp_at_in {b : List Nat} {z : Int} {n : Nat} (hz : z = (n : Int)) (h : n < b.length) : sp_at b z = ((sp_b b n : Nat) : Int) := by
  subst hz
  unfold sp_at sp_b
  rw [if_pos (by omega)]
  simp
theorem sp_con_at (b : List Nat) (n : Nat) : sp_con b n = decide (128 ≤ sp_at b (n : Int) ∧ sp_at b (n : Int) < 192) := by
  unfold sp_con
  by_cases h : n < b.length
  · rw [sp_at_in rfl h]
    congr 1
    apply propext
    omega
  · unfold sp_at
    rw [if_neg (by omega)]
    congr 1
    apply propext
    omega
theorem sp_lead_le (utf : Bool) (x : Nat) : sp_lead utf x ≤ 4 := by
  unfold sp_lead
  repeat' split
  all_goals omega
theorem sp_b_lt {b : List Nat} (h : ∀ x ∈ b, x < 256) (k : Nat) : sp_b b k < 256 := by
  unfold sp_b
  by_cases hk : k < b.length
  · exact getD_lt h hk
  · rw [List.getD_eq_getElem?_getD, List.getElem?_eq_none (by omega)]
    decide
theorem sp_chr_lt (utf : Bool) {b : List Nat} (h : ∀ x ∈ b, x < 256) (k : Nat) : sp_chr utf b k < 2097152 := by
  have := sp_b_lt h k
  unfold sp_chr
  simp only
  repeat' split
  all_goals omega
theorem sp_len_le (utf : Bool) (x : Nat) : 1 ≤ sp_len utf x ∧ sp_len utf x ≤ 4 := by
  unfold sp_len
  repeat' split
  all_goals omega
theorem sp_good_false {b : List Nat} (h : ∀ x ∈ b, x < 256) (k : Nat) : sp_good false b k = true := by
  have := sp_b_lt h k
  have e : sp_lead false (sp_b b k) = 1 := by simp [sp_lead]
  have ec : sp_chr false b k = sp_b b k := by simp [sp_chr, e]
  simp [sp_good, e, ec, sp_ok, sp_len]
  omega
theorem sp_good_lead {utf : Bool} {b : List Nat} {k : Nat} (h : sp_good utf b k = true) : 1 ≤ sp_lead utf (sp_b b k) := by
  simp [sp_good] at h
  omega
theorem sp_dec_end {utf : Bool} {b : List Nat} {f k : Nat} (h : b.length ≤ k) : sp_dec utf b f k = ([], -1) := by
  cases f with
  | zero => rfl
  | succ f => simp [sp_dec, h]
theorem sp_dec_bad {utf : Bool} {b : List Nat} {f k : Nat} (hf : b.length ≤ k + f) (h : k < b.length) (hg : sp_good utf b k = false) : sp_dec utf b f k = ([], (k : Int)) := by
  cases f with
  | zero => omega
  | succ f => simp [sp_dec, hg]; omega
theorem sp_dec_go {utf : Bool} {b : List Nat} {f k : Nat} (h : k < b.length) (hg : sp_good utf b k = true) : sp_dec utf b (f + 1) k = (sp_chr utf b k :: (sp_dec utf b f (k + sp_lead utf (sp_b b k))).1, (sp_dec utf b f (k + sp_lead utf (sp_b b k))).2) := by
  rw [sp_dec, if_neg (by omega), if_pos hg]
theorem sp_dec_false {b : List Nat} (h : ∀ x ∈ b, x < 256) : ∀ f k, (sp_dec false b f k).2 = -1 := by
  intro f
  induction f with
  | zero => intro k; rfl
  | succ f ih =>
    intro k
    by_cases hk : b.length ≤ k
    · rw [sp_dec_end hk]
    · rw [sp_dec_go (by omega) (sp_good_false h k)]
      exact ih _
theorem sp_fault_false {b : List Nat} (h : ∀ x ∈ b, x < 256) : sp_fault false b = -1 := sp_dec_false h _ _
-- how many bytes of a row begin a character
def sp_beg (utf : Bool) (x : Nat) : Bool := !utf || decide (x < 128 ∨ 192 ≤ x)
def sp_cnt (utf : Bool) (b : List Nat) : Nat := b.countP (sp_beg utf)
theorem sp_cnt_succ (utf : Bool) (b : List Nat) (i : Nat) (h : i < b.length) : sp_cnt utf (b.take (i + 1)) = sp_cnt utf (b.take i) + if sp_beg utf (sp_b b i) = true then 1 else 0 := by
  unfold sp_cnt
  rw [List.take_succ_eq_append_getElem h, List.countP_append]
  have e : sp_b b i = b[i] := by
    unfold sp_b
    rw [List.getD_eq_getElem?_getD, List.getElem?_eq_getElem h]
    rfl
  rw [e]
  simp [List.countP_cons]
theorem sp_cnt_le (utf : Bool) (b : List Nat) (i : Nat) : sp_cnt utf (b.take i) ≤ b.length := by
  unfold sp_cnt
  exact Nat.le_trans List.countP_le_length (by rw [List.length_take]; omega)
theorem sp_good_len {utf : Bool} {b : List Nat} {k : Nat} (hk : k < b.length) (h : sp_good utf b k = true) : k + sp_lead utf (sp_b b k) ≤ b.length := by
  have := sp_lead_le utf (sp_b b k)
  simp [sp_good, sp_con] at h
  omega
