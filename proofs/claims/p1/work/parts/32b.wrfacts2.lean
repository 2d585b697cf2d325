/-! The end of a part, the end of what is quoted: step by step. -/
theorem sp_close_fuel2 (t : List Nat) (e : Nat) (colon : Bool) : ∀ (f g k d : Nat), e - k ≤ f → e - k ≤ g → sp_close t e colon f k d = sp_close t e colon g k d := by
  intro f
  induction f with
  | zero =>
    intro g k d h1 h2
    cases g with
    | zero => rfl
    | succ g => simp [sp_close, show e ≤ k by omega]
  | succ f ih =>
    intro g k d h1 h2
    by_cases hk : e ≤ k
    · cases g with
      | zero => simp [sp_close, hk]
      | succ g => simp [sp_close, hk]
    · cases g with
      | zero => omega
      | succ g =>
        have e1 := ih g (k + 2) d (by omega) (by omega)
        have e2 := ih g (k + 2) (d + 1) (by omega) (by omega)
        have e3 := ih g (k + 1) (d - 1) (by omega) (by omega)
        have e4 := ih g (k + 1) d (by omega) (by omega)
        simp only [sp_close, e1, e2, e3, e4]
def sp_cl (t : List Nat) (e : Nat) (colon : Bool) (k d : Nat) : Option Nat := sp_close t e colon (e - k) k d
theorem sp_cl_out {t : List Nat} {e k d : Nat} {colon : Bool} (h : e ≤ k) : sp_cl t e colon k d = none := by
  unfold sp_cl
  rw [show e - k = 0 by omega]
  rfl
theorem sp_cl_step {t : List Nat} {e k d : Nat} {colon : Bool} (h : k < e) : sp_cl t e colon k d =
    if t.getD k 0 = 92 then sp_cl t e colon (k + 2) d
    else if t.getD k 0 = 36 ∧ sp_see t (k + 1) e = 123 then sp_cl t e colon (k + 2) (d + 1)
    else if t.getD k 0 = 125 then (if d = 0 then some k else sp_cl t e colon (k + 1) (d - 1))
    else if t.getD k 0 = 58 ∧ colon = true ∧ d = 0 then some k
    else sp_cl t e colon (k + 1) d := by
  unfold sp_cl
  conv => lhs; rw [show e - k = (e - (k + 1)) + 1 by omega, sp_close, if_neg (by omega)]
  rw [sp_close_fuel2 t e colon (e - (k + 1)) (e - (k + 2)) (k + 2) d (by omega) (by omega), sp_close_fuel2 t e colon (e - (k + 1)) (e - (k + 2)) (k + 2) (d + 1) (by omega) (by omega)]
theorem sp_end_cl (t : List Nat) (k e : Nat) (colon : Bool) : sp_end t k e colon = sp_cl t e colon k 0 := rfl
theorem sp_pk_b {b : List Nat} {k e : Nat} (he : e ≤ b.length) : sp_pk b (k : Int) (e : Int) = sp_see b k e := by
  unfold sp_pk sp_see
  by_cases h : k < e
  · rw [if_pos (by omega), if_pos h, sp_at_in rfl (by omega)]
    rfl
  · rw [if_neg (by omega), if_neg h]
def sp_gU (u : Bool) (r : Option (Option Nat)) : Int := if sp_gI r = -2 ∧ u = true then -1 else sp_gI r
def sp_qt (t : List Nat) (e k : Nat) : Nat := sp_quote t e (e - k) k
theorem sp_qt_out {t : List Nat} {e k : Nat} (h : e ≤ k) : sp_qt t e k = k := by
  unfold sp_qt
  rw [show e - k = 0 by omega]
  rfl
theorem sp_qt_step {t : List Nat} {e k : Nat} (h : k < e) : sp_qt t e k = if t.getD k 0 = 92 ∧ sp_see t (k + 1) e = 69 then k else sp_qt t e (k + 1) := by
  unfold sp_qt
  conv => lhs; rw [show e - k = (e - (k + 1)) + 1 by omega, sp_quote]
  by_cases q : t.getD k 0 = 92 ∧ sp_see t (k + 1) e = 69
  · rw [if_neg (by intro z; exact z.2 q), if_pos q]
  · rw [if_pos ⟨h, q⟩, if_neg q]
