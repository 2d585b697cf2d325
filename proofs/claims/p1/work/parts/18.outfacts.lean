/-! Writing many characters. -/
theorem sp_encs_cons (utf : Bool) (c : Nat) (cs : List Nat) : sp_encs utf (c :: cs) = sp_enc utf c ++ sp_encs utf cs := by simp [sp_encs]
theorem sp_encs_nil (utf : Bool) : sp_encs utf [] = [] := rfl
theorem sp_one_some {utf ucp : Bool} {out : List Nat} {mode once c t how : Nat} (hhow : how = if once = 0 then mode else once) (ht : t = sp_case utf ucp how c) (h : out.length + sp_len utf t ≤ 262144) : sp_one utf ucp (out, mode, once) c = some (out ++ sp_enc utf t, mode, 0) := by
  unfold sp_one
  simp only
  rw [← hhow, ← ht, if_pos (by rw [sp_enc_len]; exact h)]
theorem sp_one_none {utf ucp : Bool} {out : List Nat} {mode once c t how : Nat} (hhow : how = if once = 0 then mode else once) (ht : t = sp_case utf ucp how c) (h : ¬ out.length + sp_len utf t ≤ 262144) : sp_one utf ucp (out, mode, once) c = none := by
  unfold sp_one
  simp only
  rw [← hhow, ← ht, if_neg (by rw [sp_enc_len]; exact h)]
theorem sp_one_len {utf ucp : Bool} {o o' : sp_O} {c : Nat} (h : sp_one utf ucp o c = some o') : o.1.length ≤ o'.1.length ∧ o'.1.length ≤ 262144 ∧ o'.2.1 = o.2.1 ∧ o'.2.2 = 0 := by
  unfold sp_one at h
  generalize sp_enc utf (sp_case utf ucp (if o.2.2 = 0 then o.2.1 else o.2.2) c) = w at h
  split at h
  · rename_i hl
    cases h
    refine ⟨?_, ?_, rfl, rfl⟩
    · show o.1.length ≤ (o.1 ++ w).length
      rw [List.length_append]; omega
    · show (o.1 ++ w).length ≤ 262144
      rw [List.length_append]; exact hl
  · cases h
theorem sp_all_len {utf ucp : Bool} : ∀ (cs : List Nat) (o o' : sp_O), sp_all utf ucp cs o = some o' → o.1.length ≤ o'.1.length ∧ o'.2.1 = o.2.1 ∧ (o.2.2 ≤ 2 → o'.2.2 ≤ 2) ∧ (o.1.length ≤ 262144 → o'.1.length ≤ 262144) := by
  intro cs
  induction cs with
  | nil => intro o o' h; cases h; exact ⟨Nat.le_refl _, rfl, id, id⟩
  | cons c cs ih =>
    intro o o' h
    unfold sp_all at h
    split at h
    · cases h
    · rename_i o1 h1
      have a := sp_one_len h1
      have b := ih o1 o' h
      exact ⟨by omega, by rw [b.2.1, a.2.2.1], fun _ => b.2.2.1 (by omega), fun _ => b.2.2.2 a.2.1⟩
theorem sp_all_cons {utf ucp : Bool} {c : Nat} {cs : List Nat} {o o1 : sp_O} (h : sp_one utf ucp o c = some o1) : sp_all utf ucp (c :: cs) o = sp_all utf ucp cs o1 := by
  rw [sp_all, h]
theorem sp_encs_pos {utf : Bool} {cs : List Nat} (h : 0 < (sp_encs utf cs).length) : ∃ c cs', cs = c :: cs' := by
  cases cs with
  | nil => exact absurd h (by simp [sp_encs])
  | cons c cs => exact ⟨c, cs, rfl⟩
theorem sp_encs_zero {utf : Bool} {cs : List Nat} (h : (sp_encs utf cs).length = 0) : cs = [] := by
  cases cs with
  | nil => rfl
  | cons c cs =>
    rw [sp_encs_cons, List.length_append, sp_enc_len] at h
    have := (sp_len_le utf c).1
    omega
theorem sp_encs_append (utf : Bool) (a b : List Nat) : sp_encs utf (a ++ b) = sp_encs utf a ++ sp_encs utf b := by simp [sp_encs]
