/-! Runs of digits. -/
theorem sp_to_go {p : Int → Bool} {t : List Nat} {k e : Nat} (h : k < e) (hp : p ((t.getD k 0 : Nat) : Int) = true) : sp_to p t k e = sp_to p t (k + 1) e := by
  unfold sp_to
  rw [show e - k = (e - (k + 1)) + 1 by omega, sp_run, if_pos ⟨h, hp⟩]
theorem sp_to_end {p : Int → Bool} {t : List Nat} {k e : Nat} (h : e ≤ k) : sp_to p t k e = k := by
  unfold sp_to
  rw [show e - k = 0 by omega]
  rfl
theorem sp_to_stop {p : Int → Bool} {t : List Nat} {k e : Nat} (hp : p ((t.getD k 0 : Nat) : Int) = false) : sp_to p t k e = k := by
  unfold sp_to
  cases e - k with
  | zero => rfl
  | succ f => rw [sp_run, if_neg (by rw [hp]; simp)]
theorem sp_val_r (z : Int) : 0 ≤ sp_val z ∧ (sp_val z ≤ 15 ∨ sp_val z = 99) := by
  unfold sp_val
  repeat' split
  all_goals omega
theorem sp_val_asc {z c : Int} (h : z = c ∨ (128 ≤ z ∧ 128 ≤ c)) : sp_val z = sp_val c := by
  rcases h with rfl | h
  · rfl
  · unfold sp_val
    rw [if_neg (by omega), if_neg (by omega), if_neg (by omega), if_neg (by omega), if_neg (by omega), if_neg (by omega)]
theorem sp_val_lt {z : Int} (h : sp_val z < 99) : 0 ≤ z ∧ z < 128 := by
  unfold sp_val at h
  repeat' split at h
  all_goals omega
-- everything from i to where a run ends is in the run
theorem sp_to_all {p : Int → Bool} {t : List Nat} {e : Nat} : ∀ (f i : Nat), e - i ≤ f → i ≤ e → i ≤ sp_to p t i e ∧ sp_to p t i e ≤ e ∧ ∀ k, i ≤ k → k < sp_to p t i e → p ((t.getD k 0 : Nat) : Int) = true := by
  intro f
  induction f with
  | zero => intro i h hi; rw [sp_to_end (by omega)]; exact ⟨Nat.le_refl _, hi, fun k h1 h2 => by omega⟩
  | succ f ih =>
    intro i h hi
    by_cases q : i < e
    · by_cases hp : p ((t.getD i 0 : Nat) : Int) = true
      · rw [sp_to_go q hp]
        obtain ⟨a, b, c⟩ := ih (i + 1) (by omega) (by omega)
        refine ⟨by omega, b, fun k h1 h2 => ?_⟩
        rcases Nat.lt_or_ge i k with z | z
        · exact c k z h2
        · rw [show k = i by omega]; exact hp
      · rw [sp_to_stop (by simpa using hp)]
        exact ⟨Nat.le_refl _, hi, fun k h1 h2 => by omega⟩
    · rw [sp_to_end (by omega)]
      exact ⟨Nat.le_refl _, hi, fun k h1 h2 => by omega⟩
theorem sp_worth_step {r : Nat} {t : List Nat} {k j v : Nat} (h : k < j) : sp_worth r t (j - k) k v = sp_worth r t (j - (k + 1)) (k + 1) (v * r + (sp_val ((t.getD k 0 : Nat) : Int)).toNat) := by
  rw [show j - k = (j - (k + 1)) + 1 by omega, sp_worth]
theorem sp_worth_end {r : Nat} {t : List Nat} {k j v : Nat} (h : j ≤ k) : sp_worth r t (j - k) k v = v := by
  rw [show j - k = 0 by omega]
  rfl
theorem iI_ctl {u d : Int} (h : 32 ≤ d ∧ d ≤ 126) (hu : u = if 97 ≤ d ∧ d ≤ 122 then d - 32 else d) : iI u ^^^ iI 64 = iI ((sp_ctl d : Nat) : Int) := by
  have key : ∀ n : Fin 95, iI (if 97 ≤ ((n.val : Int) + 32) ∧ ((n.val : Int) + 32) ≤ 122 then ((n.val : Int) + 32) - 32 else ((n.val : Int) + 32)) ^^^ iI 64 = iI ((sp_ctl ((n.val : Int) + 32) : Nat) : Int) := by decide +kernel
  have := key ⟨(d - 32).toNat, by omega⟩
  rw [show (((d - 32).toNat : Nat) : Int) + 32 = d by omega] at this
  rw [hu]
  exact this
theorem sp_worth_lt {r : Nat} {t : List Nat} : ∀ (f k v : Nat), (∀ j, k ≤ j → j < k + f → (sp_val ((t.getD j 0 : Nat) : Int)).toNat < r) → sp_worth r t f k v < (v + 1) * r ^ f := by
  intro f
  induction f with
  | zero => intro k v _; simp [sp_worth]
  | succ f ih =>
    intro k v h
    have h1 := h k (Nat.le_refl _) (by omega)
    have h2 := ih (k + 1) (v * r + (sp_val ((t.getD k 0 : Nat) : Int)).toNat) (fun j h3 h4 => h j (by omega) (by omega))
    rw [sp_worth]
    refine Nat.lt_of_lt_of_le h2 ?_
    rw [Nat.pow_succ', ← Nat.mul_assoc]
    apply Nat.mul_le_mul_right
    rw [Nat.add_mul]
    omega
theorem sp_worth_32 {r : Nat} {t : List Nat} {f k : Nat} (hr : r = 8 ∨ r = 16) (hf : f ≤ 8) (h : ∀ j, k ≤ j → j < k + f → (sp_val ((t.getD j 0 : Nat) : Int)).toNat < r) : sp_worth r t f k 0 < 4294967296 := by
  have h1 := sp_worth_lt f k 0 h
  have h2 : (0 + 1) * r ^ f ≤ 4294967296 := by
    rw [Nat.zero_add, Nat.one_mul]
    rcases hr with rfl | rfl
    · exact Nat.le_trans (Nat.pow_le_pow_right (by omega) hf) (by decide)
    · exact Nat.le_trans (Nat.pow_le_pow_right (by omega) hf) (by decide)
  omega
