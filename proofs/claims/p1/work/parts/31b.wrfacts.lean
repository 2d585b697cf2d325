/-! References and numbers in the text. -/
theorem sp_dig_asc {z c : Int} (h : z = c ∨ (128 ≤ z ∧ 128 ≤ c)) : sp_dig z = sp_dig c := by
  rcases h with rfl | h
  · rfl
  · unfold sp_dig
    rw [decide_eq_false (by omega), decide_eq_false (by omega)]
theorem sp_let_asc {z c : Int} (h : z = c ∨ (128 ≤ z ∧ 128 ≤ c)) : sp_let z = sp_let c := by
  rcases h with rfl | h
  · rfl
  · unfold sp_let
    rw [decide_eq_false (by omega), decide_eq_false (by omega)]
theorem sp_wrd_asc {z c : Int} (h : z = c ∨ (128 ≤ z ∧ 128 ≤ c)) : sp_wrd z = sp_wrd c := by
  unfold sp_wrd
  rw [sp_dig_asc h, sp_let_asc h]
  rcases h with rfl | h
  · rfl
  · rw [decide_eq_false (show ¬ z = 95 by omega), decide_eq_false (show ¬ c = 95 by omega)]
theorem sp_dig_r {z : Int} (h : sp_dig z = true) : 48 ≤ z ∧ z ≤ 57 := of_decide_eq_true h
theorem sp_wrd_r {z : Int} (h : sp_wrd z = true) : 48 ≤ z ∧ z ≤ 122 := by
  simp only [sp_wrd, sp_let, sp_dig, Bool.or_eq_true, decide_eq_true_eq] at h
  omega
theorem sp_dig_wrd {z : Int} (h : sp_dig z = true) : sp_wrd z = true := by
  unfold sp_wrd
  rw [h]
  simp
-- a run of characters of one byte
theorem sp_off_run (utf : Bool) {t : List Nat} {i : Nat} : ∀ d, i + d ≤ t.length → (∀ k, i ≤ k → k < i + d → t.getD k 0 < 128) → sp_off utf t (i + d) = sp_off utf t i + d := by
  intro d
  induction d with
  | zero => intro _ _; rfl
  | succ d ih =>
    intro h hk
    rw [show i + (d + 1) = i + d + 1 by omega, sp_off_asc utf (by omega) (hk (i + d) (by omega) (by omega)), ih (by omega) (fun k h1 h2 => hk k h1 (by omega))]
    omega
theorem sp_run_bytes (utf : Bool) {t : List Nat} {i j : Nat} (hij : i ≤ j) (hj : j ≤ t.length) (hk : ∀ k, i ≤ k → k < j → t.getD k 0 < 128) : ((sp_encs utf t).drop (sp_off utf t i)).take (sp_off utf t j - sp_off utf t i) = (t.drop i).take (j - i) := by
  obtain ⟨d, rfl⟩ : ∃ d, j = i + d := ⟨j - i, by omega⟩
  rw [sp_off_run utf d hj hk, sp_off_drop]
  have hlen : ((t.drop i).take d).length = d := by rw [List.length_take, List.length_drop]; omega
  have e : t.drop i = (t.drop i).take d ++ (t.drop i).drop d := (List.take_append_drop _ _).symm
  have hasc : sp_encs utf ((t.drop i).take d) = (t.drop i).take d := by
    have : ∀ l : List Nat, (∀ x ∈ l, x < 128) → sp_encs utf l = l := by
      intro l
      induction l with
      | nil => intro _; rfl
      | cons x l ih =>
        intro h
        rw [sp_encs_cons, ih (fun y hy => h y (List.mem_cons_of_mem _ hy))]
        unfold sp_enc
        rw [if_pos (Or.inr (h x List.mem_cons_self))]
        rfl
    apply this
    intro x hx
    obtain ⟨m, hm, rfl⟩ := List.mem_iff_getElem.mp hx
    rw [hlen] at hm
    have := hk (i + m) (by omega) (by omega)
    rw [List.getElem_take, List.getElem_drop]
    rw [List.getD_eq_getElem?_getD, List.getElem?_eq_getElem (by omega)] at this
    exact this
  rw [show sp_off utf t i + d - sp_off utf t i = d by omega, show i + d - i = d by omega]
  conv => lhs; rw [e, sp_encs_append, hasc]
  rw [List.take_append_of_le_length (by omega), List.take_of_length_le (by omega)]
theorem sp_num_step {t : List Nat} {k j v : Nat} (h : k < j) : sp_num t (j - k) k v = sp_num t (j - (k + 1)) (k + 1) (min 65535 (v * 10 + t.getD k 0 - 48)) := by
  rw [show j - k = (j - (k + 1)) + 1 by omega, sp_num]
theorem sp_num_end {t : List Nat} {k j v : Nat} (h : j ≤ k) : sp_num t (j - k) k v = v := by
  rw [show j - k = 0 by omega]
  rfl
theorem sp_num_le {t : List Nat} : ∀ (f k v : Nat), v ≤ 65535 → sp_num t f k v ≤ 65535 := by
  intro f
  induction f with
  | zero => intro k v h; exact h
  | succ f ih => intro k v h; rw [sp_num]; exact ih _ _ (Nat.min_le_left _ _)
