/-! The loop over a part: every step goes on. -/
def sp_nx (r : sp_R) (m : Nat) : Prop := r.1 = 0 → m ≤ r.2.2.1
theorem sp_nx_bad {c : Int} {k m : Nat} {o : sp_O} (h : c ≠ 0) : sp_nx (sp_bad c k o) m := fun z => absurd (show c = 0 from z) h
theorem sp_nx_goes {i m : Nat} {o : sp_O} (h : m ≤ i) : sp_nx (sp_goes i o) m := fun _ => h
theorem sp_nx_lift {i m : Nat} {o : sp_O} {r : Option sp_O} (h : m ≤ i) : sp_nx (sp_lift i o r) m := by
  cases r with
  | none => exact fun z => absurd (show (-48 : Int) = 0 from z) (by decide)
  | some x => exact fun _ => h
theorem sp_nx_group {M : sp_Md} {G : sp_Src} {r : Option (Option Nat)} {k i m : Nat} {o : sp_O} (h : m ≤ i) : sp_nx (sp_group M G r k i o) m := by
  unfold sp_group
  split
  · split
    · split
      · exact sp_nx_goes h
      · exact sp_nx_bad (by decide)
    · exact sp_nx_bad (by decide)
  · split
    · exact sp_nx_goes h
    · exact sp_nx_bad (by decide)
  · exact sp_nx_lift h
theorem sp_nx_mark {M : sp_Md} {G : sp_Src} {t : List Nat} {k e i m : Nat} {br : Bool} {o : sp_O} (h : m ≤ i) : sp_nx (sp_mark M G t k e br i o) m := by
  unfold sp_mark
  split
  · split
    · exact sp_nx_bad (by decide)
    · exact sp_nx_lift (by split <;> omega)
  · exact sp_nx_bad (by decide)
def sp_in (r : sp_R) (two : Nat) : sp_R := if r.1 = 0 then sp_goes (two + 1) r.2.2.2 else (r.1, r.2.1, 0, r.2.2.2)
theorem sp_nx_in {r : sp_R} {two m : Nat} (h : m ≤ two + 1) : sp_nx (sp_in r two) m := by
  unfold sp_in
  split
  · exact sp_nx_goes h
  · rename_i q
    exact fun z => absurd (show r.1 = 0 from z) q
theorem sp_end_r {t : List Nat} {i j k : Nat} {colon : Bool} (h : sp_end t i j colon = some k) : i ≤ k ∧ k < j ∧ (t.getD k 0 = 125 ∨ (t.getD k 0 = 58 ∧ colon = true)) := sp_cl_r (j - i) i 0 k (Nat.le_refl _) h
theorem sp_nx_choice {M : sp_Md} {G : sp_Src} {t : List Nat} {dp : Option (Nat → Nat → sp_O → sp_R)} {k e i j m : Nat} {o : sp_O} (h : m ≤ j) : sp_nx (sp_choice M G t dp k e i j o) m := by
  unfold sp_choice
  dsimp only
  split
  · exact sp_nx_bad (by decide)
  · rename_i one h1
    have r1 := sp_end_r h1
    split
    · exact sp_nx_bad (by decide)
    · rename_i two h2
      have r2 : m ≤ two + 1 := by
        split at h2
        · have := sp_end_r h2; omega
        · injection h2 with h2; omega
      split
      · exact sp_nx_bad (by decide)
      · rename_i go
        split
        · split
          · split
            · exact sp_nx_in (r := go (j + 2) one o) r2
            · split
              · exact sp_nx_in (r := go (one + 1) two o) r2
              · exact sp_nx_goes r2
          · exact sp_nx_bad (by decide)
        · split
          · exact sp_nx_in (r := go (j + 2) one o) r2
          · split
            · exact sp_nx_in (r := go (one + 1) two o) r2
            · exact sp_nx_goes r2
        · split
          · exact sp_nx_lift r2
          · exact sp_nx_in (r := go (j + 2) one o) r2
theorem sp_nx_dollar {M : sp_Md} {G : sp_Src} {t : List Nat} {dp : Option (Nat → Nat → sp_O → sp_R)} {k e : Nat} {o : sp_O} (h : k < e) : sp_nx (sp_dollar M G t dp k e o) (k + 1) := by
  obtain ⟨br, hbr⟩ : ∃ x, decide (sp_see t (k + 1) e = 123) = x := ⟨_, rfl⟩
  obtain ⟨i, hi⟩ : ∃ x, x = if br then k + 2 else k + 1 := ⟨_, rfl⟩
  have hki : k + 1 ≤ i := by rw [hi]; split <;> omega
  have hie : i ≤ e := by
    cases br with
    | true =>
      have := sp_see_in (t := t) (i := k + 1) (e := e) (by have := of_decide_eq_true hbr; omega)
      simp only [if_true] at hi
      omega
    | false => simp only [Bool.false_eq_true, if_false] at hi; omega
  rw [sp_dollar_eq hbr hi]
  have hr := (sp_refEnd_r (t := t) hie).1
  split
  · exact sp_nx_lift (by omega)
  · split
    · exact sp_nx_mark hki
    · split
      · exact sp_nx_bad (by decide)
      · split
        · exact sp_nx_group (by omega)
        · split
          · exact sp_nx_group (by omega)
          · split
            · exact sp_nx_choice (by omega)
            · exact sp_nx_bad (by decide)
theorem sp_nx_slash {M : sp_Md} {t : List Nat} {k e : Nat} {o : sp_O} (h : k < e) : sp_nx (sp_slash M t k e o) (k + 1) := by
  unfold sp_slash
  split
  · have q := (sp_see_in (t := t) (i := k + 1) (e := e) (by omega))
    refine sp_nx_lift ?_
    have : k + 2 ≤ sp_quote t e (e - (k + 2)) (k + 2) := by
      generalize e - (k + 2) = f
      generalize k + 2 = a
      induction f generalizing a with
      | zero => exact Nat.le_refl _
      | succ f ih =>
        unfold sp_quote
        split
        · have := ih (a + 1); omega
        · exact Nat.le_refl _
    omega
  · split
    · exact sp_nx_goes (by omega)
    · split
      · exact sp_nx_goes (by omega)
      · split
        · exact sp_nx_goes (by omega)
        · split
          · exact sp_nx_goes (by omega)
          · split
            · exact sp_nx_goes (by omega)
            · split
              · exact sp_nx_lift (by omega)
              · split
                · exact sp_nx_bad (by decide)
                · rename_i v j hj
                  have hc := sp_esc_pos hj
                  have hi := sp_see_in (t := t) (i := k + 1) (e := e) hc
                  have := (sp_esc_ok (by omega) hj).2.1
                  exact sp_nx_lift (by omega)
theorem sp_nx_step {M : sp_Md} {G : sp_Src} {t : List Nat} {dp : Option (Nat → Nat → sp_O → sp_R)} {k e : Nat} {o : sp_O} (h : k < e) : sp_nx (sp_step M G t dp k e o) (k + 1) := by
  unfold sp_step
  split
  · exact sp_nx_dollar h
  · split
    · exact sp_nx_slash h
    · exact sp_nx_lift (Nat.le_refl _)
theorem sp_loop_out {M : sp_Md} {G : sp_Src} {t : List Nat} {dp : Option (Nat → Nat → sp_O → sp_R)} {k e : Nat} {o : sp_O} (h : e ≤ k) : ∀ f, sp_loop M G t dp e f k o = sp_goes k o
  | 0 => rfl
  | f + 1 => by unfold sp_loop; rw [if_neg (by omega)]
theorem sp_loop_fuel {M : sp_Md} {G : sp_Src} {t : List Nat} {dp : Option (Nat → Nat → sp_O → sp_R)} {e : Nat} : ∀ (f g k : Nat) (o : sp_O), e - k ≤ f → e - k ≤ g → sp_loop M G t dp e f k o = sp_loop M G t dp e g k o
  | 0, g, k, o, h1, _ => by rw [sp_loop_out (by omega), sp_loop_out (by omega)]
  | f + 1, 0, k, o, _, h2 => by rw [sp_loop_out (by omega), sp_loop_out (by omega)]
  | f + 1, g + 1, k, o, h1, h2 => by
    unfold sp_loop
    split
    · rename_i q
      split
      · rename_i z
        have := sp_nx_step (M := M) (G := G) (t := t) (dp := dp) (o := o) q z
        exact sp_loop_fuel f g _ _ (by omega) (by omega)
      · rfl
    · rfl
theorem sp_loop_step {M : sp_Md} {G : sp_Src} {t : List Nat} {dp : Option (Nat → Nat → sp_O → sp_R)} {k e : Nat} {o : sp_O} (h : k < e) : sp_loop M G t dp e (e - k) k o = if (sp_step M G t dp k e o).1 = 0 then sp_loop M G t dp e (e - (sp_step M G t dp k e o).2.2.1) (sp_step M G t dp k e o).2.2.1 (sp_step M G t dp k e o).2.2.2 else sp_step M G t dp k e o := by
  rw [sp_loop_fuel (e - k) (e - k - 1 + 1) k o (by omega) (by omega)]
  conv => lhs; unfold sp_loop
  rw [if_pos h]
  split
  · rename_i z
    have := sp_nx_step (M := M) (G := G) (t := t) (dp := dp) (o := o) h z
    exact sp_loop_fuel _ _ _ _ (by omega) (by omega)
  · rfl
theorem sp_part_loop {M : sp_Md} {G : sp_Src} {t : List Nat} {d k e : Nat} {o : sp_O} : sp_part M G t d k e o = sp_loop M G t (if d = 0 then none else some (sp_part M G t (d - 1))) e (e - k) k o := by
  cases d with
  | zero => rfl
  | succ d => rfl
