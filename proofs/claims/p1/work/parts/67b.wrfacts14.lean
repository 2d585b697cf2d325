/-! Where a code is met. -/
def sp_pl (r : sp_R) : Prop := (r.1 = 0 ∨ r.1 = -48 → r.2.1 = -1) ∧ (r.1 ≠ 0 → r.1 ≠ -48 → 0 ≤ r.2.1)
theorem sp_pl_bad {c : Int} {k : Nat} {o : sp_O} (h : c ≠ 0 ∧ c ≠ -48) : sp_pl (sp_bad c k o) := ⟨fun q => absurd q (fun q => q.elim h.1 h.2), fun _ _ => Int.natCast_nonneg k⟩
theorem sp_pl_goes {i : Nat} {o : sp_O} : sp_pl (sp_goes i o) := ⟨fun _ => rfl, fun q => absurd rfl q⟩
theorem sp_pl_lift {i : Nat} {o : sp_O} {r : Option sp_O} : sp_pl (sp_lift i o r) := by
  cases r with
  | none => exact ⟨fun _ => rfl, fun _ q => absurd rfl q⟩
  | some x => exact ⟨fun _ => rfl, fun q => absurd rfl q⟩
theorem sp_pl_group {M : sp_Md} {G : sp_Src} {r : Option (Option Nat)} {k i : Nat} {o : sp_O} : sp_pl (sp_group M G r k i o) := by
  unfold sp_group
  split
  · split
    · split
      · exact sp_pl_goes
      · exact sp_pl_bad (by decide)
    · exact sp_pl_bad (by decide)
  · split
    · exact sp_pl_goes
    · exact sp_pl_bad (by decide)
  · exact sp_pl_lift
theorem sp_pl_mark {M : sp_Md} {G : sp_Src} {t : List Nat} {k e i : Nat} {br : Bool} {o : sp_O} : sp_pl (sp_mark M G t k e br i o) := by
  unfold sp_mark
  split
  · split
    · exact sp_pl_bad (by decide)
    · exact sp_pl_lift
  · exact sp_pl_bad (by decide)
theorem sp_pl_in {r : sp_R} {two : Nat} (h : sp_pl r) : sp_pl (sp_in r two) := by
  unfold sp_in
  split
  · exact sp_pl_goes
  · exact h
def sp_plD (dp : Option (Nat → Nat → sp_O → sp_R)) : Prop := ∀ go, dp = some go → ∀ a b o, sp_pl (go a b o)
theorem sp_pl_choice {M : sp_Md} {G : sp_Src} {t : List Nat} {dp : Option (Nat → Nat → sp_O → sp_R)} {k e i j : Nat} {o : sp_O} (hd : sp_plD dp) : sp_pl (sp_choice M G t dp k e i j o) := by
  unfold sp_choice
  dsimp only
  split
  · exact sp_pl_bad (by decide)
  · rename_i one h1
    split
    · exact sp_pl_bad (by decide)
    · rename_i two h2
      split
      · exact sp_pl_bad (by decide)
      · rename_i go
        have hg := hd go rfl
        split
        · split
          · split
            · exact sp_pl_in (r := go (j + 2) one o) (two := two) (hg _ _ _)
            · split
              · exact sp_pl_in (r := go (one + 1) two o) (two := two) (hg _ _ _)
              · exact sp_pl_goes
          · exact sp_pl_bad (by decide)
        · split
          · exact sp_pl_in (r := go (j + 2) one o) (two := two) (hg _ _ _)
          · split
            · exact sp_pl_in (r := go (one + 1) two o) (two := two) (hg _ _ _)
            · exact sp_pl_goes
        · split
          · exact sp_pl_lift
          · exact sp_pl_in (r := go (j + 2) one o) (two := two) (hg _ _ _)
theorem sp_pl_dollar {M : sp_Md} {G : sp_Src} {t : List Nat} {dp : Option (Nat → Nat → sp_O → sp_R)} {k e : Nat} {o : sp_O} (hd : sp_plD dp) : sp_pl (sp_dollar M G t dp k e o) := by
  obtain ⟨br, hbr⟩ : ∃ x, decide (sp_see t (k + 1) e = 123) = x := ⟨_, rfl⟩
  obtain ⟨i, hi⟩ : ∃ x, x = if br then k + 2 else k + 1 := ⟨_, rfl⟩
  rw [sp_dollar_eq hbr hi]
  clear hi
  split
  · exact sp_pl_lift
  · split
    · exact sp_pl_mark
    · split
      · exact sp_pl_bad (by decide)
      · split
        · exact sp_pl_group
        · split
          · exact sp_pl_group
          · split
            · exact sp_pl_choice hd
            · exact sp_pl_bad (by decide)
theorem sp_pl_slash {M : sp_Md} {t : List Nat} {k e : Nat} {o : sp_O} : sp_pl (sp_slash M t k e o) := by
  unfold sp_slash
  split
  · exact sp_pl_lift
  · split
    · exact sp_pl_goes
    · split
      · exact sp_pl_goes
      · split
        · exact sp_pl_goes
        · split
          · exact sp_pl_goes
          · split
            · exact sp_pl_goes
            · split
              · exact sp_pl_lift
              · split
                · exact sp_pl_bad (by decide)
                · exact sp_pl_lift
theorem sp_pl_step {M : sp_Md} {G : sp_Src} {t : List Nat} {dp : Option (Nat → Nat → sp_O → sp_R)} {k e : Nat} {o : sp_O} (hd : sp_plD dp) : sp_pl (sp_step M G t dp k e o) := by
  unfold sp_step
  split
  · exact sp_pl_dollar hd
  · split
    · exact sp_pl_slash
    · exact sp_pl_lift
theorem sp_pl_loop {M : sp_Md} {G : sp_Src} {t : List Nat} {dp : Option (Nat → Nat → sp_O → sp_R)} {e : Nat} (hd : sp_plD dp) : ∀ (f k : Nat) (o : sp_O), sp_pl (sp_loop M G t dp e f k o)
  | 0, k, o => sp_pl_goes
  | f + 1, k, o => by
    unfold sp_loop
    split
    · split
      · exact sp_pl_loop hd f _ _
      · exact sp_pl_step hd
    · exact sp_pl_goes
theorem sp_pl_part {M : sp_Md} {G : sp_Src} {t : List Nat} : ∀ (d k e : Nat) (o : sp_O), sp_pl (sp_part M G t d k e o)
  | 0, k, e, o => sp_pl_loop (fun go h => by cases h) _ _ _
  | d + 1, k, e, o => sp_pl_loop (fun go h => by cases h; exact sp_pl_part d) _ _ _
theorem sp_plD_at {M : sp_Md} {G : sp_Src} {t : List Nat} {d : Nat} : sp_plD (if d = 0 then none else some (sp_part M G t (d - 1))) := by
  intro go h
  split at h
  · cases h
  · cases h
    exact sp_pl_part _
theorem sp_part_end {utf : Bool} {t : List Nat} {r : sp_R} {cd of : Int} {o : sp_O} {full : Bool} (hc : sp_cd r) (hp : sp_pl r) (y8 : r.1 = 0 → cd = 0 ∧ of = -1 ∧ full = false ∧ o = r.2.2.2) (y9 : r.1 = -48 → full = true ∧ cd = -48 ∧ of = -1) (y10 : r.1 ≠ 0 → r.1 ≠ -48 → full = false ∧ cd = r.1 ∧ of = ((sp_off utf t r.2.1.toNat : Nat) : Int) ∧ o = r.2.2.2) : cd = r.1 ∧ of = (if r.2.1 < 0 then -1 else ((sp_off utf t r.2.1.toNat : Nat) : Int)) ∧ (r.1 = 0 → o = r.2.2.2) ∧ -100 ≤ cd ∧ cd ≤ 0 := by
  obtain ⟨c1, c2⟩ := hc
  obtain ⟨p1, p2⟩ := hp
  by_cases h0 : r.1 = 0
  · obtain ⟨a, b, -, d⟩ := y8 h0
    have := p1 (Or.inl h0)
    rw [if_pos (by omega)]
    exact ⟨by omega, b, fun _ => d, by omega, by omega⟩
  · by_cases h1 : r.1 = -48
    · obtain ⟨-, a, b⟩ := y9 h1
      have := p1 (Or.inr h1)
      rw [if_pos (by omega)]
      exact ⟨by omega, b, fun q => absurd q h0, by omega, by omega⟩
    · obtain ⟨-, a, b, d⟩ := y10 h0 h1
      have := p2 h0 h1
      rw [if_neg (by omega)]
      exact ⟨a, b, fun _ => d, by omega, by omega⟩
