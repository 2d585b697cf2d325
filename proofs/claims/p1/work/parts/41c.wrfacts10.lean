/-! The codes are small. -/
def sp_cd (r : sp_R) : Prop := -100 ≤ r.1 ∧ r.1 ≤ 0
theorem sp_cd_bad {c : Int} {k : Nat} {o : sp_O} (h : -100 ≤ c ∧ c ≤ 0) : sp_cd (sp_bad c k o) := h
theorem sp_cd_goes {i : Nat} {o : sp_O} : sp_cd (sp_goes i o) := ⟨(by decide : (-100 : Int) ≤ 0), (by decide : (0 : Int) ≤ 0)⟩
theorem sp_cd_lift {i : Nat} {o : sp_O} {r : Option sp_O} : sp_cd (sp_lift i o r) := by
  cases r with
  | none => exact ⟨(by decide : (-100 : Int) ≤ -48), (by decide : (-48 : Int) ≤ 0)⟩
  | some x => exact ⟨(by decide : (-100 : Int) ≤ 0), (by decide : (0 : Int) ≤ 0)⟩
theorem sp_cd_group {M : sp_Md} {G : sp_Src} {r : Option (Option Nat)} {k i : Nat} {o : sp_O} : sp_cd (sp_group M G r k i o) := by
  unfold sp_group
  split
  · split
    · split
      · exact sp_cd_goes
      · exact sp_cd_bad (by decide)
    · exact sp_cd_bad (by decide)
  · split
    · exact sp_cd_goes
    · exact sp_cd_bad (by decide)
  · exact sp_cd_lift
theorem sp_cd_mark {M : sp_Md} {G : sp_Src} {t : List Nat} {k e i : Nat} {br : Bool} {o : sp_O} : sp_cd (sp_mark M G t k e br i o) := by
  unfold sp_mark
  split
  · split
    · exact sp_cd_bad (by decide)
    · exact sp_cd_lift
  · exact sp_cd_bad (by decide)
theorem sp_cd_in {r : sp_R} {two : Nat} (h : sp_cd r) : sp_cd (sp_in r two) := by
  unfold sp_in
  split
  · exact sp_cd_goes
  · exact h
def sp_cdD (dp : Option (Nat → Nat → sp_O → sp_R)) : Prop := ∀ go, dp = some go → ∀ a b o, sp_cd (go a b o)
theorem sp_cd_choice {M : sp_Md} {G : sp_Src} {t : List Nat} {dp : Option (Nat → Nat → sp_O → sp_R)} {k e i j : Nat} {o : sp_O} (hd : sp_cdD dp) : sp_cd (sp_choice M G t dp k e i j o) := by
  unfold sp_choice
  dsimp only
  split
  · exact sp_cd_bad (by decide)
  · rename_i one h1
    split
    · exact sp_cd_bad (by decide)
    · rename_i two h2
      split
      · exact sp_cd_bad (by decide)
      · rename_i go
        have hg := hd go rfl
        split
        · split
          · split
            · exact sp_cd_in (r := go (j + 2) one o) (two := two) (hg _ _ _)
            · split
              · exact sp_cd_in (r := go (one + 1) two o) (two := two) (hg _ _ _)
              · exact sp_cd_goes
          · exact sp_cd_bad (by decide)
        · split
          · exact sp_cd_in (r := go (j + 2) one o) (two := two) (hg _ _ _)
          · split
            · exact sp_cd_in (r := go (one + 1) two o) (two := two) (hg _ _ _)
            · exact sp_cd_goes
        · split
          · exact sp_cd_lift
          · exact sp_cd_in (r := go (j + 2) one o) (two := two) (hg _ _ _)
theorem sp_cd_dollar {M : sp_Md} {G : sp_Src} {t : List Nat} {dp : Option (Nat → Nat → sp_O → sp_R)} {k e : Nat} {o : sp_O} (hd : sp_cdD dp) : sp_cd (sp_dollar M G t dp k e o) := by
  obtain ⟨br, hbr⟩ : ∃ x, decide (sp_see t (k + 1) e = 123) = x := ⟨_, rfl⟩
  obtain ⟨i, hi⟩ : ∃ x, x = if br then k + 2 else k + 1 := ⟨_, rfl⟩
  rw [sp_dollar_eq hbr hi]
  clear hi
  split
  · exact sp_cd_lift
  · split
    · exact sp_cd_mark
    · split
      · exact sp_cd_bad (by decide)
      · split
        · exact sp_cd_group
        · split
          · exact sp_cd_group
          · split
            · exact sp_cd_choice hd
            · exact sp_cd_bad (by decide)
theorem sp_cd_slash {M : sp_Md} {t : List Nat} {k e : Nat} {o : sp_O} : sp_cd (sp_slash M t k e o) := by
  unfold sp_slash
  split
  · exact sp_cd_lift
  · split
    · exact sp_cd_goes
    · split
      · exact sp_cd_goes
      · split
        · exact sp_cd_goes
        · split
          · exact sp_cd_goes
          · split
            · exact sp_cd_goes
            · split
              · exact sp_cd_lift
              · split
                · exact sp_cd_bad (by decide)
                · exact sp_cd_lift
theorem sp_cd_step {M : sp_Md} {G : sp_Src} {t : List Nat} {dp : Option (Nat → Nat → sp_O → sp_R)} {k e : Nat} {o : sp_O} (hd : sp_cdD dp) : sp_cd (sp_step M G t dp k e o) := by
  unfold sp_step
  split
  · exact sp_cd_dollar hd
  · split
    · exact sp_cd_slash
    · exact sp_cd_lift
theorem sp_cd_loop {M : sp_Md} {G : sp_Src} {t : List Nat} {dp : Option (Nat → Nat → sp_O → sp_R)} {e : Nat} (hd : sp_cdD dp) : ∀ (f k : Nat) (o : sp_O), sp_cd (sp_loop M G t dp e f k o)
  | 0, k, o => sp_cd_goes
  | f + 1, k, o => by
    unfold sp_loop
    split
    · split
      · exact sp_cd_loop hd f _ _
      · exact sp_cd_step hd
    · exact sp_cd_goes
theorem sp_cd_part {M : sp_Md} {G : sp_Src} {t : List Nat} : ∀ (d k e : Nat) (o : sp_O), sp_cd (sp_part M G t d k e o)
  | 0, k, e, o => sp_cd_loop (fun go h => by cases h) _ _ _
  | d + 1, k, e, o => sp_cd_loop (fun go h => by cases h; exact sp_cd_part d) _ _ _
theorem sp_cdD_at {M : sp_Md} {G : sp_Src} {t : List Nat} {d : Nat} : sp_cdD (if d = 0 then none else some (sp_part M G t (d - 1))) := by
  intro go h
  split at h
  · cases h
  · cases h
    exact sp_cd_part _
/-! What holds at the head of writePart's loop. -/
def zPi (M : sp_Md) (G : sp_Src) (t : List Nat) (dp : Option (Nat → Nat → sp_O → sp_R)) (j : Nat) (of0 : Int) (cap : Nat) (R : sp_R) (m : Nat) (aa cd of : Int) (o1 : sp_O) (full : Bool) (cap1 : Nat) (f1 : Nat → Int32) : Prop :=
  zbytes o1.1 cap1 f1 ∧ zfit cap1 f1 ∧ sp_capok cap1 ∧ o1.2.1 ≤ 2 ∧ o1.2.2 ≤ 2 ∧ cap ≤ cap1 ∧ cap1 ≤ sp_pcap cap R ∧ (0 ≤ aa ∧ aa ≤ 200000) ∧ (-100 ≤ cd ∧ cd ≤ 0) ∧
  ((cd = 0 ∧ of = of0 ∧ full = false ∧ R = sp_loop M G t dp j (j - m) m o1 ∧ sp_pcap cap1 R = sp_pcap cap R ∧ (m < j → aa = ((sp_off M.1 t m : Nat) : Int)) ∧ (j ≤ m → ((sp_off M.1 t j : Nat) : Int) ≤ aa)) ∨
   (cd ≠ 0 ∧ R.1 ≠ 0 ∧ cap1 = sp_pcap cap R ∧ (R.1 = -48 → full = true ∧ cd = -48 ∧ of = -1) ∧ (R.1 ≠ -48 → full = false ∧ cd = R.1 ∧ of = ((sp_off M.1 t R.2.1.toNat : Nat) : Int) ∧ o1 = R.2.2.2)))
