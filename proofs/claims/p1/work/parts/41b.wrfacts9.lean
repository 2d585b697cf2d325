/-! The result only grows. -/
def sp_gr (r : sp_R) (o : sp_O) : Prop := o.1.length ≤ r.2.2.2.1.length
theorem sp_gr_bad {c : Int} {k : Nat} {o : sp_O} : sp_gr (sp_bad c k o) o := Nat.le_refl _
theorem sp_gr_goes {i : Nat} {o : sp_O} {m n : Nat} : sp_gr (sp_goes i (o.1, m, n)) o := Nat.le_refl _
theorem sp_gr_goes' {i : Nat} {o : sp_O} : sp_gr (sp_goes i o) o := Nat.le_refl _
theorem sp_gr_lift {i : Nat} {o : sp_O} {r : Option sp_O} (h : ∀ x, r = some x → o.1.length ≤ x.1.length) : sp_gr (sp_lift i o r) o := by
  cases r with
  | none => exact Nat.le_refl _
  | some x => exact h x rfl
theorem sp_gr_all {i : Nat} {o : sp_O} {utf ucp : Bool} {cs : List Nat} : sp_gr (sp_lift i o (sp_all utf ucp cs o)) o := sp_gr_lift (fun x h => (sp_all_len cs o x h).1)
theorem sp_gr_one {i : Nat} {o : sp_O} {utf ucp : Bool} {c : Nat} : sp_gr (sp_lift i o (sp_one utf ucp o c)) o := sp_gr_lift (fun _ h => (sp_one_len h).1)
theorem sp_gr_group {M : sp_Md} {G : sp_Src} {r : Option (Option Nat)} {k i : Nat} {o : sp_O} : sp_gr (sp_group M G r k i o) o := by
  unfold sp_group
  split
  · split
    · split
      · exact sp_gr_goes'
      · exact sp_gr_bad
    · exact sp_gr_bad
  · split
    · exact sp_gr_goes'
    · exact sp_gr_bad
  · exact sp_gr_all
theorem sp_gr_mark {M : sp_Md} {G : sp_Src} {t : List Nat} {k e i : Nat} {br : Bool} {o : sp_O} : sp_gr (sp_mark M G t k e br i o) o := by
  unfold sp_mark
  split
  · split
    · exact sp_gr_bad
    · exact sp_gr_all
  · exact sp_gr_bad
theorem sp_gr_in {r : sp_R} {two : Nat} {o : sp_O} (h : sp_gr r o) : sp_gr (sp_in r two) o := by
  unfold sp_in
  split
  · exact h
  · exact h
def sp_grD (dp : Option (Nat → Nat → sp_O → sp_R)) : Prop := ∀ go, dp = some go → ∀ a b o, sp_gr (go a b o) o
theorem sp_gr_choice {M : sp_Md} {G : sp_Src} {t : List Nat} {dp : Option (Nat → Nat → sp_O → sp_R)} {k e i j : Nat} {o : sp_O} (hd : sp_grD dp) : sp_gr (sp_choice M G t dp k e i j o) o := by
  unfold sp_choice
  dsimp only
  split
  · exact sp_gr_bad
  · rename_i one h1
    split
    · exact sp_gr_bad
    · rename_i two h2
      split
      · exact sp_gr_bad
      · rename_i go
        have hg := hd go rfl
        split
        · split
          · split
            · exact sp_gr_in (r := go (j + 2) one o) (two := two) (hg _ _ _)
            · split
              · exact sp_gr_in (r := go (one + 1) two o) (two := two) (hg _ _ _)
              · exact sp_gr_goes'
          · exact sp_gr_bad
        · split
          · exact sp_gr_in (r := go (j + 2) one o) (two := two) (hg _ _ _)
          · split
            · exact sp_gr_in (r := go (one + 1) two o) (two := two) (hg _ _ _)
            · exact sp_gr_goes'
        · split
          · exact sp_gr_all
          · exact sp_gr_in (r := go (j + 2) one o) (two := two) (hg _ _ _)
theorem sp_gr_dollar {M : sp_Md} {G : sp_Src} {t : List Nat} {dp : Option (Nat → Nat → sp_O → sp_R)} {k e : Nat} {o : sp_O} (hd : sp_grD dp) : sp_gr (sp_dollar M G t dp k e o) o := by
  obtain ⟨br, hbr⟩ : ∃ x, decide (sp_see t (k + 1) e = 123) = x := ⟨_, rfl⟩
  obtain ⟨i, hi⟩ : ∃ x, x = if br then k + 2 else k + 1 := ⟨_, rfl⟩
  rw [sp_dollar_eq hbr hi]
  clear hi
  split
  · exact sp_gr_one
  · split
    · exact sp_gr_mark
    · split
      · exact sp_gr_bad
      · split
        · exact sp_gr_group
        · split
          · exact sp_gr_group
          · split
            · exact sp_gr_choice hd
            · exact sp_gr_bad
theorem sp_gr_slash {M : sp_Md} {t : List Nat} {k e : Nat} {o : sp_O} : sp_gr (sp_slash M t k e o) o := by
  unfold sp_slash
  split
  · exact sp_gr_all
  · split
    · exact sp_gr_goes
    · split
      · exact sp_gr_goes
      · split
        · exact sp_gr_goes
        · split
          · exact sp_gr_goes
          · split
            · exact sp_gr_goes
            · split
              · exact sp_gr_one
              · split
                · exact sp_gr_bad
                · exact sp_gr_one
theorem sp_gr_step {M : sp_Md} {G : sp_Src} {t : List Nat} {dp : Option (Nat → Nat → sp_O → sp_R)} {k e : Nat} {o : sp_O} (hd : sp_grD dp) : sp_gr (sp_step M G t dp k e o) o := by
  unfold sp_step
  split
  · exact sp_gr_dollar hd
  · split
    · exact sp_gr_slash
    · exact sp_gr_one
theorem sp_gr_loop {M : sp_Md} {G : sp_Src} {t : List Nat} {dp : Option (Nat → Nat → sp_O → sp_R)} {e : Nat} (hd : sp_grD dp) : ∀ (f k : Nat) (o : sp_O), sp_gr (sp_loop M G t dp e f k o) o
  | 0, k, o => sp_gr_goes'
  | f + 1, k, o => by
    unfold sp_loop
    split
    · split
      · exact Nat.le_trans (sp_gr_step (M := M) (G := G) (t := t) (k := k) (e := e) (o := o) hd) (sp_gr_loop hd f _ _)
      · exact sp_gr_step hd
    · exact sp_gr_goes'
theorem sp_gr_part {M : sp_Md} {G : sp_Src} {t : List Nat} : ∀ (d k e : Nat) (o : sp_O), sp_gr (sp_part M G t d k e o) o
  | 0, k, e, o => sp_gr_loop (fun go h => by cases h) _ _ _
  | d + 1, k, e, o => sp_gr_loop (fun go h => by cases h; exact sp_gr_part d) _ _ _
theorem sp_grD_at {M : sp_Md} {G : sp_Src} {t : List Nat} {d : Nat} : sp_grD (if d = 0 then none else some (sp_part M G t (d - 1))) := by
  intro go h
  split at h
  · cases h
  · cases h
    exact sp_gr_part _
theorem sp_pcap_go {cap : Nat} {r R : sp_R} (h0 : r.1 = 0) (hg : r.2.2.2.1.length ≤ R.2.2.2.1.length) : sp_pcap (sp_pcap cap r) R = sp_pcap cap R := by
  unfold sp_pcap
  rw [if_neg (show ¬ r.1 = -48 by omega)]
  split
  · rfl
  · have := sp_up_mono hg
    omega
