/-! What a choice comes to, case by case. -/
theorem sp_choice_n1 {M : sp_Md} {G : sp_Src} {t : List Nat} {dp : Option (Nat → Nat → sp_O → sp_R)} {k e i j : Nat} {o : sp_O} {mi : Bool} (hmi : decide (sp_see t (j + 1) e = 45) = mi) (h1 : sp_end t (j + 2) e (!mi) = none) : sp_choice M G t dp k e i j o = sp_bad (-58) k o := by
  subst hmi
  unfold sp_choice
  dsimp only
  rw [h1]
theorem sp_choice_n2 {M : sp_Md} {G : sp_Src} {t : List Nat} {dp : Option (Nat → Nat → sp_O → sp_R)} {k e i j one : Nat} {o : sp_O} {mi : Bool} (hmi : decide (sp_see t (j + 1) e = 45) = mi) (h1 : sp_end t (j + 2) e (!mi) = some one) (h58 : t.getD one 0 = 58) (h2 : sp_end t (one + 1) e false = none) : sp_choice M G t dp k e i j o = sp_bad (-58) k o := by
  subst hmi
  unfold sp_choice
  dsimp only
  rw [h1]
  dsimp only
  rw [if_pos h58, h2]
theorem sp_choice_n3 {M : sp_Md} {G : sp_Src} {t : List Nat} {k e i j one two : Nat} {o : sp_O} {mi : Bool} (hmi : decide (sp_see t (j + 1) e = 45) = mi) (h1 : sp_end t (j + 2) e (!mi) = some one) (h2 : (if t.getD one 0 = 58 then sp_end t (one + 1) e false else some one) = some two) : sp_choice M G t none k e i j o = sp_bad (-35) k o := by
  subst hmi
  unfold sp_choice
  dsimp only
  rw [h1]
  dsimp only
  rw [h2]
def sp_pick (M : sp_Md) (G : sp_Src) (t : List Nat) (go : Nat → Nat → sp_O → sp_R) (k j one two : Nat) (mi : Bool) (o : sp_O) (r : Option (Option Nat)) : sp_R := match r with
    | none => if M.2.2.2.2 then (if mi then sp_in (go (j + 2) one o) two else if t.getD one 0 = 58 then sp_in (go (one + 1) two o) two else sp_goes (two + 1) o) else sp_bad (-49) k o
    | some none => if mi then sp_in (go (j + 2) one o) two else if t.getD one 0 = 58 then sp_in (go (one + 1) two o) two else sp_goes (two + 1) o
    | some (some g) => if mi then sp_lift (two + 1) o (sp_all M.1 M.2.1 ((G.2.1 g).getD []) o) else sp_in (go (j + 2) one o) two
theorem sp_choice_go {M : sp_Md} {G : sp_Src} {t : List Nat} {go : Nat → Nat → sp_O → sp_R} {k e i j one two : Nat} {o : sp_O} {mi : Bool} (hmi : decide (sp_see t (j + 1) e = 45) = mi) (h1 : sp_end t (j + 2) e (!mi) = some one) (h2 : (if t.getD one 0 = 58 then sp_end t (one + 1) e false else some one) = some two) : sp_choice M G t (some go) k e i j o = sp_pick M G t go k j one two mi o (sp_ref G t i j) := by
  subst hmi
  unfold sp_choice
  dsimp only
  rw [h1]
  dsimp only
  rw [h2]
  generalize sp_ref G t i j = r
  rcases r with _ | _ | g <;> rfl
theorem sp_pick_x {M : sp_Md} {G : sp_Src} {t : List Nat} {go : Nat → Nat → sp_O → sp_R} {k j one two : Nat} {mi : Bool} {o : sp_O} {r : Option (Option Nat)} (h : r = some none ∨ (r = none ∧ M.2.2.2.2 = true)) : sp_pick M G t go k j one two mi o r = if mi = true then sp_in (go (j + 2) one o) two else if t.getD one 0 = 58 then sp_in (go (one + 1) two o) two else sp_goes (two + 1) o := by
  rcases h with rfl | ⟨rfl, h⟩
  · rfl
  · unfold sp_pick
    dsimp only
    rw [if_pos h]
theorem sp_pick_bad {M : sp_Md} {G : sp_Src} {t : List Nat} {go : Nat → Nat → sp_O → sp_R} {k j one two : Nat} {mi : Bool} {o : sp_O} (h : M.2.2.2.2 = false) : sp_pick M G t go k j one two mi o none = sp_bad (-49) k o := by
  unfold sp_pick
  dsimp only
  rw [if_neg (by rw [h]; decide)]
theorem sp_pick_s {M : sp_Md} {G : sp_Src} {t : List Nat} {go : Nat → Nat → sp_O → sp_R} {k j one two g : Nat} {mi : Bool} {o : sp_O} : sp_pick M G t go k j one two mi o (some (some g)) = if mi = true then sp_lift (two + 1) o (sp_all M.1 M.2.1 ((G.2.1 g).getD []) o) else sp_in (go (j + 2) one o) two := rfl
