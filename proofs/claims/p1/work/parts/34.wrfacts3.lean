/-! The same searches over bytes and over characters. -/
theorem sp_off_con {utf : Bool} {t : List Nat} {i m : Nat} (h : i < t.length) (h0 : 0 < m) (hm : m < sp_len utf (t.getD i 0)) : 128 ≤ (sp_encs utf t).getD (sp_off utf t i + m) 0 := by
  have hd := sp_off_at utf h
  have e0 : sp_b (sp_encs utf t) (sp_off utf t i + m) = sp_b (sp_enc utf (t.getD i 0) ++ sp_encs utf (t.drop (i + 1))) m := by rw [← hd, ← sp_b_drop]
  show 128 ≤ sp_b (sp_encs utf t) (sp_off utf t i + m)
  rw [e0]
  generalize t.getD i 0 = c at *
  generalize sp_encs utf (t.drop (i + 1)) = r
  unfold sp_len at hm
  unfold sp_enc
  by_cases q1 : utf = false ∨ c < 128
  · rw [if_pos q1] at hm
    omega
  · rw [if_neg q1] at hm ⊢
    by_cases q2 : c < 2048
    · rw [if_pos q2] at hm ⊢
      rw [show m = 1 by omega]
      show 128 ≤ 128 + c % 64
      omega
    · rw [if_neg q2] at hm ⊢
      by_cases q3 : c < 65536
      · rw [if_pos q3] at hm ⊢
        rcases (show m = 1 ∨ m = 2 by omega) with rfl | rfl
        · show 128 ≤ 128 + c / 64 % 64
          omega
        · show 128 ≤ 128 + c % 64
          omega
      · rw [if_neg q3] at hm ⊢
        rcases (show m = 1 ∨ m = 2 ∨ m = 3 by omega) with rfl | rfl | rfl
        · show 128 ≤ 128 + c / 4096 % 64
          omega
        · show 128 ≤ 128 + c / 64 % 64
          omega
        · show 128 ≤ 128 + c % 64
          omega
theorem sp_cl_skip {utf : Bool} {t : List Nat} {i e d : Nat} {colon : Bool} (h : i < t.length) (he : sp_off utf t (i + 1) ≤ e) : ∀ f m, sp_len utf (t.getD i 0) - m ≤ f → 0 < m → m ≤ sp_len utf (t.getD i 0) → sp_cl (sp_encs utf t) e colon (sp_off utf t i + m) d = sp_cl (sp_encs utf t) e colon (sp_off utf t (i + 1)) d := by
  have hs := sp_off_succ utf h
  intro f
  induction f with
  | zero => intro m h1 h2 h3; rw [show m = sp_len utf (t.getD i 0) by omega, ← hs]
  | succ f ih =>
    intro m h1 h2 h3
    by_cases q : m = sp_len utf (t.getD i 0)
    · rw [q, ← hs]
    · have hb := sp_off_con (utf := utf) h h2 (by omega)
      rw [sp_cl_step (by omega), if_neg (by omega), if_neg (by omega), if_neg (by omega), if_neg (by omega), Nat.add_assoc, ih (m + 1) (by omega) (by omega) (by omega)]
theorem sp_qt_skip {utf : Bool} {t : List Nat} {i e : Nat} (h : i < t.length) (he : sp_off utf t (i + 1) ≤ e) : ∀ f m, sp_len utf (t.getD i 0) - m ≤ f → 0 < m → m ≤ sp_len utf (t.getD i 0) → sp_qt (sp_encs utf t) e (sp_off utf t i + m) = sp_qt (sp_encs utf t) e (sp_off utf t (i + 1)) := by
  have hs := sp_off_succ utf h
  intro f
  induction f with
  | zero => intro m h1 h2 h3; rw [show m = sp_len utf (t.getD i 0) by omega, ← hs]
  | succ f ih =>
    intro m h1 h2 h3
    by_cases q : m = sp_len utf (t.getD i 0)
    · rw [q, ← hs]
    · have hb := sp_off_con (utf := utf) h h2 (by omega)
      rw [sp_qt_step (by omega), if_neg (by omega), Nat.add_assoc, ih (m + 1) (by omega) (by omega) (by omega)]
theorem sp_see_off (utf : Bool) {t : List Nat} {i j : Nat} (hi : i ≤ t.length) (hj : j ≤ t.length) : sp_see (sp_encs utf t) (sp_off utf t i) (sp_off utf t j) = sp_see t i j ∨ (128 ≤ sp_see (sp_encs utf t) (sp_off utf t i) (sp_off utf t j) ∧ 128 ≤ sp_see t i j) := by
  have := sp_pk_see utf hi hj
  rw [sp_pk_b (sp_off_le_len utf hj)] at this
  exact this
theorem sp_cl_off (utf : Bool) {t : List Nat} {j : Nat} {colon : Bool} (hj : j ≤ t.length) : ∀ f i d, j - i ≤ f → i ≤ j → sp_cl (sp_encs utf t) (sp_off utf t j) colon (sp_off utf t i) d = (sp_cl t j colon i d).map (sp_off utf t) := by
  intro f
  induction f with
  | zero => intro i d h1 h2; rw [show i = j by omega, sp_cl_out (Nat.le_refl _), sp_cl_out (Nat.le_refl _)]; rfl
  | succ f ih =>
    intro i d h1 h2
    by_cases hij : i < j
    · have hlt := (sp_off_lt utf (show i ≤ t.length by omega) hj).mpr hij
      have hs := sp_off_succ utf (t := t) (i := i) (by omega)
      have hl1 := sp_len_le utf (t.getD i 0)
      have hm1 := sp_off_mono utf (t := t) (i := i + 1) (j := j) (by omega) hj
      have hb := sp_off_b (utf := utf) (t := t) (i := i) (by omega)
      have hb' : (sp_encs utf t).getD (sp_off utf t i) 0 = t.getD i 0 ∨ (128 ≤ (sp_encs utf t).getD (sp_off utf t i) 0 ∧ 128 ≤ t.getD i 0) := hb
      rw [sp_cl_step hlt, sp_cl_step hij]
      have ih1 := fun d => ih (i + 1) d (by omega) (by omega)
      have nxt : ∀ d, sp_cl (sp_encs utf t) (sp_off utf t j) colon (sp_off utf t i + 1) d = (sp_cl t j colon (i + 1) d).map (sp_off utf t) := fun d => by
        rw [sp_cl_skip (by omega) (by omega) _ 1 (Nat.le_refl _) (by omega) (by omega), ih1 d]
      by_cases q1 : t.getD i 0 = 92
      · rw [if_pos q1, if_pos (by omega)]
        have ha := sp_off_asc utf (t := t) (i := i) (by omega) (by omega)
        by_cases hj1 : i + 1 < j
        · have hm2 := sp_off_mono utf (t := t) (i := i + 1 + 1) (j := j) (by omega) hj
          have hl2 := sp_len_le utf (t.getD (i + 1) 0)
          rw [show sp_off utf t i + 2 = sp_off utf t (i + 1) + 1 by omega, sp_cl_skip (i := i + 1) (by omega) (by omega) _ 1 (Nat.le_refl _) (by omega) (by omega)]
          exact ih (i + 2) d (by omega) (by omega)
        · have ej : j = i + 1 := by omega
          subst ej
          rw [sp_cl_out (by omega), sp_cl_out (by omega)]
          rfl
      · rw [if_neg q1, if_neg (show ¬ (sp_encs utf t).getD (sp_off utf t i) 0 = 92 by omega)]
        by_cases q2 : t.getD i 0 = 36
        · have ha := sp_off_asc utf (t := t) (i := i) (by omega) (by omega)
          have hse := sp_see_off utf (t := t) (i := i + 1) (j := j) (by omega) hj
          rw [ha] at hse
          by_cases q3 : sp_see t (i + 1) j = 123
          · rw [if_pos (show (sp_encs utf t).getD (sp_off utf t i) 0 = 36 ∧ sp_see (sp_encs utf t) (sp_off utf t i + 1) (sp_off utf t j) = 123 from ⟨by omega, by omega⟩), if_pos ⟨q2, q3⟩]
            obtain ⟨hi1, hv⟩ := sp_see_in (t := t) (i := i + 1) (e := j) (by omega)
            have ha2 := sp_off_asc utf (t := t) (i := i + 1) (by omega) (by omega)
            rw [show sp_off utf t i + 2 = sp_off utf t (i + 1 + 1) by omega]
            exact ih (i + 2) (d + 1) (by omega) (by omega)
          · rw [if_neg (show ¬ (t.getD i 0 = 36 ∧ sp_see t (i + 1) j = 123) by omega), if_neg (by omega), if_neg (by omega), if_neg (by omega), if_neg (show ¬ t.getD i 0 = 125 by omega), if_neg (show ¬ (t.getD i 0 = 58 ∧ colon = true ∧ d = 0) by omega)]
            exact nxt d
        · rw [if_neg (show ¬ (t.getD i 0 = 36 ∧ sp_see t (i + 1) j = 123) by omega), if_neg (by omega)]
          by_cases q4 : t.getD i 0 = 125
          · rw [if_pos q4, if_pos (by omega)]
            by_cases q5 : d = 0
            · rw [if_pos q5, if_pos q5]; rfl
            · rw [if_neg q5, if_neg q5]; exact nxt (d - 1)
          · rw [if_neg q4, if_neg (show ¬ (sp_encs utf t).getD (sp_off utf t i) 0 = 125 by omega)]
            by_cases q6 : t.getD i 0 = 58 ∧ colon = true ∧ d = 0
            · rw [if_pos q6, if_pos ⟨by omega, q6.2⟩]; rfl
            · rw [if_neg q6, if_neg (by intro z; exact q6 ⟨by omega, z.2⟩)]; exact nxt d
    · rw [show i = j by omega, sp_cl_out (Nat.le_refl _), sp_cl_out (Nat.le_refl _)]; rfl
theorem sp_qt_off (utf : Bool) {t : List Nat} {j : Nat} (hj : j ≤ t.length) : ∀ f i, j - i ≤ f → i ≤ j → sp_qt (sp_encs utf t) (sp_off utf t j) (sp_off utf t i) = sp_off utf t (sp_qt t j i) ∧ i ≤ sp_qt t j i ∧ sp_qt t j i ≤ j := by
  intro f
  induction f with
  | zero => intro i h1 h2; rw [show i = j by omega, sp_qt_out (Nat.le_refl _), sp_qt_out (Nat.le_refl _)]; exact ⟨rfl, Nat.le_refl _, Nat.le_refl _⟩
  | succ f ih =>
    intro i h1 h2
    by_cases hij : i < j
    · have hlt := (sp_off_lt utf (show i ≤ t.length by omega) hj).mpr hij
      have hs := sp_off_succ utf (t := t) (i := i) (by omega)
      have hl1 := sp_len_le utf (t.getD i 0)
      have hm1 := sp_off_mono utf (t := t) (i := i + 1) (j := j) (by omega) hj
      have hb' : (sp_encs utf t).getD (sp_off utf t i) 0 = t.getD i 0 ∨ (128 ≤ (sp_encs utf t).getD (sp_off utf t i) 0 ∧ 128 ≤ t.getD i 0) := sp_off_b (utf := utf) (t := t) (i := i) (by omega)
      obtain ⟨ih1, ih2, ih3⟩ := ih (i + 1) (by omega) (by omega)
      rw [sp_qt_step hlt, sp_qt_step hij]
      by_cases q1 : t.getD i 0 = 92 ∧ sp_see t (i + 1) j = 69
      · have ha := sp_off_asc utf (t := t) (i := i) (by omega) (by omega)
        have hse := sp_see_off utf (t := t) (i := i + 1) (j := j) (by omega) hj
        rw [ha] at hse
        rw [if_pos q1, if_pos ⟨by omega, by omega⟩]
        exact ⟨rfl, by omega, by omega⟩
      · have q2 : ¬ ((sp_encs utf t).getD (sp_off utf t i) 0 = 92 ∧ sp_see (sp_encs utf t) (sp_off utf t i + 1) (sp_off utf t j) = 69) := by
          intro z
          have hc : t.getD i 0 = 92 := by omega
          have ha := sp_off_asc utf (t := t) (i := i) (by omega) (by omega)
          have hse := sp_see_off utf (t := t) (i := i + 1) (j := j) (by omega) hj
          rw [ha] at hse
          exact q1 ⟨hc, by omega⟩
        rw [if_neg q1, if_neg q2, sp_qt_skip (by omega) (by omega) _ 1 (Nat.le_refl _) (by omega) (by omega), ih1]
        exact ⟨rfl, by omega, by omega⟩
    · rw [show i = j by omega, sp_qt_out (Nat.le_refl _), sp_qt_out (Nat.le_refl _)]; exact ⟨rfl, Nat.le_refl _, Nat.le_refl _⟩
theorem sp_cl_r {t : List Nat} {j : Nat} {colon : Bool} : ∀ f i d k, j - i ≤ f → sp_cl t j colon i d = some k → i ≤ k ∧ k < j ∧ (t.getD k 0 = 125 ∨ (t.getD k 0 = 58 ∧ colon = true)) := by
  intro f
  induction f with
  | zero => intro i d k h1 h2; rw [sp_cl_out (by omega)] at h2; cases h2
  | succ f ih =>
    intro i d k h1 h2
    by_cases hij : i < j
    · rw [sp_cl_step hij] at h2
      split at h2
      · have := ih _ _ _ (by omega) h2; exact ⟨by omega, this.2⟩
      · split at h2
        · have := ih _ _ _ (by omega) h2; exact ⟨by omega, this.2⟩
        · split at h2
          · split at h2
            · cases h2; rename_i q _; exact ⟨Nat.le_refl _, hij, Or.inl q⟩
            · have := ih _ _ _ (by omega) h2; exact ⟨by omega, this.2⟩
          · split at h2
            · cases h2; rename_i q; exact ⟨Nat.le_refl _, hij, Or.inr ⟨q.1, q.2.1⟩⟩
            · have := ih _ _ _ (by omega) h2; exact ⟨by omega, this.2⟩
    · rw [sp_cl_out (by omega)] at h2; cases h2
