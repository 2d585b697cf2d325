/-! Where characters stand in their bytes. -/
theorem sp_take_len {t : List Nat} {i : Nat} (h : i < t.length) : t.take (i + 1) = t.take i ++ [t.getD i 0] := by
  rw [List.take_succ_eq_append_getElem h, List.getD_eq_getElem?_getD, List.getElem?_eq_getElem h]
  rfl
theorem sp_off_0 (utf : Bool) (t : List Nat) : sp_off utf t 0 = 0 := by simp [sp_off, sp_encs]
theorem sp_off_succ (utf : Bool) {t : List Nat} {i : Nat} (h : i < t.length) : sp_off utf t (i + 1) = sp_off utf t i + sp_len utf (t.getD i 0) := by
  unfold sp_off
  rw [sp_take_len h, sp_encs_append, List.length_append, sp_encs_cons, sp_encs_nil, List.append_nil, sp_enc_len]
theorem sp_off_end (utf : Bool) (t : List Nat) : sp_off utf t t.length = (sp_encs utf t).length := by
  unfold sp_off
  rw [List.take_length]
theorem sp_off_le (utf : Bool) {t : List Nat} {i : Nat} : ∀ d, i + d ≤ t.length → sp_off utf t i + d ≤ sp_off utf t (i + d) := by
  intro d
  induction d with
  | zero => intro _; exact Nat.le_refl _
  | succ d ih =>
    intro h
    have h1 := ih (by omega)
    have h2 := sp_off_succ utf (t := t) (i := i + d) (by omega)
    have h3 := (sp_len_le utf (t.getD (i + d) 0)).1
    rw [show i + (d + 1) = i + d + 1 by omega, h2]
    omega
theorem sp_off_mono (utf : Bool) {t : List Nat} {i j : Nat} (h : i ≤ j) (hj : j ≤ t.length) : sp_off utf t i + (j - i) ≤ sp_off utf t j := by
  have := sp_off_le utf (t := t) (i := i) (j - i) (by omega)
  rw [show i + (j - i) = j by omega] at this
  exact this
theorem sp_off_lt (utf : Bool) {t : List Nat} {i j : Nat} (hi : i ≤ t.length) (hj : j ≤ t.length) : sp_off utf t i < sp_off utf t j ↔ i < j := by
  constructor
  · intro h
    rcases Nat.lt_or_ge i j with q | q
    · exact q
    · have := sp_off_mono utf q hi
      omega
  · intro h
    have := sp_off_mono utf (Nat.le_of_lt h) hj
    omega
theorem sp_off_drop (utf : Bool) {t : List Nat} {i : Nat} : (sp_encs utf t).drop (sp_off utf t i) = sp_encs utf (t.drop i) := by
  have e : sp_encs utf t = sp_encs utf (t.take i) ++ sp_encs utf (t.drop i) := by rw [← sp_encs_append, List.take_append_drop]
  rw [e]
  unfold sp_off
  rw [List.drop_left]
theorem sp_drop_cons {t : List Nat} {i : Nat} (h : i < t.length) : t.drop i = t.getD i 0 :: t.drop (i + 1) := by
  rw [List.drop_eq_getElem_cons h, List.getD_eq_getElem?_getD, List.getElem?_eq_getElem h]
  rfl
theorem sp_off_at (utf : Bool) {t : List Nat} {i : Nat} (h : i < t.length) : (sp_encs utf t).drop (sp_off utf t i) = sp_enc utf (t.getD i 0) ++ sp_encs utf (t.drop (i + 1)) := by
  rw [sp_off_drop, sp_drop_cons h, sp_encs_cons]
theorem sp_oks_get {utf : Bool} {t : List Nat} {i : Nat} (hok : sp_oks utf t) (h : i < t.length) : sp_ok utf (t.getD i 0) = true := by
  rw [List.getD_eq_getElem?_getD, List.getElem?_eq_getElem h]
  exact hok _ (List.getElem_mem h)
theorem sp_off_b {utf : Bool} {t : List Nat} {i : Nat} (h : i < t.length) : sp_b (sp_encs utf t) (sp_off utf t i) = t.getD i 0 ∨ (128 ≤ sp_b (sp_encs utf t) (sp_off utf t i) ∧ 128 ≤ t.getD i 0) := by
  have hd := sp_off_at utf h
  have e0 : sp_b (sp_encs utf t) (sp_off utf t i) = sp_b (sp_enc utf (t.getD i 0) ++ sp_encs utf (t.drop (i + 1))) 0 := by rw [← hd, ← sp_b_drop, Nat.add_zero]
  rw [e0]
  unfold sp_enc
  by_cases q1 : utf = false ∨ t.getD i 0 < 128
  · left
    rw [if_pos q1]
    rfl
  · have q1' : ¬ t.getD i 0 < 128 := fun z => q1 (Or.inr z)
    right
    rw [if_neg q1]
    refine ⟨?_, by omega⟩
    split
    · show 128 ≤ 192 + _
      omega
    · split
      · show 128 ≤ 224 + _
        omega
      · show 128 ≤ 240 + _
        omega
theorem sp_off_lt_len {utf : Bool} {t : List Nat} {i : Nat} (h : i < t.length) : sp_off utf t i < (sp_encs utf t).length := by
  rw [← sp_off_end]
  exact (sp_off_lt utf (Nat.le_of_lt h) (Nat.le_refl _)).mpr h
theorem sp_off_le_len (utf : Bool) {t : List Nat} {i : Nat} (h : i ≤ t.length) : sp_off utf t i ≤ (sp_encs utf t).length := by
  rw [← sp_off_end]
  have := sp_off_mono utf h (Nat.le_refl _)
  omega
def sp_pk (b : List Nat) (k e : Int) : Int := if k < e then sp_at b k else -1
theorem sp_pk_see (utf : Bool) {t : List Nat} {i e : Nat} (hi : i ≤ t.length) (he : e ≤ t.length) : sp_pk (sp_encs utf t) (sp_off utf t i : Nat) (sp_off utf t e : Nat) = sp_see t i e ∨ (128 ≤ sp_pk (sp_encs utf t) (sp_off utf t i : Nat) (sp_off utf t e : Nat) ∧ 128 ≤ sp_see t i e) := by
  have hlt := sp_off_lt utf hi he
  unfold sp_pk sp_see
  by_cases h : i < e
  · have h2 := hlt.mpr h
    rw [if_pos (by omega), if_pos h, sp_at_in rfl (sp_off_lt_len (by omega))]
    rcases sp_off_b (utf := utf) (t := t) (i := i) (by omega) with q | q
    · left; rw [q]
    · right; omega
  · have h2 : ¬ sp_off utf t i < sp_off utf t e := fun z => h (hlt.mp z)
    rw [if_neg (by omega), if_neg h]
    left; rfl
theorem sp_off_asc (utf : Bool) {t : List Nat} {i : Nat} (h : i < t.length) (hc : t.getD i 0 < 128) : sp_off utf t (i + 1) = sp_off utf t i + 1 := by
  rw [sp_off_succ utf h]
  unfold sp_len
  rw [if_pos (Or.inr hc)]
theorem sp_see_in {t : List Nat} {i e : Nat} (h : 0 ≤ sp_see t i e) : i < e ∧ sp_see t i e = (t.getD i 0 : Nat) := by
  unfold sp_see at *
  split at h
  · rename_i q; exact ⟨q, by rw [if_pos q]⟩
  · omega
theorem sp_see_ge (t : List Nat) (i e : Nat) : -1 ≤ sp_see t i e := by
  unfold sp_see
  split <;> omega
theorem sp_see_eq {t : List Nat} {i e : Nat} (h : i < e) : sp_see t i e = (t.getD i 0 : Nat) := by
  unfold sp_see
  rw [if_pos h]
theorem sp_see_out {t : List Nat} {i e : Nat} (h : e ≤ i) : sp_see t i e = -1 := by
  unfold sp_see
  rw [if_neg (by omega)]
theorem sp_pk_r (b : List Nat) (k e : Int) (h : ∀ x ∈ b, x < 256) : -1 ≤ sp_pk b k e ∧ sp_pk b k e < 256 := by
  unfold sp_pk
  split
  · exact sp_at_r b k h
  · omega
