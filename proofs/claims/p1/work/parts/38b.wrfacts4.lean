/-! Tail calls; what an escape gives. -/
theorem zWr.val {E : zP} {A : Nat → Prop} {w es h rb tx gr en ca : Nat} {rich uemp uunk utf : Bool} {of0 : Int} {t : List Nat} {j cap : Nat} {r : sp_R} {v : Option Value} {H : Heap} (z : zWr E A w es h rb tx gr en ca rich uemp uunk utf of0 t j cap r v H) : ∃ nxt : Int, v = some (.int (iI nxt)) := by
  obtain ⟨cd, of, ch, nx, nxt, o, full, q, cap2, f, h1, h2, h3, h4, h5, h6, h7, h8, h9, hr⟩ := z
  exact ⟨nxt, h9⟩
theorem zWr.mono {E : zP} {A B : Nat → Prop} {w es h rb tx gr en ca : Nat} {rich uemp uunk utf : Bool} {of0 : Int} {t : List Nat} {j cap : Nat} {r : sp_R} {v : Option Value} {H : Heap} (hAB : ∀ q, A q → B q) (z : zWr E A w es h rb tx gr en ca rich uemp uunk utf of0 t j cap r v H) : zWr E B w es h rb tx gr en ca rich uemp uunk utf of0 t j cap r v H := by
  obtain ⟨cd, of, ch, nx, nxt, o, full, q, cap2, f, h1, h2, hr⟩ := z
  exact ⟨cd, of, ch, nx, nxt, o, full, q, cap2, f, h1, h2.weaken (fun _ _ _ q => hAB _ q), hr⟩
theorem sp_ok_small {utf : Bool} {a : Nat} (h : a < 256) : sp_ok utf a = true := by
  unfold sp_ok
  cases utf
  · simp; omega
  · simp; omega
theorem sp_digs_r (r : Nat) {t : List Nat} {i e : Nat} (h : i ≤ e) : i ≤ sp_digs r t i e ∧ sp_digs r t i e ≤ e ∧ ∀ k, i ≤ k → k < sp_digs r t i e → (sp_val ((t.getD k 0 : Nat) : Int)).toNat < r := by
  obtain ⟨a, b, c⟩ := sp_to_all (p := fun c => decide (sp_val c < ((r : Nat) : Int))) (t := t) (e := e) _ i (Nat.le_refl _) h
  refine ⟨a, b, fun k h1 h2 => ?_⟩
  have := of_decide_eq_true (c k h1 h2)
  have := (sp_val_r ((t.getD k 0 : Nat) : Int)).1
  omega
theorem sp_bare_ok {utf : Bool} {r : Nat} (hr : r = 8 ∨ r = 16) {t : List Nat} {i e a n : Nat} (hie : i ≤ e) (h : sp_bare r t i e = some (a, n)) : sp_ok utf a = true ∧ i ≤ n ∧ n ≤ e := by
  unfold sp_bare at h
  cases h
  obtain ⟨h1, h2, h3⟩ := sp_digs_r r (t := t) (i := i) (e := min e (i + 2)) (by omega)
  refine ⟨sp_ok_small ?_, h1, by omega⟩
  have h4 := sp_worth_lt (r := r) (t := t) (sp_digs r t i (min e (i + 2)) - i) i 0 (fun j a b => h3 j a (by omega))
  have h5 : (0 + 1) * r ^ (sp_digs r t i (min e (i + 2)) - i) ≤ 256 := by
    rw [Nat.zero_add, Nat.one_mul]
    rcases hr with rfl | rfl
    · exact Nat.le_trans (Nat.pow_le_pow_right (by omega) (show _ ≤ 2 by omega)) (by decide)
    · exact Nat.le_trans (Nat.pow_le_pow_right (by omega) (show _ ≤ 2 by omega)) (by decide)
  omega
theorem sp_braced_ok {utf : Bool} {r : Nat} {t : List Nat} {i e a n : Nat} (h : sp_braced utf r t i e = some (a, n)) : sp_ok utf a = true ∧ i ≤ n ∧ n ≤ e := by
  unfold sp_braced at h
  split at h
  · rename_i q0
    have := sp_see_in (t := t) (i := i) (e := e) (by omega)
    obtain ⟨h1, h2, -⟩ := sp_digs_r r (t := t) (i := i + 1) (e := min e (i + 9)) (by omega)
    split at h
    · cases h
    · split at h
      · rename_i q2
        have h3 := sp_see_in (t := t) (i := sp_digs r t (i + 1) (min e (i + 9))) (e := e) (by omega)
        split at h
        · rename_i q3
          cases h
          exact ⟨q3, by omega, by omega⟩
        · cases h
      · cases h
  · cases h
theorem sp_esc_ok {utf : Bool} {t : List Nat} {c : Int} {i e a n : Nat} (hie : i ≤ e) (h : sp_esc utf t c i e = some (a, n)) : sp_ok utf a = true ∧ i ≤ n ∧ n ≤ e := by
  unfold sp_esc at h
  split at h
  · cases h; exact ⟨sp_ok_small (by omega), Nat.le_refl _, hie⟩
  split at h
  · cases h; exact ⟨sp_ok_small (by omega), Nat.le_refl _, hie⟩
  split at h
  · cases h; exact ⟨sp_ok_small (by omega), Nat.le_refl _, hie⟩
  split at h
  · cases h; exact ⟨sp_ok_small (by omega), Nat.le_refl _, hie⟩
  split at h
  · cases h; exact ⟨sp_ok_small (by omega), Nat.le_refl _, hie⟩
  split at h
  · cases h; exact ⟨sp_ok_small (by omega), Nat.le_refl _, hie⟩
  split at h
  · split at h
    · rename_i q
      have := sp_see_in (t := t) (i := i) (e := e) (by omega)
      cases h
      refine ⟨sp_ok_small ?_, by omega, by omega⟩
      unfold sp_ctl
      split
      · omega
      · split <;> omega
    · cases h
  split at h
  · exact sp_bare_ok (Or.inl rfl) hie h
  split at h
  · exact sp_braced_ok h
  split at h
  · split at h
    · exact sp_braced_ok h
    · exact sp_bare_ok (Or.inr rfl) hie h
  · cases h
theorem sp_esc_pos {utf : Bool} {t : List Nat} {c : Int} {i e : Nat} {x : Nat × Nat} (h : sp_esc utf t c i e = some x) : 0 ≤ c := by
  rcases Int.lt_or_le c 0 with q | q
  · unfold sp_esc at h
    rw [if_neg (by omega), if_neg (by omega), if_neg (by omega), if_neg (by omega), if_neg (by omega), if_neg (by omega), if_neg (by omega), if_neg (by omega), if_neg (by omega), if_neg (by omega)] at h
    cases h
  · exact q
