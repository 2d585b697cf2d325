/-! Loops of writers; characters in bytes. -/
section ZL
variable {p : Program} {l : Launch} {e : Env} {R : Room} {s : State} {m : MethodId} {args : Array Value} {below : List Frame} {meth : Method} {c : Code} {H : Heap} {locs : List Loc} {cells slots : Nat} {Q : State → Prop} {pc : Nat} {ls : Array Slot} {st : List Value}
theorem zloop {σ : Type} (I : σ → Heap → List Loc → Array Slot → Nat → Nat → Prop) (μ : σ → Nat)
    (hstep : ∀ (x : σ) (H : Heap) (locs : List Loc) (ls : Array Slot) (cells slots : Nat), I x H locs ls cells slots → (∀ (y : σ) (H' : Heap) (locs' : List Loc) (ls' : Array Slot) (c' s' : Nat), μ y < μ x → I y H' locs' ls' c' s' → W p l e R s m args below meth c H' locs' c' s' Q (F0 m pc ls' st)) → W p l e R s m args below meth c H locs cells slots Q (F0 m pc ls st))
    (x : σ) (h : I x H locs ls cells slots) : W p l e R s m args below meth c H locs cells slots Q (F0 m pc ls st) := by
  have key : ∀ (n : Nat) (x : σ) (H : Heap) (locs : List Loc) (ls : Array Slot) (cells slots : Nat), μ x < n → I x H locs ls cells slots → W p l e R s m args below meth c H locs cells slots Q (F0 m pc ls st) := by
    intro n
    induction n with
    | zero => intro x H locs ls cells slots hn; exact absurd hn (Nat.not_lt_zero _)
    | succ n ih => intro x H locs ls cells slots hn hI; exact hstep x H locs ls cells slots hI (fun y H' locs' ls' c' s' hy hI' => ih y H' locs' ls' c' s' (by omega) hI')
  exact key _ x H locs ls cells slots (Nat.lt_succ_self _) h
end ZL
theorem sp_b_drop {b : List Nat} {k j : Nat} : sp_b b (k + j) = sp_b (b.drop k) j := by
  unfold sp_b
  simp [List.getD_eq_getElem?_getD, List.getElem?_drop]
theorem sp_b_cons0 (x : Nat) (r : List Nat) : sp_b (x :: r) 0 = x := rfl
theorem sp_b_cons1 (x y : Nat) (r : List Nat) : sp_b (x :: y :: r) 1 = y := rfl
theorem sp_b_cons2 (x y z : Nat) (r : List Nat) : sp_b (x :: y :: z :: r) 2 = z := rfl
theorem sp_b_cons3 (x y z w : Nat) (r : List Nat) : sp_b (x :: y :: z :: w :: r) 3 = w := rfl
theorem sp_enc_at {utf : Bool} {b r : List Nat} {k c : Nat} (h : b.drop k = sp_enc utf c ++ r) (hok : sp_ok utf c = true) : sp_lead utf (sp_b b k) = sp_len utf c ∧ sp_chr utf b k = c ∧ k + sp_len utf c ≤ b.length ∧ b.drop (k + sp_len utf c) = r := by
  have hc : c ≤ 1114111 ∧ (utf = false → c ≤ 255) := by
    cases utf <;> simp [sp_ok] at hok <;> simp <;> omega
  have hlen : b.length - k = sp_len utf c + r.length := by
    have := congrArg List.length h
    rw [List.length_drop, List.length_append, sp_enc_len] at this
    exact this
  have h1 := (sp_len_le utf c).1
  have h5 : b.drop (k + sp_len utf c) = r := by
    rw [← List.drop_drop, h, ← sp_enc_len utf c, List.drop_left]
  have e0 : sp_b b k = sp_b (sp_enc utf c ++ r) 0 := by rw [← h, ← sp_b_drop, Nat.add_zero]
  have e1 : sp_b b (k + 1) = sp_b (sp_enc utf c ++ r) 1 := by rw [← h, ← sp_b_drop]
  have e2 : sp_b b (k + 2) = sp_b (sp_enc utf c ++ r) 2 := by rw [← h, ← sp_b_drop]
  have e3 : sp_b b (k + 3) = sp_b (sp_enc utf c ++ r) 3 := by rw [← h, ← sp_b_drop]
  have hl : sp_lead utf (sp_b b k) = sp_len utf c ∧ sp_chr utf b k = c := by
    by_cases q1 : utf = false ∨ c < 128
    · have ee : sp_enc utf c = [c] := by unfold sp_enc; rw [if_pos q1]
      have el : sp_len utf c = 1 := by unfold sp_len; rw [if_pos q1]
      rw [ee, List.singleton_append, sp_b_cons0] at e0
      have ed : sp_lead utf c = 1 := by unfold sp_lead; rw [if_pos q1]
      rw [e0, el]
      refine ⟨ed, ?_⟩
      unfold sp_chr
      simp only [e0, ed]
      simp
    · have hu : utf = true := by cases utf <;> simp_all
      subst hu
      have q1' : ¬ c < 128 := fun z => q1 (Or.inr z)
      by_cases q2 : c < 2048
      · have ee : sp_enc true c = [192 + c / 64, 128 + c % 64] := by unfold sp_enc; rw [if_neg q1, if_pos q2]
        have el : sp_len true c = 2 := by unfold sp_len; rw [if_neg q1, if_pos q2]
        rw [ee] at e0 e1
        simp only [List.cons_append, sp_b_cons0, sp_b_cons1] at e0 e1
        have ed : sp_lead true (192 + c / 64) = 2 := by unfold sp_lead; simp only [Bool.true_eq_false, reduceCtorEq, false_or]; (repeat' split) <;> omega
        rw [e0, el]
        refine ⟨ed, ?_⟩
        unfold sp_chr
        simp only [e0, e1, ed]
        simp
        omega
      · by_cases q3 : c < 65536
        · have ee : sp_enc true c = [224 + c / 4096, 128 + c / 64 % 64, 128 + c % 64] := by unfold sp_enc; rw [if_neg q1, if_neg q2, if_pos q3]
          have el : sp_len true c = 3 := by unfold sp_len; rw [if_neg q1, if_neg q2, if_pos q3]
          rw [ee] at e0 e1 e2
          simp only [List.cons_append, sp_b_cons0, sp_b_cons1, sp_b_cons2] at e0 e1 e2
          have ed : sp_lead true (224 + c / 4096) = 3 := by unfold sp_lead; simp only [Bool.true_eq_false, reduceCtorEq, false_or]; (repeat' split) <;> omega
          rw [e0, el]
          refine ⟨ed, ?_⟩
          unfold sp_chr
          simp only [e0, e1, e2, ed]
          simp
          omega
        · have ee : sp_enc true c = [240 + c / 262144, 128 + c / 4096 % 64, 128 + c / 64 % 64, 128 + c % 64] := by unfold sp_enc; rw [if_neg q1, if_neg q2, if_neg q3]
          have el : sp_len true c = 4 := by unfold sp_len; rw [if_neg q1, if_neg q2, if_neg q3]
          rw [ee] at e0 e1 e2 e3
          simp only [List.cons_append, sp_b_cons0, sp_b_cons1, sp_b_cons2, sp_b_cons3] at e0 e1 e2 e3
          have ed : sp_lead true (240 + c / 262144) = 4 := by unfold sp_lead; simp only [Bool.true_eq_false, reduceCtorEq, false_or]; (repeat' split) <;> omega
          rw [e0, el]
          refine ⟨ed, ?_⟩
          unfold sp_chr
          simp only [e0, e1, e2, e3, ed]
          simp
          omega
  exact ⟨hl.1, hl.2, by omega, h5⟩
