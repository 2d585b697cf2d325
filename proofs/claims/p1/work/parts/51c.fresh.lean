/-! Where a state's cells lie behind a call: where they lay, or in new places. -/
def zFr (R : Nat → Prop) (ad : Nat → Nat) (sz : Nat) (R' : Nat → Prop) (ad' : Nat → Nat) : Prop := ∀ i, R' i → zAo R ad sz (ad' i)
theorem zFr_rfl {R : Nat → Prop} {ad : Nat → Nat} {sz : Nat} : zFr R ad sz R ad := fun i hi => Or.inl ⟨i, hi, rfl⟩
theorem zFr_up {R : Nat → Prop} {ad : Nat → Nat} {sz k q : Nat} (h : zAo R ad sz q) : zFr R ad sz R (zUp ad k q) := by
  intro i hi
  by_cases e : i = k
  · rw [e, zUp_at]
    exact h
  · rw [zUp_ne _ _ e]
    exact Or.inl ⟨i, hi, rfl⟩
