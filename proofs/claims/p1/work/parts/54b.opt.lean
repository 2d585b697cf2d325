/-! The options that are none but the known ones. -/
theorem zopt_nat {n : Nat} (hn : n < 4294967296) (h : n &&& 4294959615 = 0) : n = 512 * (n / 512 % 16) := by
  apply Nat.eq_of_testBit_eq
  intro i
  have hb : (n.testBit i && Nat.testBit 4294959615 i) = false := by rw [← Nat.testBit_and, h, Nat.zero_testBit]
  have e : (512 * (n / 512 % 16)).testBit i = (decide (9 ≤ i) && (decide (i - 9 < 4) && n.testBit i)) := by
    rw [show (512 : Nat) = 2 ^ 9 by rfl, Nat.testBit_two_pow_mul, show (16 : Nat) = 2 ^ 4 by rfl, Nat.testBit_mod_two_pow, Nat.testBit_div_two_pow]
    by_cases q : 9 ≤ i
    · rw [Nat.sub_add_cancel q]
    · simp [q]
  rw [e]
  by_cases q : 9 ≤ i ∧ i < 13
  · simp [q.1, show i - 9 < 4 by omega]
  · have : (decide (9 ≤ i) && (decide (i - 9 < 4) && n.testBit i)) = false := by
      by_cases q1 : 9 ≤ i
      · have : ¬ (i - 9 < 4) := by omega
        simp [this]
      · simp [q1]
    rw [this]
    by_cases q2 : i < 32
    · have hm : Nat.testBit 4294959615 i = true := by
        have : ∀ j, j < 32 → ¬ (9 ≤ j ∧ j < 13) → Nat.testBit 4294959615 j = true := by decide
        exact this i q2 q
      rw [hm, Bool.and_true] at hb
      exact hb
    · exact Nat.testBit_lt_two_pow (Nat.lt_of_lt_of_le hn (show 4294967296 ≤ 2 ^ i from Nat.pow_le_pow_right (n := 2) (by decide) (show 32 ≤ i by omega)))
theorem zopt {v : Int32} (h : v &&& iI (-7681) = 0) : ∃ ov, ov < 16 ∧ v = iI ((512 * ov : Nat) : Int) := by
  have h1 : v.toBitVec.toNat &&& 4294959615 = 0 := by
    have := congrArg (fun x : Int32 => x.toBitVec.toNat) h
    simpa [iI] using this
  have h2 := zopt_nat v.toBitVec.isLt h1
  refine ⟨v.toBitVec.toNat / 512 % 16, Nat.mod_lt _ (by decide), ?_⟩
  rw [← h2]
  apply Int32.toBitVec.inj
  apply BitVec.eq_of_toNat_eq
  simp [iI]
