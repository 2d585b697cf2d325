/-! Frozen cells; caps of rows; bytes of characters. -/
theorem zAZ {E : zP} {Z : Nat → Prop} {ws : va_W} {s : State} {A : Nat → Prop} (hE : zE E s s.heap) (hD : va_D (fun x => zOld E x ∧ ¬ Z x) ws) (hZ : ∀ q, Z q → q < s.heap.size) (hA : va_A ws s.heap.size = A) : ∀ q, A q → zOld E q ∧ ¬ Z q := by
  subst hA
  intro q h
  rcases h with ⟨k, e, h⟩ | h
  · exact hD.2 k _ h
  · exact ⟨Nat.le_trans hE.2.1 h, fun z => Nat.lt_irrefl _ (Nat.lt_of_lt_of_le (hZ q z) h)⟩
theorem zfz {D : va_G} {cl : List vw_C} {A : Nat → Prop} {H0 H : Heap} {locs : List Loc} {q : Nat × va_E} (hS : va_S A H0 H locs) (h : va_at D cl q H0) (hn : ¬ A q.1) : va_at D cl q H := h.kept (hS.2.1 _ h.lt hn)
-- a frozen row
def zrowZ (E : zP) (Z : Nat → Prop) (a : Nat) (b : List Nat) (H : Heap) : Prop := ∃ (most : Int) (q cap : Nat) (f : Nat → Int32), Z a ∧ Z q ∧ zO E 1 a [.int (iI most), .ref q, .int (iI (b.length : Nat))] H ∧ zA E 0 q cap f H ∧ zbytes b cap f
theorem zrowZ.row {E : zP} {Z : Nat → Prop} {a : Nat} {b : List Nat} {H : Heap} (h : zrowZ E Z a b H) : zrow E a b H := by
  obtain ⟨most, q, cap, f, -, -, h⟩ := h
  exact ⟨most, q, cap, f, h⟩
theorem zrowZ.fz {E : zP} {Z : Nat → Prop} {a : Nat} {b : List Nat} {A : Nat → Prop} {H0 H : Heap} {locs : List Loc} (h : zrowZ E Z a b H0) (hS : va_S A H0 H locs) (hn : ∀ q, Z q → ¬ A q) : zrowZ E Z a b H := by
  obtain ⟨most, q, cap, f, z1, z2, hO, hA, hB⟩ := h
  exact ⟨most, q, cap, f, z1, z2, zfz hS hO (hn _ z1), zfz hS hA (hn _ z2), hB⟩
-- caps
def sp_up (n : Nat) : Nat := if n ≤ 16 then 16 else if n ≤ 64 then 64 else if n ≤ 256 then 256 else if n ≤ 1024 then 1024 else if n ≤ 4096 then 4096 else if n ≤ 16384 then 16384 else if n ≤ 65536 then 65536 else 262144
def sp_capok (cap : Nat) : Prop := cap = 16 ∨ cap = 64 ∨ cap = 256 ∨ cap = 1024 ∨ cap = 4096 ∨ cap = 16384 ∨ cap = 65536 ∨ cap = 262144
theorem sp_up_ok (n : Nat) : sp_capok (sp_up n) := by
  unfold sp_up sp_capok
  repeat' split
  all_goals omega
theorem sp_up_ge {n : Nat} (h : n ≤ 262144) : n ≤ sp_up n := by
  unfold sp_up
  repeat' split
  all_goals omega
theorem sp_up_mono {n m : Nat} (h : n ≤ m) : sp_up n ≤ sp_up m := by
  unfold sp_up
  repeat' split
  all_goals omega
theorem sp_capok_max {a b : Nat} (ha : sp_capok a) (hb : sp_capok b) : sp_capok (max a b) := by
  rcases Nat.le_total a b with h | h
  · rw [Nat.max_eq_right h]; exact hb
  · rw [Nat.max_eq_left h]; exact ha
theorem sp_capok_r {a : Nat} (ha : sp_capok a) : 16 ≤ a ∧ a ≤ 262144 ∧ a % 16 = 0 := by
  unfold sp_capok at ha
  omega
theorem sp_up_le {cap n : Nat} (hc : sp_capok cap) (h : n ≤ cap) : sp_up n ≤ cap := by
  unfold sp_capok at hc
  unfold sp_up
  repeat' split
  all_goals omega
theorem sp_grow_up {cap len : Nat} (hc : sp_capok cap) (h : len ≤ cap) (h2 : len < 262144) : sp_grow cap len = max cap (sp_up (len + 1)) := by
  unfold sp_grow
  split
  · rw [Nat.max_eq_left (sp_up_le hc (by omega))]
  · have e : len = cap := by omega
    subst e
    unfold sp_capok at hc
    rcases hc with rfl | rfl | rfl | rfl | rfl | rfl | rfl | rfl <;> first | rfl | omega
theorem sp_max_max {cap n m : Nat} (h : n ≤ m) : max (max cap (sp_up n)) (sp_up m) = max cap (sp_up m) := by
  have := sp_up_mono h
  omega
-- bytes
theorem sb_of {z : Int} {n : Nat} (h0 : 0 ≤ z) (h : z % 256 = (n : Int)) : (iI z).toInt8.toInt32 = sb_b n := by
  obtain ⟨N, rfl⟩ := Int.eq_ofNat_of_zero_le h0
  have e : n = N % 256 := by omega
  subst e
  unfold sb_b
  congr 1
  rw [← iI_nI]
  apply Int8.toBitVec.inj
  unfold nI
  simp
  apply BitVec.eq_of_toNat_eq
  simp
theorem iI_orK {y : Int} (K : Int) (j a : Nat) (hK : K = ((2 ^ j * a : Nat) : Int)) (h0 : 0 ≤ y) (h1 : y < ((2 ^ j : Nat) : Int)) : iI K ||| iI y = iI (K + y) := by
  obtain ⟨k, rfl⟩ := Int.eq_ofNat_of_zero_le h0
  have e := Nat.two_pow_add_eq_or_of_lt (i := j) (b := k) (by omega) a
  rw [hK, iI_orN, ← e]
  congr 1
