/-! Rows of bytes that grow. -/
def sp_grow (cap len : Nat) : Nat := if len < cap then cap else 4 * cap
theorem zbytes_push {b : List Nat} {cap n : Nat} {f : Nat → Int32} {x : Int32} (hB : zbytes b cap f) (hl : b.length < cap) (hn : n < 256) (hx : x = sb_b n) : zbytes (b ++ [n]) cap (upd f b.length x) := by
  obtain ⟨h1, h2, h3, h4⟩ := hB
  refine ⟨by simp; omega, h2, fun y hy => ?_, fun j hj => ?_⟩
  · rcases List.mem_append.mp hy with h | h
    · exact h3 y h
    · rw [List.mem_singleton.mp h]; exact hn
  · simp only [List.length_append, List.length_cons, List.length_nil] at hj
    unfold upd
    by_cases he : j = b.length
    · rw [if_pos he, hx, he]
      simp
    · rw [if_neg he, h4 j (by omega)]
      congr 1
      simp [List.getD_eq_getElem?_getD, List.getElem?_append_left (show j < b.length by omega)]
theorem zbytes_grow {b : List Nat} {cap n : Nat} {f : Nat → Int32} (hB : zbytes b cap f) (hn : cap ≤ n) (h2 : n < 2147483648) : zbytes b n (va_cpy f (fun _ => 0) 0 0 cap) := by
  obtain ⟨h1, -, h3, h4⟩ := hB
  refine ⟨by omega, h2, h3, fun j hj => ?_⟩
  rw [pk_cpy_in (Nat.zero_le _) (by omega), Nat.zero_add, Nat.sub_zero]
  exact h4 j hj
theorem zbytes_cut {b : List Nat} {cap k : Nat} {f : Nat → Int32} (hB : zbytes b cap f) : zbytes (b.take k) cap f := by
  obtain ⟨h1, h2, h3, h4⟩ := hB
  refine ⟨by rw [List.length_take]; omega, h2, fun x hx => h3 x (List.mem_of_mem_take hx), fun j hj => ?_⟩
  rw [List.length_take] at hj
  rw [h4 j (by omega)]
  congr 1
  simp [List.getD_eq_getElem?_getD, List.getElem?_take, show j < k by omega]
theorem zbytes_copy {b : List Nat} {cap n : Nat} {f g : Nat → Int32} (hB : zbytes b cap f) (hn : b.length ≤ n) (h2 : n < 2147483648) : zbytes b n (va_cpy f g 0 0 b.length) := by
  obtain ⟨h1, -, h3, h4⟩ := hB
  refine ⟨hn, h2, h3, fun j hj => ?_⟩
  rw [pk_cpy_in (Nat.zero_le _) (by omega), Nat.zero_add, Nat.sub_zero]
  exact h4 j hj
theorem zbytes_fit {b : List Nat} {cap : Nat} {f : Nat → Int32} (hB : zbytes b cap f) : ∀ i, i < b.length → fits .byte (.int (f i)) = true := fun i hi => by rw [hB.2.2.2 i hi]; exact sb_fitB _
theorem sb_nar (x : Int32) : vp_nar .byte x.toInt8.toInt32 = x.toInt8.toInt32 := pk_vb x
def zfit (cap : Nat) (f : Nat → Int32) : Prop := ∀ i, i < cap → fits .byte (.int (f i)) = true
theorem zfit_upd {cap k : Nat} {f : Nat → Int32} {x : Int32} (h : zfit cap f) (hx : fits .byte (.int x) = true) : zfit cap (upd f k x) := fun i hi => by
  unfold upd
  by_cases he : i = k
  · rw [if_pos he]; exact hx
  · rw [if_neg he]; exact h i hi
theorem zfit_grow {cap n : Nat} {f : Nat → Int32} (h : zfit cap f) : zfit n (va_cpy f (fun _ => 0) 0 0 cap) := fun i hi => by
  unfold va_cpy
  split
  · exact h _ (by omega)
  · show fits FieldType.byte (Value.int 0) = true
    decide +kernel
theorem zfit_copy {cap n k : Nat} {f g : Nat → Int32} (h : zfit cap f) (hg : zfit n g) (hk : k ≤ cap) : zfit n (va_cpy f g 0 0 k) := fun i hi => by
  unfold va_cpy
  split
  · exact h _ (by omega)
  · exact hg i hi
theorem zfit_0 (n : Nat) : zfit n (fun _ => 0) := fun _ _ => show fits FieldType.byte (Value.int 0) = true by decide +kernel
