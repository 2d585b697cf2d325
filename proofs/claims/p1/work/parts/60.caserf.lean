/-! The reference's table of characters and its case, as mathematics; it is the document's. -/
def rf_ks : List (Nat × Nat × Nat) := [(8491, 8491, 6), (8490, 8490, 6), (376, 376, 6), (1024, 1071, 6), (931, 937, 6), (913, 929, 6), (216, 222, 6), (192, 214, 6), (65, 90, 6), (256, 383, 4), (1072, 1119, 4), (945, 969, 4), (248, 255, 4), (223, 246, 4), (181, 181, 4), (97, 122, 4), (768, 879, 7), (8544, 8559, 9), (188, 190, 10), (185, 185, 10), (178, 179, 10), (8203, 8207, 2), (173, 173, 2), (8221, 8221, 14), (8217, 8217, 14), (187, 187, 14), (8223, 8223, 15), (8219, 8220, 15), (8216, 8216, 15), (171, 171, 15), (12449, 12538, 5), (12353, 12438, 5), (1601, 1610, 5), (1568, 1599, 5), (1488, 1514, 5), (186, 186, 5), (170, 170, 5), (176, 176, 21), (174, 174, 21), (169, 169, 21), (166, 166, 21), (95, 95, 11), (184, 184, 19), (180, 180, 19), (175, 175, 19), (168, 168, 19), (96, 96, 19), (94, 94, 19), (1632, 1641, 8), (48, 57, 8), (8208, 8213, 12), (45, 45, 12), (8592, 8596, 20), (247, 247, 20), (215, 215, 20), (177, 177, 20), (172, 172, 20), (126, 126, 20), (124, 124, 20), (60, 62, 20), (43, 43, 20), (125, 125, 13), (93, 93, 13), (41, 41, 13), (8222, 8222, 17), (8218, 8218, 17), (123, 123, 17), (91, 91, 17), (40, 40, 17), (8352, 8383, 18), (162, 165, 18), (36, 36, 18), (8224, 8231, 16), (8214, 8215, 16), (191, 191, 16), (182, 183, 16), (167, 167, 16), (161, 161, 16), (92, 92, 16), (63, 64, 16), (58, 59, 16), (46, 47, 16), (44, 44, 16), (42, 42, 16), (37, 39, 16), (33, 35, 16), (8233, 8233, 23), (8232, 8232, 22), (12288, 12288, 24), (8287, 8287, 24), (8239, 8239, 24), (8192, 8202, 24), (160, 160, 24), (32, 32, 24), (127, 159, 1), (0, 31, 1)]
def rf_k0 (c : Nat) : List (Nat × Nat × Nat) → Nat
  | [] => 0
  | r :: rs => if r.1 ≤ c ∧ c ≤ r.2.1 then r.2.2 else rf_k0 c rs
def rf_kind (c : Nat) : Nat :=
  if (377 ≤ c ∧ c < 383 ∧ c % 2 = 1) ∨ (313 ≤ c ∧ c < 329 ∧ c % 2 = 1) ∨ (330 ≤ c ∧ c < 376 ∧ c % 2 = 0) ∨ (256 ≤ c ∧ c < 312 ∧ c % 2 = 0) then 6 else rf_k0 c rf_ks
def rf_cat (c : Nat) : Nat :=
  if c < 12544 then rf_kind c
  else if (19968 ≤ c ∧ c ≤ 40959) ∨ (44032 ≤ c ∧ c ≤ 55203) then 5
  else if 57344 ≤ c ∧ c ≤ 63743 then 3
  else if c = 65039 then 7
  else if c = 65279 then 2
  else if 127744 ≤ c ∧ c ≤ 128591 then 21 else 0
def rf_in (c a b : Nat) : Bool := decide (a ≤ c ∧ c ≤ b)
def rf_pair (c : Nat) : Nat :=
  if rf_in c 65 90 || rf_in c 192 214 || rf_in c 216 222 || rf_in c 913 929 || rf_in c 931 937 || rf_in c 1040 1071 then 32
  else if rf_in c 1024 1039 then 80
  else if (rf_in c 256 303 || rf_in c 306 311 || rf_in c 313 328 || rf_in c 330 375 || rf_in c 377 382) && decide (rf_cat c = 6) then 1 else 0
def rf_third (c : Nat) : Option Nat := if c = 383 then some 83 else if c = 8490 then some 75 else if c = 8491 then some 197 else if c = 181 then some 924 else if c = 962 then some 931 else none
def rf_first (c : Nat) : Nat := match rf_third c with
  | some a => a
  | none => if c = 255 then 376 else if 0 < rf_pair c then c else if 32 ≤ c ∧ rf_pair (c - 32) = 32 then c - 32 else if 80 ≤ c ∧ rf_pair (c - 80) = 80 then c - 80 else if 0 < c ∧ rf_pair (c - 1) = 1 then c - 1 else c
def rf_last (utf : Bool) : Nat := if utf then 1114111 else 255
def rf_with (utf : Bool) (c : Nat) : List Nat := if c ≤ rf_last utf then [c] else []
def rf_mates (utf ucp : Bool) (c : Nat) : List Nat :=
  let plain := !utf && !ucp
  let a := if 8704 < c then c else rf_first c
  if plain && !(rf_in a 65 90) then rf_with utf c
  else rf_with utf a ++ (if a = 376 then rf_with utf 255 else if a ≤ 8704 ∧ 0 < rf_pair a then rf_with utf (a + rf_pair a) else []) ++
    (if plain then [] else (if a = 83 then rf_with utf 383 else []) ++ (if a = 75 then rf_with utf 8490 else []) ++ (if a = 197 then rf_with utf 8491 else []) ++ (if a = 924 then rf_with utf 181 else []) ++ (if a = 931 then rf_with utf 962 else []))
def rf_best (c : Nat) (best x : Nat) : Nat := if rf_cat x = 6 ∧ (best = c ∨ x < best) then x else best
def rf_upper (utf ucp : Bool) (c : Nat) : Nat := if rf_cat c ≠ 4 then c else (rf_mates utf ucp c).foldl (rf_best c) c
def rf_lower (utf ucp : Bool) (c : Nat) : Nat := if rf_cat c ≠ 6 then c else ((rf_mates utf ucp c).find? (fun x => decide (rf_cat x = 4) && (rf_third x).isNone)).getD c
def rf_ok (utf ucp : Bool) (c : Nat) : Bool := decide (rf_upper utf ucp c = sp_case utf ucp 1 c) && decide (rf_lower utf ucp c = sp_case utf ucp 2 c)
def rf_seg (utf ucp : Bool) (a n : Nat) : Bool := (List.range n).all (fun k => rf_ok utf ucp (a + k))
theorem rf_seg_at {utf ucp : Bool} {a n c : Nat} (h : rf_seg utf ucp a n = true) (h1 : a ≤ c) (h2 : c < a + n) : rf_upper utf ucp c = sp_case utf ucp 1 c ∧ rf_lower utf ucp c = sp_case utf ucp 2 c := by
  unfold rf_seg at h
  rw [List.all_eq_true] at h
  have k := h (c - a) (List.mem_range.mpr (by omega))
  rw [Nat.add_sub_cancel' h1] at k
  unfold rf_ok at k
  rw [Bool.and_eq_true] at k
  exact ⟨of_decide_eq_true k.1, of_decide_eq_true k.2⟩
set_option maxRecDepth 1000000 in
theorem rf_n0 : rf_seg false false 0 256 = true := by decide +kernel
set_option maxRecDepth 1000000 in
theorem rf_n1 : rf_seg false true 0 256 = true := by decide +kernel
set_option maxRecDepth 1000000 in
theorem rf_u0 : rf_seg true false 0 384 = true := by decide +kernel
set_option maxRecDepth 1000000 in
theorem rf_u1 : rf_seg true false 384 384 = true := by decide +kernel
set_option maxRecDepth 1000000 in
theorem rf_u2 : rf_seg true false 768 384 = true := by decide +kernel
set_option maxRecDepth 1000000 in
theorem rf_u3 : rf_seg true false 8490 2 = true := by decide +kernel
theorem rf_ucp (c : Nat) : rf_upper true true c = rf_upper true false c ∧ rf_lower true true c = rf_lower true false c := ⟨rfl, rfl⟩
theorem rf_k0_hi {c : Nat} (h : 1152 ≤ c) (h1 : c ≠ 8490) (h2 : c ≠ 8491) : ∀ rs : List (Nat × Nat × Nat), (rs.all (fun r => decide (r.2.2 ≠ 4 ∧ r.2.2 ≠ 6) || decide (r.2.1 ≤ 1151) || decide (r.1 = 8490 ∧ r.2.1 = 8490) || decide (r.1 = 8491 ∧ r.2.1 = 8491))) = true → rf_k0 c rs ≠ 4 ∧ rf_k0 c rs ≠ 6
  | [], _ => by unfold rf_k0; decide
  | r :: rs, hr => by
    rw [List.all_cons, Bool.and_eq_true] at hr
    unfold rf_k0
    split
    · rename_i hc
      have := hr.1
      simp only [Bool.or_eq_true, decide_eq_true_eq] at this
      omega
    · exact rf_k0_hi h h1 h2 rs hr.2
theorem rf_cat_hi {c : Nat} (h : 1152 ≤ c) (h1 : c ≠ 8490) (h2 : c ≠ 8491) : rf_cat c ≠ 4 ∧ rf_cat c ≠ 6 := by
  have k := rf_k0_hi h h1 h2 rf_ks (by decide +kernel)
  have e : rf_kind c = rf_k0 c rf_ks := by
    unfold rf_kind
    rw [if_neg (by omega)]
  unfold rf_cat
  rw [e]
  split
  · exact k
  · constructor <;> (repeat' split) <;> omega
theorem sp_find_hi1 (up : Bool) {c : Int} (h : 1152 ≤ c) (h1 : c ≠ 8490) (h2 : c ≠ 8491) : ∀ rs : List sp_Row, (rs.all (fun r => if up then decide (r.2.2.2.2 = 2) || decide (r.2.1 + r.2.2.2.1 < 1152) else decide (r.2.2.2.2 = 1) || decide (r.2.1 < 1152) || decide (r.1 = r.2.1 ∧ (r.1 = 8490 ∨ r.1 = 8491)))) = true → sp_find up c rs = c
  | [], _ => rfl
  | r :: rs, hr => by
    rw [List.all_cons, Bool.and_eq_true] at hr
    unfold sp_find
    rw [if_neg, sp_find_hi1 up h h1 h2 rs hr.2]
    have k := hr.1
    unfold sp_isUp
    cases up
    · simp only [Bool.false_eq_true, if_false, Bool.or_eq_true, decide_eq_true_eq] at k ⊢
      omega
    · simp only [if_true, Bool.or_eq_true, decide_eq_true_eq] at k ⊢
      omega
theorem sp_find_hi (up : Bool) {c : Int} (h : 1152 ≤ c) (h1 : c ≠ 8490) (h2 : c ≠ 8491) : sp_find up c sp_rows = c := sp_find_hi1 up h h1 h2 sp_rows (by cases up <;> decide +kernel)
theorem rf_case {utf ucp : Bool} {c : Nat} (hok : sp_ok utf c = true) : rf_upper utf ucp c = sp_case utf ucp 1 c ∧ rf_lower utf ucp c = sp_case utf ucp 2 c := by
  cases utf with
  | false =>
    have hc : c ≤ 255 := by simpa [sp_ok] using hok
    cases ucp
    · exact rf_seg_at rf_n0 (Nat.zero_le _) (by omega)
    · exact rf_seg_at rf_n1 (Nat.zero_le _) (by omega)
  | true =>
    have hu : sp_case true ucp 1 c = sp_case true false 1 c ∧ sp_case true ucp 2 c = sp_case true false 2 c := by cases ucp <;> exact ⟨rfl, rfl⟩
    have hr : rf_upper true ucp c = rf_upper true false c ∧ rf_lower true ucp c = rf_lower true false c := by
      cases ucp
      · exact ⟨rfl, rfl⟩
      · exact rf_ucp c
    rw [hu.1, hu.2, hr.1, hr.2]
    by_cases q : c < 1152
    · by_cases q1 : c < 384
      · exact rf_seg_at rf_u0 (Nat.zero_le _) (by omega)
      · by_cases q2 : c < 768
        · exact rf_seg_at rf_u1 (by omega) (by omega)
        · exact rf_seg_at rf_u2 (by omega) (by omega)
    · by_cases q3 : c = 8490 ∨ c = 8491
      · exact rf_seg_at rf_u3 (by omega) (by omega)
      · obtain ⟨k1, k2⟩ := rf_cat_hi (c := c) (by omega) (by omega) (by omega)
        unfold rf_upper rf_lower sp_case
        rw [if_pos k1, if_pos k2, if_neg (by decide), if_neg (by decide)]
        have e : sp_rows.take (sp_many true false) = sp_rows := by decide +kernel
        rw [e, sp_find_hi _ (by omega) (by omega) (by omega), sp_find_hi _ (by omega) (by omega) (by omega)]
        exact ⟨rfl, rfl⟩
