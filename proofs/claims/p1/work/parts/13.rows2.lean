/-! Statics, constants of the enum, the table of case. -/
theorem iI_emod (a : Int) : iI (a % 4294967296) = iI a := by
  apply Int32.toInt_inj.mp
  show (Int32.ofInt _).toInt = (Int32.ofInt _).toInt
  rw [Int32.toInt_ofInt, Int32.toInt_ofInt]
  exact Int.emod_bmod a 4294967296
theorem iI_mask1 (a : Int) : iI a &&& iI 1 = iI (a % 2) := by
  rw [← iI_emod a, iI_mask 1 1 2 (by omega) (by decide) (by decide)]
  congr 1
  omega
section ZS
variable {p : Program} {l : Launch} {e : Env} {R : Room} {s : State} {m : MethodId} {args : Array Value} {below : List Frame} {meth : Method} {c : Code} {H : Heap} {locs : List Loc} {cells slots : Nat} {Q : State → Prop} {cc : ByteArray} {pc nL : Nat} {ls : Array Slot} {rest : List Value} {own : String} {A : Nat → Prop}
theorem zgs {C n d : String} {v : Value} {index : Nat} (S : CallFix p m c cc nL s args zw own) (hZ : va_Z C n d v A s H) (hl : Cond.fieldLink own index C n d ∈ zw) (hd : decode cc pc = .ok (.getstatic index, 3)) (kk : W p l e R s m args below meth c H locs cells slots Q (F0 m (pc + 3) ls (v :: rest))) : W p l e R s m args below meth c H locs cells slots Q (F0 m pc ls rest) := by
  obtain ⟨cf, kf, fi, f, a, cell, h1, h2, h3, h4, h5, h6, h7, h8⟩ := hZ
  exact W.gets S.1 S.2.1 S.2.2.2.1 (S.2.2.2.2 _ hl) h1 h2 h3 h4 h5 (fun e => by rw [e] at h6; cases h6) h7 rfl hd kk
theorem zti {t N : Nat} {f : Nat → Value} {i : Int} {v : Value} (hx : p.tables.exec = Jvm.exec) (hb : c.code = cc) (hT : va_T .int t N f A s H) (h0 : 0 ≤ i) (h1 : i < (N : Int)) (hN : N < 2147483648) (hv : f i.toNat = v) (hd : decode cc pc = .ok (.iaload, 1)) (kk : W p l e R s m args below meth c H locs cells slots Q (F0 m (pc + 1) ls (v :: rest))) : W p l e R s m args below meth c H locs cells slots Q (F0 m pc ls (.int (iI i) :: .ref t :: rest)) := by
  have hS : va_S (fun _ => False) H H [] := va_S.rf
  obtain ⟨cell, q1, q2, q3, q4, q5, q6, q7⟩ := hT
  have ec : (iI i).toNatClampNeg = i.toNat := iI_clamp h0 (by omega)
  refine W.iald (v := v) hx hb q1 q2 q3 ?_ (by rw [ec, q6 _ (by omega), hv]) rfl rfl hd kk
  rw [ec]
  have := vp_in_iff.mp (iI_in h0 h1 hN)
  intro h
  rcases h with h | h
  · rw [iI_0, iI_lt ⟨by omega, by omega⟩ r32_0] at h
    omega
  · omega
theorem zacmp_ne {x y : Nat} {off : Int} {tgt : Nat} (hx : p.tables.exec = Jvm.exec) (hb : c.code = cc) (hd : decode cc pc = .ok (.if_acmp .ne off, 3)) (ht : (pc : Int) + off = (tgt : Int)) (kt : x ≠ y → W p l e R s m args below meth c H locs cells slots Q (F0 m tgt ls rest)) (kf : x = y → W p l e R s m args below meth c H locs cells slots Q (F0 m (pc + 3) ls rest)) : W p l e R s m args below meth c H locs cells slots Q (F0 m pc ls (.ref y :: .ref x :: rest)) :=
  lv_acmp_ne (rx := some x) (ry := some y) hx hb hd ht (fun h => kt (fun q => h (congrArg some q))) (fun h => kf (Option.some.inj h))
theorem zacmp_eq {x y : Nat} {off : Int} {tgt : Nat} (hx : p.tables.exec = Jvm.exec) (hb : c.code = cc) (hd : decode cc pc = .ok (.if_acmp .eq off, 3)) (ht : (pc : Int) + off = (tgt : Int)) (kt : x = y → W p l e R s m args below meth c H locs cells slots Q (F0 m tgt ls rest)) (kf : x ≠ y → W p l e R s m args below meth c H locs cells slots Q (F0 m (pc + 3) ls rest)) : W p l e R s m args below meth c H locs cells slots Q (F0 m pc ls (.ref y :: .ref x :: rest)) :=
  lv_acmp_eq (rx := some x) (ry := some y) hx hb hd ht (fun h => kt (Option.some.inj h)) (fun h => kf (fun q => h (congrArg some q)))
end ZS
theorem zE.pairs {E : zP} {s : State} {H : Heap} (h : zE E s H) : va_Z "ReplacementWriter$Cases" "PAIRS" "[I" (.ref (E.2.2.1 0)) (zOld E) s H := h.2.2.2.1
theorem zE.pairsT {E : zP} {s : State} {H : Heap} (h : zE E s H) : va_T .int (E.2.2.1 0) 90 (fun j => .int (iI (zpairs.getD j 0))) (zOld E) s H := h.2.2.2.2.1
theorem zE.asis {E : zP} {s : State} {H : Heap} (h : zE E s H) : va_Z "ReplacementWriter$Turn" "AS_IT_IS" "LReplacementWriter$Turn;" (.ref (E.2.2.1 1)) (zOld E) s H := h.2.2.2.2.2.1
theorem zE.upper {E : zP} {s : State} {H : Heap} (h : zE E s H) : va_Z "ReplacementWriter$Turn" "UPPER" "LReplacementWriter$Turn;" (.ref (E.2.2.1 2)) (zOld E) s H := h.2.2.2.2.2.2.1
theorem zE.lower {E : zP} {s : State} {H : Heap} (h : zE E s H) : va_Z "ReplacementWriter$Turn" "LOWER" "LReplacementWriter$Turn;" (.ref (E.2.2.1 3)) (zOld E) s H := h.2.2.2.2.2.2.2.1
theorem zE.more {E : zP} {s : State} {H : Heap} (h : zE E s H) : zSX E s H := h.2.2.2.2.2.2.2.2.2.2.2.1
theorem zE.elist {E : zP} {s : State} {H : Heap} (h : zE E s H) : va_Z "java/util/ArrayList" "DEFAULTCAPACITY_EMPTY_ELEMENTDATA" "[Ljava/lang/Object;" (.ref (E.2.2.1 4)) (zOld E) s H := h.2.2.2.2.2.2.2.2.2.2.2.2.1
theorem zE.elistA {E : zP} {s : State} {H : Heap} (h : zE E s H) : E.2.2.1 4 < E.2.2.2 := h.2.2.2.2.2.2.2.2.2.2.2.2.2
theorem zE.turns {E : zP} {s : State} {H : Heap} (h : zE E s H) {a b : Nat} (ha : a ≤ 2) (hb : b ≤ 2) : E.2.2.1 (a + 1) = E.2.2.1 (b + 1) ↔ a = b := by
  obtain ⟨h1, h2, h3, -⟩ := h.2.2.2.2.2.2.2.2
  rcases (show a = 0 ∨ a = 1 ∨ a = 2 by omega) with rfl | rfl | rfl <;> rcases (show b = 0 ∨ b = 1 ∨ b = 2 by omega) with rfl | rfl | rfl <;> simp_all <;> (intro q; first | exact h1 q.symm | exact h2 q.symm | exact h3 q.symm)
-- the table: row r
abbrev sp_row (r : Nat) : sp_Row := sp_rows.getD r (0, 0, 0, 0, 0)
theorem zpairs_row : ∀ r : Fin 18, zpairs.getD (5 * r.val) 0 = (sp_row r.val).1 ∧ zpairs.getD (5 * r.val + 1) 0 = (sp_row r.val).2.1 ∧ zpairs.getD (5 * r.val + 2) 0 = (sp_row r.val).2.2.1 ∧ zpairs.getD (5 * r.val + 3) 0 = (sp_row r.val).2.2.2.1 ∧ zpairs.getD (5 * r.val + 4) 0 = (sp_row r.val).2.2.2.2 := by decide +kernel
theorem sp_row_r : ∀ r : Fin 18, (0 ≤ (sp_row r.val).1 ∧ (sp_row r.val).1 ≤ 10000) ∧ (0 ≤ (sp_row r.val).2.1 ∧ (sp_row r.val).2.1 ≤ 10000) ∧ (0 ≤ (sp_row r.val).2.2.1 ∧ (sp_row r.val).2.2.1 ≤ 2) ∧ (-10000 ≤ (sp_row r.val).2.2.2.1 ∧ (sp_row r.val).2.2.2.1 ≤ 10000) ∧ (0 ≤ (sp_row r.val).2.2.2.2 ∧ (sp_row r.val).2.2.2.2 ≤ 2) := by decide +kernel
