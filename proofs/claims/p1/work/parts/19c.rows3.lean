/-! References in arrays, casts, a nest mate's field; names. -/
section ZR3
variable {p : Program} {l : Launch} {e : Env} {R : Room} {s : State} {m : MethodId} {args : Array Value} {below : List Frame} {meth : Method} {c : Code} {H : Heap} {locs : List Loc} {cells slots : Nat} {Q : State → Prop} {cc : ByteArray} {pc nL : Nat} {ls : Array Slot} {rest : List Value} {own : String}
theorem zaald {E : zP} {x n y : Nat} {f : Nat → Option Nat} {i : Int} {C : String} (hx : p.tables.exec = Jvm.exec) (hb : c.code = cc) (hE : zE E s H) (t0 : Nat) (ht : (zty E.2.1)[t0]? = some (E.2.1 t0, .object C)) (hA : zQ E t0 x n f H) (h0 : 0 ≤ i) (h1 : i < (n : Int)) (hn : n < 2147483648) (hy : f i.toNat = some y) (hd : decode cc pc = .ok (.aaload, 1)) (kk : W p l e R s m args below meth c H locs cells slots Q (F0 m (pc + 1) ls (.ref y :: rest))) : W p l e R s m args below meth c H locs cells slots Q (F0 m pc ls (.int (iI i) :: .ref x :: rest)) :=
  va_aldq hx hb hE.1 (zP1 hA) 0 t0 rfl ht (iI_in h0 h1 hn) hd (by rw [iI_clamp h0 (by omega), hy]; exact kk)
theorem zcast {E : zP} {C : String} {T : u_T} {N ci index x : Nat} {fs : List Value} (S : CallFix p m c cc nL s args zw own) (hE : zE E s H) (hc : zcl[ci]? = some (C, T, N)) (hO : zO E ci x fs H) (hl : Cond.classLink own index C ∈ zw) (hd : decode cc pc = .ok (.checkcast index, 3)) (kk : W p l e R s m args below meth c H locs cells slots Q (F0 m (pc + 3) ls (.ref x :: rest))) : W p l e R s m args below meth c H locs cells slots Q (F0 m pc ls (.ref x :: rest)) := by
  have hKn := hE.1.1 ci _ hc
  obtain ⟨r, h1, cell, q1, q2, q3, -⟩ := hO
  exact va_castS S.1 S.2.1 S.2.2.2.1 (S.2.2.2.2 _ hl) hKn.2 ⟨cell, q1, by rw [q3]; rfl, by rw [q2]; exact hKn.2.1⟩ hd kk
theorem zgfN {E : zP} {C host : String} {T : u_T} {N ci index x : Nat} {fs : List Value} {v : Value} (S : CallFix p m c cc nL s args zw own) (hE : zE E s H) (hc : zcl[ci]? = some (C, T, N)) (hin : ∀ w ∈ u_ws C T N, w ∈ zw) (hO : zO E ci x fs H) (k : Nat) (hk : k < N) (hl : va_Nw (.fieldLinkNest own index (T k).1 (T k).2.1 (T k).2.2.1 host) s) (hv : fs[k]? = some v) (hd : decode cc pc = .ok (.getfield index, 3))
    (kk : W p l e R s m args below meth c H locs cells slots Q (F0 m (pc + 3) ls (v :: rest))) : W p l e R s m args below meth c H locs cells slots Q (F0 m pc ls (.ref x :: rest)) :=
  va_getN S.1 S.2.1 S.2.2.2.2 hin S.2.2.2.1 hE.1 (zP1 hO) 0 rfl hc k hk (va_Nw.use rfl hl) (fun _ h => h) hv hd kk
theorem zretV {v : Value} {r : Value} {rt : FieldType} {free : Addr → Prop} {Ts : List Cond} (S : CallFix p m c cc nL s args Ts own) (hr : meth.sig.returnType = some rt) (hrt : (∃ n, rt = .object n) ∨ ∃ t, rt = .array t) (hlk : meth.locks = false) (hd : decode cc pc = .ok (.areturn, 1)) (hv : v = r) (hz : v = .null ∨ ∃ a, v = .ref a) : W p l e R s m args below meth c s.heap [] cells slots (MQ below (zR (some r)) args s cells slots free) (F0 m pc ls [v]) := by
  subst hv
  exact W.aret S.1 S.2.1 hr hrt hz (fun t ht _ => ⟨rfl, ht⟩) (fun _ h => nomatch h) hd (hlocks := hlk)
end ZR3
theorem sb_pos : ∀ n : Fin 128, sb_b n.val = iI ((n.val : Nat) : Int) := by decide +kernel
-- a name and its group
def zname (E : zP) (Z : Nat → Prop) (a : Nat) (w : List Nat) (g : Nat) (H : Heap) : Prop := ∃ (q : Nat) (f : Nat → Int32), Z a ∧ Z q ∧ zO E 4 a [.ref q, .int (iI ((g : Nat) : Int))] H ∧ zA E 0 q w.length f H ∧ (∀ j, j < w.length → f j = sb_b (w.getD j 0)) ∧ (∀ x ∈ w, x < 128) ∧ w.length ≤ 32 ∧ g ≤ 99
def sp_same (b : List Nat) (k : Nat) (w : List Nat) : Bool := (List.range w.length).all (fun m => sp_b b (k + m) == w.getD m 0)
theorem sp_same_t {b : List Nat} {k : Nat} {w : List Nat} (h : ∀ m, m < w.length → sp_b b (k + m) = w.getD m 0) : sp_same b k w = true := by
  unfold sp_same
  rw [List.all_eq_true]
  intro m hm
  rw [h m (List.mem_range.mp hm)]
  simp
theorem sp_same_f {b : List Nat} {k : Nat} {w : List Nat} {m : Nat} (hm : m < w.length) (h : sp_b b (k + m) ≠ w.getD m 0) : sp_same b k w = false := by
  unfold sp_same
  rw [List.all_eq_false]
  exact ⟨m, List.mem_range.mpr hm, by simpa using h⟩
-- a list of objects: the ArrayList at a holds the addresses x
def zlist (E : zP) (Z : Nat → Prop) (a : Nat) (x : List Nat) (H : Heap) : Prop := ∃ (ea cap : Nat) (md : Int) (f : Nat → Option Nat), Z a ∧ (x ≠ [] → Z ea) ∧ zO E 9 a [.ref ea, .int (iI ((x.length : Nat) : Int)), .int (iI md)] H ∧ (x ≠ [] → zQ E 5 ea cap f H) ∧ x.length ≤ cap ∧ cap < 2147483648 ∧ ∀ j, j < x.length → f j = some (x.getD j 0)
