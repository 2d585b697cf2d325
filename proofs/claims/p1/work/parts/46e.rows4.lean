/-! Arrays of references, made and written; what is left and what is new side by side. -/
theorem zjoin_app {A0 : Nat → Prop} {D : va_G} {cl : List vw_C} {ws wc w1 : va_W} {H H1 : Heap} (hP : va_P D cl (ws ++ wc) H) (hD : va_D A0 (ws ++ wc)) (hk : ∀ q : Nat, q < H.size → ¬ va_A wc H.size q → H1[q]? = H[q]?) (hF : ∀ q, va_A wc H.size q → A0 q) (hP1 : va_P D cl w1 H1) (hD1 : va_D (va_A wc H.size) w1) : va_P D cl (ws ++ w1) H1 ∧ va_D A0 (ws ++ w1) := by
  have hl : ∀ (k : Nat) (q : Nat × va_E), ws[k]? = some q → (ws ++ wc)[k]? = some q := fun k q hk => by
    rw [List.getElem?_append_left (List.getElem?_eq_some_iff.mp hk).1]; exact hk
  have apart : ∀ (k : Nat) (q : Nat × va_E), ws[k]? = some q → q.1 < H.size ∧ ¬ va_A wc H.size q.1 := by
    intro k q hq
    have h1 := (hP k q (hl k q hq)).lt
    refine ⟨h1, ?_⟩
    rintro (⟨j, e, hj⟩ | hz)
    · have h2 : (ws ++ wc)[ws.length + j]? = some (q.1, e) := by rw [List.getElem?_append_right (by omega), Nat.add_sub_cancel_left]; exact hj
      have := hD.1 k (ws.length + j) q (q.1, e) (hl k q hq) h2 rfl
      have := (List.getElem?_eq_some_iff.mp hq).1
      omega
    · omega
  have hD0 : va_D A0 ws := ⟨fun i j p q hi hj e => hD.1 i j p q (hl i p hi) (hl j q hj) e, fun k q hk => hD.2 k q (hl k q hk)⟩
  refine ⟨va_P.app (fun k q hq => ?_) hP1, va_D.app hD0 (hD1.weaken (fun k q _ h => hF q.1 h)) (fun i j x y hx hy hxy => ?_)⟩
  · obtain ⟨g1, g2⟩ := apart k q hq
    exact (hP k q (hl k q hq)).kept (hk q.1 g1 g2)
  · exact (apart i x hx).2 (by rw [hxy]; exact hD1.2 j y hy)
section ZR4
variable {p : Program} {l : Launch} {e : Env} {R : Room} {s : State} {m : MethodId} {args : Array Value} {below : List Frame} {meth : Method} {c : Code} {H : Heap} {locs : List Loc} {cells slots : Nat} {Q : State → Prop} {cc : ByteArray} {pc nL : Nat} {ls : Array Slot} {rest : List Value} {own : String} {A : Nat → Prop} {H0 : Heap} {ws : va_W}
theorem znewq {E : zP} {k N index : Nat} {i : Int} {C : String} (S : CallFix p m c cc nL s args zw own) (hE : zE E s H) (hcl : Cond.classLink own index C ∈ zw) (hover : va_AO C s) (ht : (zty E.2.1)[k]? = some (E.2.1 k, .object C)) (hP : va_P E.1 zcl ws H) (hD : va_D A ws) (hS : va_S A H0 H locs) (hA : ∀ q, H0.size ≤ q → A q) (h0 : 0 ≤ i) (h1 : i < 2147483648) (hN : i.toNat = N) (hbytes : N * 4 ≤ 536870912) (hcells : cells + 1 ≤ R.cells) (hslots : slots + N ≤ R.slots) (hd : decode cc pc = .ok (.anewarray index, 3))
    (kk : ∀ (q : Nat) (H1 : Heap), va_P E.1 zcl (ws ++ [(q, .inl (E.2.1 k, N, .inr (.inr (.inr (.inr (fun _ => none))))))]) H1 → va_D A (ws ++ [(q, .inl (E.2.1 k, N, .inr (.inr (.inr (.inr (fun _ => none))))))]) → va_S A H0 H1 locs → W p l e R s m args below meth c H1 locs (cells + 1) (slots + N) Q (F0 m (pc + 3) ls (.ref q :: rest))) : W p l e R s m args below meth c H locs cells slots Q (F0 m pc ls (.int (iI i) :: rest)) := by
  refine va_newq S.1 S.2.1 S.2.2.2.1 (S.2.2.2.2 _ hcl) hover hE.1 hP hD hS hA ?_ (by rw [iI_clamp h0 h1]; exact hN) hbytes hcells hslots hd (fun q cA H1 hK1 hP1 hD1 hS1 => ?_)
  · rw [iI_0, iI_lt ⟨by omega, by omega⟩ r32_0]
    omega
  · have e : cA = E.2.1 k := by
      obtain ⟨_, _, _, _, _, f1⟩ := (hK1.2 7 _ rfl).2
      obtain ⟨_, _, _, _, _, f2⟩ := (hE.1.2 k _ ht).2
      exact Option.some.inj (f1.symm.trans f2)
    subst e
    exact kk q H1 hP1 hD1 hS1
-- an object of the world's into an array of its class
theorem zastq {E : zP} {x n v : Nat} {f : Nat → Option Nat} {i : Int} {vs : List Value} {r : vw_C} (hx : p.tables.exec = Jvm.exec) (hb : c.code = cc) (hE : zE E s H) (hP : va_P E.1 zcl ws H) (hD : va_D A ws) (hS : va_S A H0 H locs) (q0 t0 qk ci : Nat) (ha : ws[q0]? = some (x, .inl (E.2.1 t0, n, .inr (.inr (.inr (.inr f)))))) (ht : (zty E.2.1)[t0]? = some (E.2.1 t0, .object r.1)) (hv : ws[qk]? = some (v, .inr (ci, vs))) (hc : zcl[ci]? = some r) (h0 : 0 ≤ i) (h1 : i < (n : Int)) (hn : n < 2147483648) (hd : decode cc pc = .ok (.aastore, 1))
    (kk : ∀ (H1 : Heap) (locs1 : List Loc), va_P E.1 zcl (ws.set q0 (x, .inl (E.2.1 t0, n, .inr (.inr (.inr (.inr (va_up f i.toNat (some v)))))))) H1 → va_D A (ws.set q0 (x, .inl (E.2.1 t0, n, .inr (.inr (.inr (.inr (va_up f i.toNat (some v)))))))) → va_S A H0 H1 locs1 → W p l e R s m args below meth c H1 locs1 cells slots Q (F0 m (pc + 1) ls rest)) : W p l e R s m args below meth c H locs cells slots Q (F0 m pc ls (.ref v :: .int (iI i) :: .ref x :: rest)) :=
  va_astq hx hb hE.1 hP hD hS q0 t0 qk ci ha ht hv hc (iI_in h0 h1 hn) hd (by rw [iI_clamp h0 (by omega)]; exact kk)
theorem zastqN {E : zP} {x n : Nat} {f : Nat → Option Nat} {i : Int} {C : String} (hx : p.tables.exec = Jvm.exec) (hb : c.code = cc) (hE : zE E s H) (hP : va_P E.1 zcl ws H) (hD : va_D A ws) (hS : va_S A H0 H locs) (q0 t0 : Nat) (ha : ws[q0]? = some (x, .inl (E.2.1 t0, n, .inr (.inr (.inr (.inr f)))))) (ht : (zty E.2.1)[t0]? = some (E.2.1 t0, .object C)) (h0 : 0 ≤ i) (h1 : i < (n : Int)) (hn : n < 2147483648) (hd : decode cc pc = .ok (.aastore, 1))
    (kk : ∀ (H1 : Heap) (locs1 : List Loc), va_P E.1 zcl (ws.set q0 (x, .inl (E.2.1 t0, n, .inr (.inr (.inr (.inr (va_up f i.toNat none))))))) H1 → va_D A (ws.set q0 (x, .inl (E.2.1 t0, n, .inr (.inr (.inr (.inr (va_up f i.toNat none))))))) → va_S A H0 H1 locs1 → W p l e R s m args below meth c H1 locs1 cells slots Q (F0 m (pc + 1) ls rest)) : W p l e R s m args below meth c H locs cells slots Q (F0 m pc ls (.null :: .int (iI i) :: .ref x :: rest)) :=
  va_astqN hx hb hE.1 hP hD hS q0 t0 ha ht (iI_in h0 h1 hn) hd (by rw [iI_clamp h0 (by omega)]; exact kk)
end ZR4
