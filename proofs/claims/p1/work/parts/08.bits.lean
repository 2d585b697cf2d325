/-! Bits of whole numbers; longs. -/
theorem nI_or (a b : Nat) : nI a ||| nI b = nI (a ||| b) := by
  apply Int32.toBitVec.inj
  simp [nI, BitVec.ofNat_or]
theorem nI_and (a b : Nat) : nI a &&& nI b = nI (a &&& b) := by
  apply Int32.toBitVec.inj
  simp [nI, BitVec.ofNat_and]
theorem nI_xor (a b : Nat) : nI a ^^^ nI b = nI (a ^^^ b) := by
  apply Int32.toBitVec.inj
  simp [nI, BitVec.ofNat_xor]
theorem iI_orN (a b : Nat) : iI (a : Int) ||| iI (b : Int) = iI ((a ||| b : Nat) : Int) := by rw [← iI_nI, ← iI_nI, ← iI_nI, nI_or]
theorem iI_andN (a b : Nat) : iI (a : Int) &&& iI (b : Int) = iI ((a &&& b : Nat) : Int) := by rw [← iI_nI, ← iI_nI, ← iI_nI, nI_and]
theorem iI_xorN (a b : Nat) : iI (a : Int) ^^^ iI (b : Int) = iI ((a ^^^ b : Nat) : Int) := by rw [← iI_nI, ← iI_nI, ← iI_nI, nI_xor]
theorem iI_mask {a : Int} (k : Nat) (m M : Int) (h0 : 0 ≤ a) (hm : m = M - 1) (hM : M = 2 ^ k) : iI a &&& iI m = iI (a % M) := by
  obtain ⟨n, rfl⟩ := Int.eq_ofNat_of_zero_le h0
  have e : m = ((2 ^ k - 1 : Nat) : Int) := by
    rw [hm, hM, Int.ofNat_sub (Nat.one_le_two_pow)]
    simp
  rw [e, iI_andN, Nat.and_two_pow_sub_one_eq_mod, hM]
  simp
theorem iI_c0 {v : Int} (h0 : -1 ≤ v) (h1 : v < 256) : iI v &&& iI 192 = iI (v % 256 / 64 * 64) := by
  have key : ∀ n : Fin 257, iI ((n.val : Int) - 1) &&& iI 192 = iI (((n.val : Int) - 1) % 256 / 64 * 64) := by decide +kernel
  have := key ⟨(v + 1).toNat, by omega⟩
  rw [show (((v + 1).toNat : Nat) : Int) - 1 = v by omega] at this
  exact this
theorem iI_or6 {a b : Int} (h0 : 0 ≤ a) (h1 : 0 ≤ b) (h2 : b < 64) : iI (a * 64) ||| iI b = iI (a * 64 + b) := by
  obtain ⟨n, rfl⟩ := Int.eq_ofNat_of_zero_le h0
  obtain ⟨k, rfl⟩ := Int.eq_ofNat_of_zero_le h1
  have e := Nat.two_pow_add_eq_or_of_lt (i := 6) (b := k) (by omega) n
  rw [show ((n : Int) * 64) = ((2 ^ 6 * n : Nat) : Int) by push_cast; omega, iI_orN, ← e]
  congr 1
theorem iI_shl6 (a : Int) : iI a <<< (iI 6 &&& 31) = iI (a * 64) := by
  rw [show (iI 6 &&& 31) = (6 : Int32) by decide, show iI (a * 64) = iI a * iI 64 from (iI_mul a 64).symm]
  apply Int32.toBitVec.inj
  simp [Int32.toBitVec_shiftLeft, Int32.toBitVec_mul]
  rw [BitVec.shiftLeft_eq_mul_twoPow]
  congr 1
theorem iI_shrN {a : Int} (k : Nat) (b : Int) (h0 : 0 ≤ a) (h : a < 2147483648) (hs : ((iI b &&& 31).toBitVec.smod 32).toNat = k) : iI a >>> (iI b &&& 31) = iI (a / 2 ^ k) := by
  obtain ⟨n, rfl⟩ := Int.eq_ofNat_of_zero_le h0
  rw [← iI_nI, pk_shrN (by omega) _ k hs, iI_nI]
  congr 1
-- longs
def jL (z : Int) : Int64 := Int64.ofInt z
abbrev r64 (z : Int) : Prop := -9223372036854775808 ≤ z ∧ z < 9223372036854775808
theorem jL_toInt {z : Int} (h : r64 z) : (jL z).toInt = z := Int64.toInt_ofInt_of_le (by have := h.1; omega) (by have := h.2; omega)
theorem jL_add (a b : Int) : jL a + jL b = jL (a + b) := (Int64.ofInt_add a b).symm
theorem jL_mul (a b : Int) : jL a * jL b = jL (a * b) := (Int64.ofInt_mul a b).symm
theorem jL_i {z : Int} (h : r32 z) : (iI z).toInt64 = jL z := by
  apply Int64.toInt_inj.mp
  rw [Int32.toInt_toInt64, iI_toInt h, jL_toInt ⟨by omega, by omega⟩]
theorem jL_l (z : Int) : (jL z).toInt32 = iI z := Int64.toInt32_ofInt
theorem jL_eq {a b : Int} (ha : r64 a) (hb : r64 b) : jL a = jL b ↔ a = b := ⟨fun h => by have h2 := congrArg Int64.toInt h; rwa [jL_toInt ha, jL_toInt hb] at h2, fun h => h ▸ rfl⟩
theorem jL_lt {a b : Int} (ha : r64 a) (hb : r64 b) : jL a < jL b ↔ a < b := by rw [Int64.lt_iff_toInt_lt, jL_toInt ha, jL_toInt hb]
def zcmp (a b : Int) : Int := if b < a then 1 else if a = b then 0 else -1
theorem zcmp_r (a b : Int) : r32 (zcmp a b) := by unfold zcmp; split <;> (try split) <;> exact ⟨by decide, by decide⟩
theorem jL_cmp {a b : Int} (ha : r64 a) (hb : r64 b) : lg_cmp (jL a) (jL b) = iI (zcmp a b) := by
  unfold lg_cmp zcmp
  simp only [GT.gt, jL_lt hb ha, jL_eq ha hb]
  split
  · rfl
  · split <;> rfl
section ZJ
variable {p : Program} {l : Launch} {e : Env} {R : Room} {s : State} {m : MethodId} {args : Array Value} {below : List Frame} {meth : Method} {c : Code} {H : Heap} {locs : List Loc} {cells slots : Nat} {Q : State → Prop} {cc : ByteArray} {pc nL : Nat} {ls : Array Slot} {rest : List Value} {own : String}
theorem zl_if_eq (hx : p.tables.exec = Jvm.exec) (hb : c.code = cc) {a b : Int} {off : Int} {tgt : Nat} (hd0 : decode cc pc = .ok (.lcmp, 1)) (hd : decode cc (pc + 1) = .ok (.ifCond .eq off, 3)) (ht : ((pc + 1 : Nat) : Int) + off = (tgt : Int)) (ra : r64 a) (rb : r64 b) (kt : a = b → W p l e R s m args below meth c H locs cells slots Q (F0 m tgt ls rest)) (kf : a ≠ b → W p l e R s m args below meth c H locs cells slots Q (F0 m (pc + 4) ls rest)) : W p l e R s m args below meth c H locs cells slots Q (F0 m pc ls (.long (jL b) :: .long (jL a) :: rest)) := by
  refine W.lcmp hx hb hd0 ?_
  rw [jL_cmp ra rb]
  exact zi_if_eq hx hb hd ht (zcmp_r a b) (fun h => kt (by unfold zcmp at h; split at h <;> (try split at h) <;> omega)) (fun h => kf (by unfold zcmp at h; split at h <;> (try split at h) <;> omega))
theorem zl_if_ne (hx : p.tables.exec = Jvm.exec) (hb : c.code = cc) {a b : Int} {off : Int} {tgt : Nat} (hd0 : decode cc pc = .ok (.lcmp, 1)) (hd : decode cc (pc + 1) = .ok (.ifCond .ne off, 3)) (ht : ((pc + 1 : Nat) : Int) + off = (tgt : Int)) (ra : r64 a) (rb : r64 b) (kt : a ≠ b → W p l e R s m args below meth c H locs cells slots Q (F0 m tgt ls rest)) (kf : a = b → W p l e R s m args below meth c H locs cells slots Q (F0 m (pc + 4) ls rest)) : W p l e R s m args below meth c H locs cells slots Q (F0 m pc ls (.long (jL b) :: .long (jL a) :: rest)) := by
  refine W.lcmp hx hb hd0 ?_
  rw [jL_cmp ra rb]
  exact zi_if_ne hx hb hd ht (zcmp_r a b) (fun h => kt (by unfold zcmp at h; split at h <;> (try split at h) <;> omega)) (fun h => kf (by unfold zcmp at h; split at h <;> (try split at h) <;> omega))
theorem zl_if_lt (hx : p.tables.exec = Jvm.exec) (hb : c.code = cc) {a b : Int} {off : Int} {tgt : Nat} (hd0 : decode cc pc = .ok (.lcmp, 1)) (hd : decode cc (pc + 1) = .ok (.ifCond .lt off, 3)) (ht : ((pc + 1 : Nat) : Int) + off = (tgt : Int)) (ra : r64 a) (rb : r64 b) (kt : a < b → W p l e R s m args below meth c H locs cells slots Q (F0 m tgt ls rest)) (kf : b ≤ a → W p l e R s m args below meth c H locs cells slots Q (F0 m (pc + 4) ls rest)) : W p l e R s m args below meth c H locs cells slots Q (F0 m pc ls (.long (jL b) :: .long (jL a) :: rest)) := by
  refine W.lcmp hx hb hd0 ?_
  rw [jL_cmp ra rb]
  exact zi_if_lt hx hb hd ht (zcmp_r a b) (fun h => kt (by unfold zcmp at h; split at h <;> (try split at h) <;> omega)) (fun h => kf (by unfold zcmp at h; split at h <;> (try split at h) <;> omega))
theorem zl_if_ge (hx : p.tables.exec = Jvm.exec) (hb : c.code = cc) {a b : Int} {off : Int} {tgt : Nat} (hd0 : decode cc pc = .ok (.lcmp, 1)) (hd : decode cc (pc + 1) = .ok (.ifCond .ge off, 3)) (ht : ((pc + 1 : Nat) : Int) + off = (tgt : Int)) (ra : r64 a) (rb : r64 b) (kt : b ≤ a → W p l e R s m args below meth c H locs cells slots Q (F0 m tgt ls rest)) (kf : a < b → W p l e R s m args below meth c H locs cells slots Q (F0 m (pc + 4) ls rest)) : W p l e R s m args below meth c H locs cells slots Q (F0 m pc ls (.long (jL b) :: .long (jL a) :: rest)) := by
  refine W.lcmp hx hb hd0 ?_
  rw [jL_cmp ra rb]
  exact zi_if_ge hx hb hd ht (zcmp_r a b) (fun h => kt (by unfold zcmp at h; split at h <;> (try split at h) <;> omega)) (fun h => kf (by unfold zcmp at h; split at h <;> (try split at h) <;> omega))
theorem zl_if_gt (hx : p.tables.exec = Jvm.exec) (hb : c.code = cc) {a b : Int} {off : Int} {tgt : Nat} (hd0 : decode cc pc = .ok (.lcmp, 1)) (hd : decode cc (pc + 1) = .ok (.ifCond .gt off, 3)) (ht : ((pc + 1 : Nat) : Int) + off = (tgt : Int)) (ra : r64 a) (rb : r64 b) (kt : b < a → W p l e R s m args below meth c H locs cells slots Q (F0 m tgt ls rest)) (kf : a ≤ b → W p l e R s m args below meth c H locs cells slots Q (F0 m (pc + 4) ls rest)) : W p l e R s m args below meth c H locs cells slots Q (F0 m pc ls (.long (jL b) :: .long (jL a) :: rest)) := by
  refine W.lcmp hx hb hd0 ?_
  rw [jL_cmp ra rb]
  exact zi_if_gt hx hb hd ht (zcmp_r a b) (fun h => kt (by unfold zcmp at h; split at h <;> (try split at h) <;> omega)) (fun h => kf (by unfold zcmp at h; split at h <;> (try split at h) <;> omega))
theorem zl_if_le (hx : p.tables.exec = Jvm.exec) (hb : c.code = cc) {a b : Int} {off : Int} {tgt : Nat} (hd0 : decode cc pc = .ok (.lcmp, 1)) (hd : decode cc (pc + 1) = .ok (.ifCond .le off, 3)) (ht : ((pc + 1 : Nat) : Int) + off = (tgt : Int)) (ra : r64 a) (rb : r64 b) (kt : a ≤ b → W p l e R s m args below meth c H locs cells slots Q (F0 m tgt ls rest)) (kf : b < a → W p l e R s m args below meth c H locs cells slots Q (F0 m (pc + 4) ls rest)) : W p l e R s m args below meth c H locs cells slots Q (F0 m pc ls (.long (jL b) :: .long (jL a) :: rest)) := by
  refine W.lcmp hx hb hd0 ?_
  rw [jL_cmp ra rb]
  exact zi_if_le hx hb hd ht (zcmp_r a b) (fun h => kt (by unfold zcmp at h; split at h <;> (try split at h) <;> omega)) (fun h => kf (by unfold zcmp at h; split at h <;> (try split at h) <;> omega))
theorem zl_i2l (hx : p.tables.exec = Jvm.exec) (hb : c.code = cc) {a : Int} (hd : decode cc pc = .ok (.i2l, 1)) (ra : r32 a) (k : W p l e R s m args below meth c H locs cells slots Q (F0 m (pc + 1) ls (.long (jL a) :: rest))) : W p l e R s m args below meth c H locs cells slots Q (F0 m pc ls (.int (iI a) :: rest)) := lv_i2l hx hb hd (jL_i ra) k
theorem zl_l2i (hx : p.tables.exec = Jvm.exec) (hb : c.code = cc) {a : Int} (hd : decode cc pc = .ok (.l2i, 1)) (k : W p l e R s m args below meth c H locs cells slots Q (F0 m (pc + 1) ls (.int (iI a) :: rest))) : W p l e R s m args below meth c H locs cells slots Q (F0 m pc ls (.long (jL a) :: rest)) := lv_l2i hx hb hd (jL_l a) k
theorem zl_ladd (hx : p.tables.exec = Jvm.exec) (hb : c.code = cc) {a b : Int} (hd : decode cc pc = .ok (.ladd, 1)) (k : W p l e R s m args below meth c H locs cells slots Q (F0 m (pc + 1) ls (.long (jL (a + b)) :: rest))) : W p l e R s m args below meth c H locs cells slots Q (F0 m pc ls (.long (jL b) :: .long (jL a) :: rest)) := lv_ladd hx hb hd (by rw [jL_add]; exact k)
theorem zl_lmul (hx : p.tables.exec = Jvm.exec) (hb : c.code = cc) {a b : Int} (hd : decode cc pc = .ok (.lmul, 1)) (k : W p l e R s m args below meth c H locs cells slots Q (F0 m (pc + 1) ls (.long (jL (a * b)) :: rest))) : W p l e R s m args below meth c H locs cells slots Q (F0 m pc ls (.long (jL b) :: .long (jL a) :: rest)) := lv_lmul hx hb hd (by rw [jL_mul]; exact k)
theorem zl_lconst (hx : p.tables.exec = Jvm.exec) (hb : c.code = cc) {k : Fin 2} {a : Int} (hd : decode cc pc = .ok (.lconst k, 1)) (hv : Int64.ofNat k.val = jL a) (kk : W p l e R s m args below meth c H locs cells slots Q (F0 m (pc + 1) ls (.long (jL a) :: rest))) : W p l e R s m args below meth c H locs cells slots Q (F0 m pc ls rest) := lv_lconst hx hb hd hv kk
theorem zl_ldc2 {index : Nat} {v : Int64} {n : Int} (S : CallFix p m c cc nL s args zw own) (hk : Cond.constantLong own index v ∈ zw) (hv : v = jL n) (hd : decode cc pc = .ok (.ldc2_w index, 3)) (kk : W p l e R s m args below meth c H locs cells slots Q (F0 m (pc + 3) ls (.long (jL n) :: rest))) : W p l e R s m args below meth c H locs cells slots Q (F0 m pc ls rest) := by
  subst hv
  exact lv_ldc2 S.1 S.2.1 S.2.2.2.1 (S.2.2.2.2 _ hk) hd kk
end ZJ
