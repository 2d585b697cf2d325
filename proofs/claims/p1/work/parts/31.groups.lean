set_option maxRecDepth 100000 in
set_option maxHeartbeats 4000000 in
theorem c_Groups_has (l : Launch) (E : zP) (Z : Nat → Prop) (utf : Bool) (h : Nat) (G : sp_Src) (k : Int) (hk : r32 k) : Met l y_Groups_has (.code y_Groups_has b_Groups_has 2 ( some FieldType.boolean ) :: zw) { frames := 0, cells := 0, slots := 0, locals := 0 } (zPc E [.ref h, .int (iI k)] (zgrp E Z utf h G)) (zR (some (.int (iI (bN (decide (0 ≤ k ∧ k ≤ ((G.1 : Nat) : Int)))))))) 0 0 (fun _ => False) := by
  refine zMet (by decide) (Nat.le_of_ble_eq_true rfl) ?_
  intro p e s m below meth c ls S hr hlk hnm hE ⟨ta, sa, al, mka, ng, ra, nx, Nc, z1, z2, z3, hO, hQ, hA, hR, hM, hMo, hL, hnl, hN, hmem, h99⟩ hl
  have hx := S.1
  have hb := S.2.1
  have hl : lv_has ls 2 [(0, .ref h), (1, .int (iI k))] := hl
  refine lv_iload_n hx hb d_Groups_has_0 rfl (lv_at hl 1 rfl) ?_
  refine zi_if_lt hx hb d_Groups_has_1 rfl (by omega) (fun h1 => ?_) (fun h1 => ?_)
  · refine zi_iconst hx hb d_Groups_has_16 ?_
    exact zretZ (b := false) S hr hlk d_Groups_has_17 (by first | exact (decide_eq_true (by omega)).symm | exact (decide_eq_false (by omega)).symm)
  · refine lv_iload_n hx hb d_Groups_has_4 rfl (lv_at hl 1 rfl) ?_
    refine lv_aload_n hx hb d_Groups_has_5 rfl (lv_at hl 0 rfl) ?_
    refine zgf S hE (ci := 5) rfl i_Groups hO 4 (by decide) zw_106 rfl d_Groups_has_6 ?_
    refine zi_icmp_gt hx hb d_Groups_has_9 rfl (by omega) (by omega) (fun h9 => ?_) (fun h9 => ?_)
    · refine zi_iconst hx hb d_Groups_has_16 ?_
      exact zretZ (b := false) S hr hlk d_Groups_has_17 (by first | exact (decide_eq_true (by omega)).symm | exact (decide_eq_false (by omega)).symm)
    · refine zi_iconst hx hb d_Groups_has_12 ?_
      refine lv_goto hx hb d_Groups_has_13 rfl ?_
      exact zretZ (b := true) S hr hlk d_Groups_has_17 (by first | exact (decide_eq_true (by omega)).symm | exact (decide_eq_false (by omega)).symm)

set_option maxRecDepth 100000 in
set_option maxHeartbeats 4000000 in
theorem c_Groups_numbered (l : Launch) (E : zP) (Z : Nat → Prop) (utf : Bool) (h : Nat) (G : sp_Src) (v0 : Nat) (hv : v0 < 2147483648) : Met l y_Groups_numbered (.code y_Groups_numbered b_Groups_numbered 2 ( some FieldType.int ) :: zw) { frames := 1, cells := 0, slots := 0, locals := 21 } (zPc E [.ref h, .int (iI ((v0 : Nat) : Int))] (zgrp E Z utf h G)) (zR (some (.int (iI (sp_gI (sp_numb G v0)))))) 0 0 (fun _ => False) := by
  refine zMet (by decide) (Nat.le_of_ble_eq_true rfl) ?_
  intro p e s m below meth c ls S hr hlk hnm hE hG hl
  have hx := S.1
  have hb := S.2.1
  have hl : lv_has ls 2 [(0, .ref h), (1, .int (iI ((v0 : Nat) : Int)))] := hl
  have hG2 := hG
  obtain ⟨ta, sa, al, mka, ng, ra, nx, Nc, z1, z2, z3, hO, hQ, hA, hR, hM, hMo, hL, hnl, hN, hmem, h99⟩ := hG2
  refine lv_aload_n hx hb d_Groups_numbered_0 rfl (lv_at hl 0 rfl) ?_
  refine lv_iload_n hx hb d_Groups_numbered_1 rfl (lv_at hl 1 rfl) ?_
  refine zcR (va_runV (As := [.int (iI ((v0 : Nat) : Int))]) (rest := []) S (c_Groups_has l E Z utf h G ((v0 : Nat) : Int) (by omega)) ⟨zcwB (n := 1) S zw_424 zw_3 zw_732 (by decide +kernel) rfl rfl ⟨Nat.le_of_ble_eq_true rfl, Nat.le_of_ble_eq_true rfl⟩, S.2.2.2.2 _ zw_422, S.2.2.2.2 _ zw_423⟩ (zPreV hE hO rfl hG) rfl rfl hl.1 rfl (lv_room (Nat.le_of_ble_eq_true rfl)) d_Groups_numbered_2 ⟨Nat.zero_le _, Nat.zero_le _⟩) ?_
  refine zb_ifne hx hb d_Groups_numbered_5 rfl (fun h5 => ?_) (fun h5 => ?_)
  · have h5b := of_decide_eq_true h5
    refine lv_aload_n hx hb d_Groups_numbered_11 rfl (lv_at hl 0 rfl) ?_
    refine zgf S hE (ci := 5) rfl i_Groups hO 1 (by decide) zw_103 rfl d_Groups_numbered_12 ?_
    refine lv_iload_n hx hb d_Groups_numbered_15 rfl (lv_at hl 1 rfl) ?_
    refine zzald hx hb hE hA (by omega) (by omega) (by omega) d_Groups_numbered_16 ?_
    rw [Int.toNat_natCast]
    refine zb_ifeq hx hb d_Groups_numbered_17 rfl (fun h17 => ?_) (fun h17 => ?_)
    · refine zi_iconst hx hb d_Groups_numbered_24 ?_
      exact zretI S hr hlk d_Groups_numbered_25 (congrArg iI (by have h5b := of_decide_eq_true h5; rw [show sp_numb G v0 = some none by unfold sp_numb; rw [if_neg (by omega), if_neg (by rw [h17]; decide)]]; rfl))
    · refine lv_iload_n hx hb d_Groups_numbered_20 rfl (lv_at hl 1 rfl) ?_
      refine lv_goto hx hb d_Groups_numbered_21 rfl ?_
      exact zretI S hr hlk d_Groups_numbered_25 (congrArg iI (by have h5b := of_decide_eq_true h5; rw [show sp_numb G v0 = some (some v0) by unfold sp_numb; rw [if_neg (by omega), if_pos h17]]; rfl))
  · refine zi_bipush hx hb d_Groups_numbered_8 (by decide) ?_
    exact zretI S hr hlk d_Groups_numbered_10 (congrArg iI (by rw [show sp_numb G v0 = none from if_pos (by have := of_decide_eq_false h5; omega)]; rfl))

def zRx (post : Nat → Heap → Prop) : Array Value → State → Outcome → State → Prop := fun _ st oc t => ∃ a, oc = .returned (some (.ref a)) ∧ post a st.heap ∧ t.heap = st.heap
section ZRX
variable {p : Program} {l : Launch} {e : Env} {R : Room} {s : State} {m : MethodId} {args : Array Value} {below : List Frame} {meth : Method} {c : Code} {H : Heap} {locs : List Loc} {cells slots : Nat} {Q : State → Prop} {cc : ByteArray} {pc nL : Nat} {ls : Array Slot} {rest st0 : List Value} {a : Array Value} {own : String} {Ts : List Cond}
theorem zcRx {post : Nat → Heap → Prop} (hr : va_Run p l e R s m args below meth c H locs cells slots 0 0 (F0 m pc ls st0) rest (zRx post a) (fun _ => False)) (kk : ∀ x, post x H → W p l e R s m args below meth c H locs cells slots Q (F0 m (pc + 3) ls (.ref x :: rest))) : W p l e R s m args below meth c H locs cells slots Q (F0 m pc ls st0) := by
  intro T hT X
  obtain ⟨v', st₀, t, T', L, h0, X', hL, e1, e2, ⟨x, hv, hp, hh⟩, st⟩ := hr T hT X
  cases hv
  have hLn : L = [] := List.eq_nil_iff_forall_not_mem.mpr (fun q hq => hL q hq)
  subst hLn
  rw [List.append_nil] at X'
  obtain ⟨t2, a1, b1⟩ := kk x (by rw [← h0]; exact hp) T' (by rw [e1, hh, h0]) X'
  exact ⟨t2, st t2 a1, b1⟩
theorem zretX {x : Nat} {rt : FieldType} {post : Nat → Heap → Prop} {free : Addr → Prop} (S : CallFix p m c cc nL s args Ts own) (hr : meth.sig.returnType = some rt) (hrt : (∃ n, rt = .object n) ∨ ∃ t, rt = .array t) (hlk : meth.locks = false) (hd : decode cc pc = .ok (.areturn, 1)) (hp : post x s.heap) : W p l e R s m args below meth c s.heap [] cells slots (MQ below (zRx post) args s cells slots free) (F0 m pc ls [.ref x]) :=
  W.aret S.1 S.2.1 hr hrt (Or.inr ⟨_, rfl⟩) (fun t ht _ => ⟨_, rfl, hp, ht⟩) (fun _ h => nomatch h) hd (hlocks := hlk)
end ZRX

set_option maxRecDepth 100000 in
set_option maxHeartbeats 4000000 in
theorem c_Groups_markText (l : Launch) (E : zP) (Z : Nat → Prop) (utf : Bool) (h : Nat) (G : sp_Src) : Met l y_Groups_markText (.code y_Groups_markText b_Groups_markText 1 ( some ( FieldType.object "ReplacementWriter$Row" ) ) :: zw) { frames := 0, cells := 0, slots := 0, locals := 0 } (zPc E [.ref h] (zgrp E Z utf h G)) (zRx (fun x H => zrowZ E Z x (sp_encs utf G.2.2.2) H)) 0 0 (fun _ => False) := by
  refine zMet (by decide) (Nat.le_of_ble_eq_true rfl) ?_
  intro p e s m below meth c ls S hr hlk hnm hE ⟨ta, sa, al, mka, ng, ra, nx, Nc, z1, z2, z3, hO, hQ, hA, hR, hM, hMo, hL, hnl, hN, hmem, h99⟩ hl
  have hx := S.1
  have hb := S.2.1
  have hl : lv_has ls 1 [(0, .ref h)] := hl
  refine lv_aload_n hx hb d_Groups_markText_0 rfl (lv_at hl 0 rfl) ?_
  refine zgf S hE (ci := 5) rfl i_Groups hO 3 (by decide) zw_105 rfl d_Groups_markText_1 ?_
  exact zretX S hr (Or.inl ⟨_, rfl⟩) hlk d_Groups_markText_4 (hM)

set_option maxRecDepth 100000 in
set_option maxHeartbeats 4000000 in
theorem c_Groups_textOf (l : Launch) (E : zP) (Z : Nat → Prop) (utf : Bool) (h : Nat) (G : sp_Src) (v0 : Nat) (cs : List Nat) (hv : v0 < 100) (hc : G.2.1 v0 = some cs) : Met l y_Groups_textOf (.code y_Groups_textOf b_Groups_textOf 2 ( some ( FieldType.object "ReplacementWriter$Row" ) ) :: zw) { frames := 0, cells := 0, slots := 0, locals := 0 } (zPc E [.ref h, .int (iI ((v0 : Nat) : Int))] (zgrp E Z utf h G)) (zRx (fun x H => zrowZ E Z x (sp_encs utf cs) H)) 0 0 (fun _ => False) := by
  refine zMet (by decide) (Nat.le_of_ble_eq_true rfl) ?_
  intro p e s m below meth c ls S hr hlk hnm hE ⟨ta, sa, al, mka, ng, ra, nx, Nc, z1, z2, z3, hO, hQ, hA, hR, hM, hMo, hL, hnl, hN, hmem, h99⟩ hl
  have hx := S.1
  have hb := S.2.1
  have hl : lv_has ls 2 [(0, .ref h), (1, .int (iI ((v0 : Nat) : Int)))] := hl
  refine lv_aload_n hx hb d_Groups_textOf_0 rfl (lv_at hl 0 rfl) ?_
  refine zgf S hE (ci := 5) rfl i_Groups hO 0 (by decide) zw_102 rfl d_Groups_textOf_1 ?_
  refine lv_iload_n hx hb d_Groups_textOf_4 rfl (lv_at hl 1 rfl) ?_
  refine zaald (y := ra v0) hx hb hE 4 rfl hQ (by omega) (by omega) (by omega) (by rw [Int.toNat_natCast]) d_Groups_textOf_5 ?_
  exact zretX S hr (Or.inl ⟨_, rfl⟩) hlk d_Groups_textOf_6 ((hR v0 hv cs hc).1)

set_option maxRecDepth 100000 in
set_option maxHeartbeats 4000000 in
theorem c_Groups_named (l : Launch) (E : zP) (Z : Nat → Prop) (utf : Bool) (h : Nat) (G : sp_Src) (r0 k0 k1 : Nat) (b : List Nat) (h01 : k0 ≤ k1) (h1b : k1 ≤ b.length) : Met l y_Groups_named (.code y_Groups_named b_Groups_named 7 ( some FieldType.int ) :: zw) { frames := 3, cells := 0, slots := 0, locals := 64 } (zPc E [.ref h, .ref r0, .int (iI ((k0 : Nat) : Int)), .int (iI ((k1 : Nat) : Int))] (fun H => zgrp E Z utf h G H ∧ zrow E r0 b H)) (zR (some (.int (iI (sp_gI (sp_named G ((b.drop k0).take (k1 - k0)))))))) 0 0 (fun _ => False) := by
  refine zMet (by decide) (Nat.le_of_ble_eq_true rfl) ?_
  intro p e s m below meth c ls S hr hlk hnm hE ⟨⟨ta, sa, al, mka, ng, ra, nx, Nc, z1, z2, z3, hO, hQ, hA, hR, hM, hMo, hL, hnl, hN, hmem, h99⟩, hrow⟩ hl
  have hx := S.1
  have hb := S.2.1
  have hl : lv_has ls 7 [(0, .ref h), (1, .ref r0), (2, .int (iI ((k0 : Nat) : Int))), (3, .int (iI ((k1 : Nat) : Int)))] := hl
  have hnb := hL
  obtain ⟨lea, lcap, lmd, lf, lz1, lz2, lO, lQ, ll1, ll2, lf1⟩ := hnb
  refine zi_bipush hx hb d_Groups_named_0 (by decide) ?_
  refine lv_istore (lv' := [(4, .int (iI (-2))), (0, .ref h), (1, .ref r0), (2, .int (iI ((k0 : Nat) : Int))), (3, .int (iI ((k1 : Nat) : Int)))]) hx hb d_Groups_named_2 hl (by decide) rfl (fun ls hl => ?_)
  refine zi_iconst hx hb d_Groups_named_4 ?_
  refine lv_istore (lv' := [(5, .int (iI 0)), (4, .int (iI (-2))), (0, .ref h), (1, .ref r0), (2, .int (iI ((k0 : Nat) : Int))), (3, .int (iI ((k1 : Nat) : Int)))]) hx hb d_Groups_named_5 hl (by decide) rfl (fun ls hl => ?_)
  have key : ∃ (k : Nat) (r : Option (Option Nat)), (k ≤ Nc.length ∧ r = (Nc.take k).foldl (sp_best G.2.1 ((b.drop k0).take (k1 - k0))) none ∧ (∀ x, r = some (some x) → x ≤ 99)) ∧ lv_has ls 7 [(5, .int (iI ((k : Nat) : Int))), (4, .int (iI (sp_gI r))), (0, .ref h), (1, .ref r0), (2, .int (iI ((k0 : Nat) : Int))), (3, .int (iI ((k1 : Nat) : Int)))] := ⟨0, none, ⟨by omega, rfl, fun x h => by cases h⟩, hl⟩
  clear hl
  obtain ⟨k, r, hinv, hl⟩ := key
  obtain ⟨n, hn⟩ : ∃ n : Nat, Nc.length - k < n := ⟨_, Nat.lt_succ_self _⟩
  induction n generalizing k r ls with
  | zero => exact absurd hn (Nat.not_lt_zero _)
  | succ n ih =>
    obtain ⟨h1, h2, h3⟩ := hinv
    refine lv_iload hx hb d_Groups_named_7 (lv_at hl 0 rfl) ?_
    refine lv_aload_n hx hb d_Groups_named_9 rfl (lv_at hl 2 rfl) ?_
    refine zgf S hE (ci := 5) rfl i_Groups hO 2 (by decide) zw_104 rfl d_Groups_named_10 ?_
    refine zcR (va_runV (As := []) (rest := [.int (iI ((k : Nat) : Int))]) S (c_ArrayList_size l E Z al nx) ⟨zcwB (n := 0) S zw_534 zw_6 zw_531 (by decide +kernel) rfl rfl ⟨Nat.le_of_ble_eq_true rfl, Nat.le_of_ble_eq_true rfl⟩, S.2.2.2.2 _ zw_532, S.2.2.2.2 _ zw_533⟩ (zPreV hE lO rfl hL) rfl rfl hl.1 rfl (lv_room (Nat.le_of_ble_eq_true rfl)) d_Groups_named_13 ⟨Nat.zero_le _, Nat.zero_le _⟩) ?_
    rw [hnl]
    refine zi_icmp_ge hx hb d_Groups_named_16 rfl (by omega) (by omega) (fun h16 => ?_) (fun h16 => ?_)
    · refine lv_iload hx hb d_Groups_named_104 (lv_at hl 1 rfl) ?_
      exact zretI S hr hlk d_Groups_named_106 (congrArg iI (by rw [h2, show Nc.take k = Nc from List.take_of_length_le (by omega)]; unfold sp_named; rw [sp_best_set hmem]))
    · refine lv_aload_n hx hb d_Groups_named_19 rfl (lv_at hl 2 rfl) ?_
      refine zgf S hE (ci := 5) rfl i_Groups hO 2 (by decide) zw_104 rfl d_Groups_named_20 ?_
      refine lv_iload hx hb d_Groups_named_23 (lv_at hl 0 rfl) ?_
      have hkN : k < Nc.length := by omega
      refine zcR (va_runV (As := [.int (iI ((k : Nat) : Int))]) (rest := []) S (c_ArrayList_get l E Z al k nx (by omega)) ⟨zcwB (n := 1) S zw_538 zw_6 zw_535 (by decide +kernel) rfl rfl ⟨Nat.le_of_ble_eq_true rfl, Nat.le_of_ble_eq_true rfl⟩, S.2.2.2.2 _ zw_536, S.2.2.2.2 _ zw_537⟩ (zPreV hE lO rfl hL) rfl rfl hl.1 rfl (lv_room (Nat.le_of_ble_eq_true rfl)) d_Groups_named_25 ⟨Nat.zero_le _, Nat.zero_le _⟩) ?_
      have hNk := hN k hkN
      obtain ⟨wq, wf, wz1, wz2, wO, wA, wf1, w128, w32, w99⟩ := hNk
      have hNk := hN k hkN
      refine zcast S hE (ci := 4) rfl wO zw_549 d_Groups_named_28 ?_
      refine lv_astore (lv' := [(6, .ref (nx.getD k 0)), (5, .int (iI ((k : Nat) : Int))), (4, .int (iI (sp_gI r))), (0, .ref h), (1, .ref r0), (2, .int (iI ((k0 : Nat) : Int))), (3, .int (iI ((k1 : Nat) : Int)))]) hx hb d_Groups_named_31 hl (by decide) rfl (fun ls hl => ?_)
      refine lv_aload hx hb d_Groups_named_33 (lv_at hl 0 rfl) ?_
      refine lv_aload_n hx hb d_Groups_named_35 rfl (lv_at hl 4 rfl) ?_
      refine lv_iload_n hx hb d_Groups_named_36 rfl (lv_at hl 5 rfl) ?_
      refine lv_iload_n hx hb d_Groups_named_37 rfl (lv_at hl 6 rfl) ?_
      refine zcR (va_runV (As := [.ref r0, .int (iI ((k0 : Nat) : Int)), .int (iI ((k1 : Nat) : Int))]) (rest := []) S (c_Name_stands l E Z (nx.getD k 0) r0 k0 k1 (Nc.getD k ([], 0)).2 (Nc.getD k ([], 0)).1 b h01 h1b) ⟨zcwB (n := 3) S zw_553 zw_30 zw_550 (by decide +kernel) rfl rfl ⟨Nat.le_of_ble_eq_true rfl, Nat.le_of_ble_eq_true rfl⟩, S.2.2.2.2 _ zw_551, S.2.2.2.2 _ zw_552⟩ (zPreV hE wO rfl ⟨hNk, hrow⟩) rfl rfl hl.1 rfl (lv_room (Nat.le_of_ble_eq_true rfl)) d_Groups_named_38 ⟨Nat.zero_le _, Nat.zero_le _⟩) ?_
      rw [sp_same_eq h01 h1b]
      refine zb_ifne hx hb d_Groups_named_41 rfl (fun h41 => ?_) (fun h41 => ?_)
      · refine lv_aload_n hx hb d_Groups_named_47 rfl (lv_at hl 3 rfl) ?_
        refine zgf S hE (ci := 5) rfl i_Groups hO 1 (by decide) zw_103 rfl d_Groups_named_48 ?_
        refine lv_aload hx hb d_Groups_named_51 (lv_at hl 0 rfl) ?_
        refine zgfN S hE (ci := 4) rfl i_Name wO 1 (by decide) hE.2.2.1.1 rfl d_Groups_named_53 ?_
        refine zzald hx hb hE hA (by omega) (by omega) (by omega) d_Groups_named_56 ?_
        rw [Int.toNat_natCast]
        refine zb_ifeq hx hb d_Groups_named_57 rfl (fun h57 => ?_) (fun h57 => ?_)
        · have h41b := of_decide_eq_true h41
          have h57b : ¬ (G.2.1 (Nc.getD k ([], 0)).2).isSome = true := by rw [h57]; decide
          rcases r with _ | r
          · have hl : lv_has ls 7 [(6, .ref (nx.getD k 0)), (5, .int (iI ((k : Nat) : Int))), (4, .int (iI (-2))), (0, .ref h), (1, .ref r0), (2, .int (iI ((k0 : Nat) : Int))), (3, .int (iI ((k1 : Nat) : Int)))] := hl
            refine lv_iload hx hb d_Groups_named_88 (lv_at hl 2 rfl) ?_
            refine zi_bipush hx hb d_Groups_named_90 (by decide) ?_
            refine zi_icmp_ne hx hb d_Groups_named_92 rfl (by omega) (by omega) (fun h => absurd h (by omega)) (fun h92 => ?_)
            refine zi_iconst hx hb d_Groups_named_95 ?_
            refine W.eq (g2 := F0 m 96 ls [.int (iI (sp_gI (some none)))]) rfl ?_
            refine lv_istore (lv' := [(4, .int (iI (sp_gI (some none)))), (6, .ref (nx.getD k 0)), (5, .int (iI ((k : Nat) : Int))), (0, .ref h), (1, .ref r0), (2, .int (iI ((k0 : Nat) : Int))), (3, .int (iI ((k1 : Nat) : Int)))]) hx hb d_Groups_named_96 hl (by decide) rfl (fun ls hl => ?_)
            refine lv_iinc (k := 2) (v := iI ((k + 1 : Nat) : Int)) (lv' := [(5, .int (iI ((k + 1 : Nat) : Int))), (4, .int (iI (sp_gI (some none)))), (6, .ref (nx.getD k 0)), (0, .ref h), (1, .ref r0), (2, .int (iI ((k0 : Nat) : Int))), (3, .int (iI ((k1 : Nat) : Int)))]) hx hb d_Groups_named_98 hl rfl (by rw [show Int32.ofInt 1 = iI 1 from rfl, iI_add]; congr 1) (by decide) rfl (fun ls hl => ?_)
            refine lv_goto hx hb d_Groups_named_101 rfl ?_
            exact ih ls (k + 1) (some none) (⟨by omega, by rw [sp_fold_take _ ([], 0) _ _ (by omega), ← h2]; unfold sp_best; rw [if_pos h41b, if_neg h57b], fun x h => by cases h⟩) (lv_sub hl [0, 1, 3, 4, 5, 6] rfl) (by omega)
          · have hgi : -1 ≤ sp_gI (some r) ∧ sp_gI (some r) ≤ 99 := by rcases r with _ | g0; exact ⟨by decide, by decide⟩; have := h3 g0 rfl; show -1 ≤ ((g0 : Nat) : Int) ∧ ((g0 : Nat) : Int) ≤ 99; omega
            refine lv_iload hx hb d_Groups_named_88 (lv_at hl 2 rfl) ?_
            refine zi_bipush hx hb d_Groups_named_90 (by decide) ?_
            refine zi_icmp_ne hx hb d_Groups_named_92 rfl (by omega) (by omega) (fun _ => ?_) (fun h => absurd h (by omega))
            refine lv_iinc (k := 1) (v := iI ((k + 1 : Nat) : Int)) (lv' := [(5, .int (iI ((k + 1 : Nat) : Int))), (6, .ref (nx.getD k 0)), (4, .int (iI (sp_gI (some r)))), (0, .ref h), (1, .ref r0), (2, .int (iI ((k0 : Nat) : Int))), (3, .int (iI ((k1 : Nat) : Int)))]) hx hb d_Groups_named_98 hl rfl (by rw [show Int32.ofInt 1 = iI 1 from rfl, iI_add]; congr 1) (by decide) rfl (fun ls hl => ?_)
            refine lv_goto hx hb d_Groups_named_101 rfl ?_
            exact ih ls (k + 1) (some r) (⟨by omega, by rw [sp_fold_take _ ([], 0) _ _ (by omega), ← h2]; unfold sp_best; rw [if_pos h41b, if_neg h57b], h3⟩) (lv_sub hl [0, 2, 3, 4, 5, 6] rfl) (by omega)
        · have h41b := of_decide_eq_true h41
          rcases r with _ | _ | g0
          · have hl : lv_has ls 7 [(6, .ref (nx.getD k 0)), (5, .int (iI ((k : Nat) : Int))), (4, .int (iI (-2))), (0, .ref h), (1, .ref r0), (2, .int (iI ((k0 : Nat) : Int))), (3, .int (iI ((k1 : Nat) : Int)))] := hl
            refine lv_iload hx hb d_Groups_named_60 (lv_at hl 2 rfl) ?_
            refine zi_if_ge hx hb d_Groups_named_62 rfl (by omega) (fun h62 => absurd h62 (by omega)) (fun h62 => ?_)
            refine lv_aload hx hb d_Groups_named_65 (lv_at hl 0 rfl) ?_
            refine zgfN S hE (ci := 4) rfl i_Name wO 1 (by decide) hE.2.2.1.1 rfl d_Groups_named_67 ?_
            refine lv_goto hx hb d_Groups_named_70 rfl ?_
            refine W.eq (g2 := F0 m 83 ls [.int (iI (sp_gI (some (some (Nc.getD k ([], 0)).2))))]) rfl ?_
            refine lv_istore (lv' := [(4, .int (iI (sp_gI (some (some (Nc.getD k ([], 0)).2))))), (6, .ref (nx.getD k 0)), (5, .int (iI ((k : Nat) : Int))), (0, .ref h), (1, .ref r0), (2, .int (iI ((k0 : Nat) : Int))), (3, .int (iI ((k1 : Nat) : Int)))]) hx hb d_Groups_named_83 hl (by decide) rfl (fun ls hl => ?_)
            refine lv_goto hx hb d_Groups_named_85 rfl ?_
            refine lv_iinc (k := 2) (v := iI ((k + 1 : Nat) : Int)) (lv' := [(5, .int (iI ((k + 1 : Nat) : Int))), (4, .int (iI (sp_gI (some (some (Nc.getD k ([], 0)).2))))), (6, .ref (nx.getD k 0)), (0, .ref h), (1, .ref r0), (2, .int (iI ((k0 : Nat) : Int))), (3, .int (iI ((k1 : Nat) : Int)))]) hx hb d_Groups_named_98 hl rfl (by rw [show Int32.ofInt 1 = iI 1 from rfl, iI_add]; congr 1) (by decide) rfl (fun ls hl => ?_)
            refine lv_goto hx hb d_Groups_named_101 rfl ?_
            exact ih ls (k + 1) (some (some (Nc.getD k ([], 0)).2)) (⟨by omega, by rw [sp_fold_take _ ([], 0) _ _ (by omega), ← h2]; unfold sp_best; rw [if_pos h41b, if_pos h57], fun x h => by cases h; omega⟩) (lv_sub hl [0, 1, 3, 4, 5, 6] rfl) (by omega)
          · have hl : lv_has ls 7 [(6, .ref (nx.getD k 0)), (5, .int (iI ((k : Nat) : Int))), (4, .int (iI (-1))), (0, .ref h), (1, .ref r0), (2, .int (iI ((k0 : Nat) : Int))), (3, .int (iI ((k1 : Nat) : Int)))] := hl
            refine lv_iload hx hb d_Groups_named_60 (lv_at hl 2 rfl) ?_
            refine zi_if_ge hx hb d_Groups_named_62 rfl (by omega) (fun h62 => absurd h62 (by omega)) (fun h62 => ?_)
            refine lv_aload hx hb d_Groups_named_65 (lv_at hl 0 rfl) ?_
            refine zgfN S hE (ci := 4) rfl i_Name wO 1 (by decide) hE.2.2.1.1 rfl d_Groups_named_67 ?_
            refine lv_goto hx hb d_Groups_named_70 rfl ?_
            refine W.eq (g2 := F0 m 83 ls [.int (iI (sp_gI (some (some (Nc.getD k ([], 0)).2))))]) rfl ?_
            refine lv_istore (lv' := [(4, .int (iI (sp_gI (some (some (Nc.getD k ([], 0)).2))))), (6, .ref (nx.getD k 0)), (5, .int (iI ((k : Nat) : Int))), (0, .ref h), (1, .ref r0), (2, .int (iI ((k0 : Nat) : Int))), (3, .int (iI ((k1 : Nat) : Int)))]) hx hb d_Groups_named_83 hl (by decide) rfl (fun ls hl => ?_)
            refine lv_goto hx hb d_Groups_named_85 rfl ?_
            refine lv_iinc (k := 2) (v := iI ((k + 1 : Nat) : Int)) (lv' := [(5, .int (iI ((k + 1 : Nat) : Int))), (4, .int (iI (sp_gI (some (some (Nc.getD k ([], 0)).2))))), (6, .ref (nx.getD k 0)), (0, .ref h), (1, .ref r0), (2, .int (iI ((k0 : Nat) : Int))), (3, .int (iI ((k1 : Nat) : Int)))]) hx hb d_Groups_named_98 hl rfl (by rw [show Int32.ofInt 1 = iI 1 from rfl, iI_add]; congr 1) (by decide) rfl (fun ls hl => ?_)
            refine lv_goto hx hb d_Groups_named_101 rfl ?_
            exact ih ls (k + 1) (some (some (Nc.getD k ([], 0)).2)) (⟨by omega, by rw [sp_fold_take _ ([], 0) _ _ (by omega), ← h2]; unfold sp_best; rw [if_pos h41b, if_pos h57], fun x h => by cases h; omega⟩) (lv_sub hl [0, 1, 3, 4, 5, 6] rfl) (by omega)
          · have hl : lv_has ls 7 [(6, .ref (nx.getD k 0)), (5, .int (iI ((k : Nat) : Int))), (4, .int (iI ((g0 : Nat) : Int))), (0, .ref h), (1, .ref r0), (2, .int (iI ((k0 : Nat) : Int))), (3, .int (iI ((k1 : Nat) : Int)))] := hl
            have hg0 := h3 g0 rfl
            refine lv_iload hx hb d_Groups_named_60 (lv_at hl 2 rfl) ?_
            refine zi_if_ge hx hb d_Groups_named_62 rfl (by omega) (fun _ => ?_) (fun h => absurd h (by omega))
            refine lv_iload hx hb d_Groups_named_73 (lv_at hl 2 rfl) ?_
            refine lv_aload hx hb d_Groups_named_75 (lv_at hl 0 rfl) ?_
            refine zgfN S hE (ci := 4) rfl i_Name wO 1 (by decide) hE.2.2.1.1 rfl d_Groups_named_77 ?_
            refine zcR (va_runS (As := [.int (iI ((g0 : Nat) : Int)), .int (iI (((Nc.getD k ([], 0)).2 : Nat) : Int))]) (rest := []) S (c_Math_min l E ((g0 : Nat) : Int) (((Nc.getD k ([], 0)).2 : Nat) : Int) (by omega) (by omega)) ⟨zcwB (n := 2) S zw_366 zw_23 zw_737 (by decide +kernel) rfl rfl ⟨Nat.le_of_ble_eq_true rfl, Nat.le_of_ble_eq_true rfl⟩, S.2.2.2.2 _ zw_365⟩ (zPreS hE trivial) rfl rfl hl.1 rfl (lv_room (Nat.le_of_ble_eq_true rfl)) d_Groups_named_80 ⟨Nat.zero_le _, Nat.zero_le _⟩) ?_
            rw [show min ((g0 : Nat) : Int) (((Nc.getD k ([], 0)).2 : Nat) : Int) = ((min g0 (Nc.getD k ([], 0)).2 : Nat) : Int) by omega]
            refine W.eq (g2 := F0 m 83 ls [.int (iI (sp_gI (some (some (min g0 (Nc.getD k ([], 0)).2)))))]) rfl ?_
            refine lv_istore (lv' := [(4, .int (iI (sp_gI (some (some (min g0 (Nc.getD k ([], 0)).2)))))), (6, .ref (nx.getD k 0)), (5, .int (iI ((k : Nat) : Int))), (0, .ref h), (1, .ref r0), (2, .int (iI ((k0 : Nat) : Int))), (3, .int (iI ((k1 : Nat) : Int)))]) hx hb d_Groups_named_83 hl (by decide) rfl (fun ls hl => ?_)
            refine lv_goto hx hb d_Groups_named_85 rfl ?_
            refine lv_iinc (k := 2) (v := iI ((k + 1 : Nat) : Int)) (lv' := [(5, .int (iI ((k + 1 : Nat) : Int))), (4, .int (iI (sp_gI (some (some (min g0 (Nc.getD k ([], 0)).2)))))), (6, .ref (nx.getD k 0)), (0, .ref h), (1, .ref r0), (2, .int (iI ((k0 : Nat) : Int))), (3, .int (iI ((k1 : Nat) : Int)))]) hx hb d_Groups_named_98 hl rfl (by rw [show Int32.ofInt 1 = iI 1 from rfl, iI_add]; congr 1) (by decide) rfl (fun ls hl => ?_)
            refine lv_goto hx hb d_Groups_named_101 rfl ?_
            exact ih ls (k + 1) (some (some (min g0 (Nc.getD k ([], 0)).2))) (⟨by omega, by rw [sp_fold_take _ ([], 0) _ _ (by omega), ← h2]; unfold sp_best; rw [if_pos h41b, if_pos h57], fun x h => by cases h; omega⟩) (lv_sub hl [0, 1, 3, 4, 5, 6] rfl) (by omega)
      · refine lv_goto hx hb d_Groups_named_44 rfl ?_
        refine lv_iinc (k := 1) (v := iI ((k + 1 : Nat) : Int)) (lv' := [(5, .int (iI ((k + 1 : Nat) : Int))), (6, .ref (nx.getD k 0)), (4, .int (iI (sp_gI r))), (0, .ref h), (1, .ref r0), (2, .int (iI ((k0 : Nat) : Int))), (3, .int (iI ((k1 : Nat) : Int)))]) hx hb d_Groups_named_98 hl rfl (by rw [show Int32.ofInt 1 = iI 1 from rfl, iI_add]; congr 1) (by decide) rfl (fun ls hl => ?_)
        refine lv_goto hx hb d_Groups_named_101 rfl ?_
        exact ih ls (k + 1) r (⟨by omega, by rw [sp_fold_take _ ([], 0) _ _ (by omega), ← h2]; unfold sp_best; rw [if_neg (of_decide_eq_false h41)], h3⟩) (lv_sub hl [0, 2, 3, 4, 5, 6] rfl) (by omega)
