set_option maxRecDepth 100000 in
set_option maxHeartbeats 4000000 in
theorem c_Writing_writeCharacter (l : Launch) (E : zP) (sz : Nat) (Z : Nat → Prop) (w es h rb q tx gr en ca cap mode once : Nat) (rich uemp uunk utf ucp : Bool) (of0 ch nx : Int) (f : Nat → Int32) (out t : List Nat) (G : sp_Src) (k j : Nat) (hk : k < t.length) (hj : j ≤ t.length) (hB : zbytes out cap f) (hF : zfit cap f) (hc : sp_capok cap) (hmode : mode ≤ 2) (honce : once ≤ 2) (hoks : sp_oks utf t) (htl : (sp_encs utf t).length ≤ 65536) : Met l y_Writing_writeCharacter (.code y_Writing_writeCharacter b_Writing_writeCharacter 2 ( some FieldType.int ) :: zw) { frames := 4, cells := ((sp_pcap cap (sp_lift (k + 1) (out, mode, once) (sp_one utf ucp (out, mode, once) (t.getD k 0))) - cap) / 16), slots := (2 * (sp_pcap cap (sp_lift (k + 1) (out, mode, once) (sp_one utf ucp (out, mode, once) (t.getD k 0))) - cap)), locals := 106 } (zPc E [.ref w, .int (iI ((sp_off utf t k : Nat) : Int))] (fun H => H.size = sz ∧ va_P E.1 zcl [(w, .inr (8, [.ref tx, .ref gr, .ref h, .ref en, .ref es, .int (iI (bN rich)), .int (iI (bN uemp)), .int (iI (bN uunk)), .int (iI 0), .int (iI of0)])), (es, .inr (7, [.ref tx, .ref en, .int (iI ch), .int (iI nx)])), (h, .inr (6, [.ref en, .ref ca, .ref rb, .ref (E.2.2.1 (mode + 1)), .ref (E.2.2.1 (once + 1)), .int (iI (bN false))])), (rb, .inr (1, [.int (iI 262144), .ref q, .int (iI ((out.length : Nat) : Int))])), (q, .inl (E.2.1 0, cap, .inl f))] H ∧ va_D (fun x => zOld E x ∧ ¬ Z x) [(w, .inr (8, [.ref tx, .ref gr, .ref h, .ref en, .ref es, .int (iI (bN rich)), .int (iI (bN uemp)), .int (iI (bN uunk)), .int (iI 0), .int (iI of0)])), (es, .inr (7, [.ref tx, .ref en, .int (iI ch), .int (iI nx)])), (h, .inr (6, [.ref en, .ref ca, .ref rb, .ref (E.2.2.1 (mode + 1)), .ref (E.2.2.1 (once + 1)), .int (iI (bN false))])), (rb, .inr (1, [.int (iI 262144), .ref q, .int (iI ((out.length : Nat) : Int))])), (q, .inl (E.2.1 0, cap, .inl f))] ∧ (∀ q, Z q → q < sz) ∧ (Z en ∧ Z ca ∧ zO E 2 en [.int (iI (bN utf))] H ∧ zO E 3 ca [.int (iI ((5 * sp_many utf ucp : Nat) : Int))] H ∧ zrowZ E Z tx (sp_encs utf t) H ∧ zgrp E Z utf gr G H))) (zW (fun v H => zWr E (va_A [(w, .inr (8, [.ref tx, .ref gr, .ref h, .ref en, .ref es, .int (iI (bN rich)), .int (iI (bN uemp)), .int (iI (bN uunk)), .int (iI 0), .int (iI of0)])), (es, .inr (7, [.ref tx, .ref en, .int (iI ch), .int (iI nx)])), (h, .inr (6, [.ref en, .ref ca, .ref rb, .ref (E.2.2.1 (mode + 1)), .ref (E.2.2.1 (once + 1)), .int (iI (bN false))])), (rb, .inr (1, [.int (iI 262144), .ref q, .int (iI ((out.length : Nat) : Int))])), (q, .inl (E.2.1 0, cap, .inl f))] sz) w es h rb tx gr en ca rich uemp uunk utf of0 t j cap (sp_lift (k + 1) (out, mode, once) (sp_one utf ucp (out, mode, once) (t.getD k 0))) v H) (va_A [(w, .inr (8, [.ref tx, .ref gr, .ref h, .ref en, .ref es, .int (iI (bN rich)), .int (iI (bN uemp)), .int (iI (bN uunk)), .int (iI 0), .int (iI of0)])), (es, .inr (7, [.ref tx, .ref en, .int (iI ch), .int (iI nx)])), (h, .inr (6, [.ref en, .ref ca, .ref rb, .ref (E.2.2.1 (mode + 1)), .ref (E.2.2.1 (once + 1)), .int (iI (bN false))])), (rb, .inr (1, [.int (iI 262144), .ref q, .int (iI ((out.length : Nat) : Int))])), (q, .inl (E.2.1 0, cap, .inl f))] sz)) ((sp_pcap cap (sp_lift (k + 1) (out, mode, once) (sp_one utf ucp (out, mode, once) (t.getD k 0))) - cap) / 16) (2 * (sp_pcap cap (sp_lift (k + 1) (out, mode, once) (sp_one utf ucp (out, mode, once) (t.getD k 0))) - cap)) (va_A [(w, .inr (8, [.ref tx, .ref gr, .ref h, .ref en, .ref es, .int (iI (bN rich)), .int (iI (bN uemp)), .int (iI (bN uunk)), .int (iI 0), .int (iI of0)])), (es, .inr (7, [.ref tx, .ref en, .int (iI ch), .int (iI nx)])), (h, .inr (6, [.ref en, .ref ca, .ref rb, .ref (E.2.2.1 (mode + 1)), .ref (E.2.2.1 (once + 1)), .int (iI (bN false))])), (rb, .inr (1, [.int (iI 262144), .ref q, .int (iI ((out.length : Nat) : Int))])), (q, .inl (E.2.1 0, cap, .inl f))] sz) := by
  refine zMet (by decide) (Nat.le_of_ble_eq_true rfl) ?_
  intro p e s m below meth c ls S hr hlk hnm hE ⟨hsz, hP, hDo, hZb, hze, hzc, hen, hca, hrowz, hG0⟩ hl
  have hx := S.1
  have hb := S.2.1
  have hE0 := hE
  have hl : lv_has ls 2 [(0, .ref w), (1, .int (iI ((sp_off utf t k : Nat) : Int)))] := hl
  subst hsz
  have hD := hDo.self (sz := s.heap.size)
  generalize hAe : va_A [(w, .inr (8, [.ref tx, .ref gr, .ref h, .ref en, .ref es, .int (iI (bN rich)), .int (iI (bN uemp)), .int (iI (bN uunk)), .int (iI 0), .int (iI of0)])), (es, .inr (7, [.ref tx, .ref en, .int (iI ch), .int (iI nx)])), (h, .inr (6, [.ref en, .ref ca, .ref rb, .ref (E.2.2.1 (mode + 1)), .ref (E.2.2.1 (once + 1)), .int (iI (bN false))])), (rb, .inr (1, [.int (iI 262144), .ref q, .int (iI ((out.length : Nat) : Int))])), (q, .inl (E.2.1 0, cap, .inl f))] s.heap.size = A at hD ⊢
  have hA : ∀ q : Nat, s.heap.size ≤ q → A q := fun q h => by rw [← hAe]; exact Or.inr h
  have hA1 := zAZ hE hDo hZb hAe
  have hA0 : ∀ q, A q → zOld E q := fun q h => (hA1 q h).1
  have hAZ : ∀ q, Z q → ¬ A q := fun q z h => (hA1 q h).2 z
  have hS : va_S A s.heap s.heap [] := va_S.rf
  have hbl := (zrowZ.row hrowz).len
  have hcr := sp_capok_r hc
  have hob := hB.1
  obtain ⟨ta, sa, al, mka, ng, ra, nxs, Nc, gz1, gz2, gz3, gO, gQ, gA, gR, gM, gMo, gL, gnl, gN, gmem, g99⟩ := id hG0
  refine lv_aload_n hx hb d_Writing_writeCharacter_0 rfl (lv_at hl 0 rfl) ?_
  refine zgf S hE (ci := 8) rfl i_Writing (hP 0 _ rfl) 2 (by decide) zw_200 rfl d_Writing_writeCharacter_1 ?_
  refine lv_aload_n hx hb d_Writing_writeCharacter_4 rfl (lv_at hl 0 rfl) ?_
  refine zgf S hE (ci := 8) rfl i_Writing (hP 0 _ rfl) 3 (by decide) zw_201 rfl d_Writing_writeCharacter_5 ?_
  refine lv_aload_n hx hb d_Writing_writeCharacter_8 rfl (lv_at hl 0 rfl) ?_
  refine zgf S hE (ci := 8) rfl i_Writing (hP 0 _ rfl) 0 (by decide) zw_198 rfl d_Writing_writeCharacter_9 ?_
  refine lv_iload_n hx hb d_Writing_writeCharacter_12 rfl (lv_at hl 1 rfl) ?_
  obtain ⟨e1, e2, e3, e4⟩ := sp_enc_at (sp_off_at utf (t := t) (i := k) hk) (sp_oks_get hoks hk)
  refine zcR (va_runV (As := [.ref tx, .int (iI ((sp_off utf t k : Nat) : Int))]) (rest := [.ref h]) S (c_Encoding_characterAt l E en tx utf (sp_encs utf t) (sp_off utf t k) (sp_off_lt_len hk) (by omega)) ⟨zcwB (n := 2) S zw_445 zw_7 zw_776 (by decide +kernel) rfl rfl ⟨Nat.le_of_ble_eq_true rfl, Nat.le_of_ble_eq_true rfl⟩, S.2.2.2.2 _ zw_443, S.2.2.2.2 _ zw_444⟩ (zPreV hE (zfz hS hen (hAZ _ hze)) rfl ⟨(zfz hS hen (hAZ _ hze)), (zrowZ.row (zrowZ.fz hrowz hS hAZ))⟩) rfl rfl hl.1 rfl (lv_room (Nat.le_of_ble_eq_true rfl)) d_Writing_writeCharacter_13 ⟨by (try dsimp only); omega, by (try dsimp only); omega⟩) ?_
  rw [e2]
  obtain ⟨how, hhow⟩ : ∃ x, x = if once = 0 then mode else once := ⟨_, rfl⟩
  obtain ⟨t1, ht1⟩ : ∃ x, x = sp_case utf ucp how (t.getD k 0) := ⟨_, rfl⟩
  by_cases hfit : out.length + sp_len utf t1 ≤ 262144
  · rw [sp_one_some hhow ht1 hfit]
    have hpc : sp_pcap cap (sp_lift (k + 1) (out, mode, once) (some (out ++ sp_enc utf t1, mode, 0))) = max cap (sp_up (out ++ sp_enc utf t1).length) := sp_pcap_some
    have hPc := hP.sub (ws' := [(h, .inr (6, [.ref en, .ref ca, .ref rb, .ref (E.2.2.1 (mode + 1)), .ref (E.2.2.1 (once + 1)), .int (iI (bN false))])), (rb, .inr (1, [.int (iI 262144), .ref q, .int (iI ((out.length : Nat) : Int))])), (q, .inl (E.2.1 0, cap, .inl f))]) [2, 3, 4] rfl
    have hDc := hD.sub (ws' := [(h, .inr (6, [.ref en, .ref ca, .ref rb, .ref (E.2.2.1 (mode + 1)), .ref (E.2.2.1 (once + 1)), .int (iI (bN false))])), (rb, .inr (1, [.int (iI 262144), .ref q, .int (iI ((out.length : Nat) : Int))])), (q, .inl (E.2.1 0, cap, .inl f))]) [2, 3, 4] (by decide) rfl
    have hFc := va_free (wc := [(h, .inr (6, [.ref en, .ref ca, .ref rb, .ref (E.2.2.1 (mode + 1)), .ref (E.2.2.1 (once + 1)), .int (iI (bN false))])), (rb, .inr (1, [.int (iI 262144), .ref q, .int (iI ((out.length : Nat) : Int))])), (q, .inl (E.2.1 0, cap, .inl f))]) hD hS hA [2, 3, 4] rfl
    refine zcW (va_runV (As := [.int (iI ((t.getD k 0 : Nat) : Int))]) (rest := []) S (c_Output_put l E s.heap.size Z h rb q en ca cap mode once (t.getD k 0) how t1 utf ucp f out hB hF hc hmode honce (sp_oks_get hoks hk) hhow ht1 hfit) ⟨zcwB (n := 1) S zw_671 zw_8 zw_701 (by decide +kernel) rfl rfl ⟨Nat.le_of_ble_eq_true rfl, Nat.le_of_ble_eq_true rfl⟩, S.2.2.2.2 _ zw_669, S.2.2.2.2 _ zw_670⟩ (zPreV hE (hP 2 _ rfl) rfl ⟨rfl, hPc, hDc.weaken (fun _ _ _ h => ⟨hA0 _ h, fun z => hAZ _ z h⟩), (fun q z => Nat.lt_of_lt_of_le (hZb q z) hS.1), hze, hzc, (zfz hS hen (hAZ _ hze)), (zfz hS hca (hAZ _ hzc))⟩) rfl rfl hl.1 rfl (lv_room (Nat.le_of_ble_eq_true rfl)) d_Writing_writeCharacter_16 ⟨by (try dsimp only); omega, by (try dsimp only); omega⟩) hS (fun q _ h => hFc q h) hFc (fun v H locs hq hz1 hk1 hS => ?_)
    obtain ⟨rfl, q2, f2, hP1, hD1, hB2, hF2⟩ := hq
    obtain ⟨hP, hD⟩ := va_join (wr := [(w, .inr (8, [.ref tx, .ref gr, .ref h, .ref en, .ref es, .int (iI (bN rich)), .int (iI (bN uemp)), .int (iI (bN uunk)), .int (iI 0), .int (iI of0)])), (es, .inr (7, [.ref tx, .ref en, .int (iI ch), .int (iI nx)]))]) (w1 := [(h, .inr (6, [.ref en, .ref ca, .ref rb, .ref (E.2.2.1 (mode + 1)), .ref (E.2.2.1 (0 + 1)), .int (iI (bN false))])), (rb, .inr (1, [.int (iI 262144), .ref q2, .int (iI (((out ++ sp_enc utf t1).length : Nat) : Int))])), (q2, .inl (E.2.1 0, max cap (sp_up (out ++ sp_enc utf t1).length), .inl f2))]) hP hD [2, 3, 4] [0, 1] rfl rfl (by decide) (by decide) hk1 hFc hP1 hD1
    have hP : va_P E.1 zcl [(w, .inr (8, [.ref tx, .ref gr, .ref h, .ref en, .ref es, .int (iI (bN rich)), .int (iI (bN uemp)), .int (iI (bN uunk)), .int (iI 0), .int (iI of0)])), (es, .inr (7, [.ref tx, .ref en, .int (iI ch), .int (iI nx)])), (h, .inr (6, [.ref en, .ref ca, .ref rb, .ref (E.2.2.1 (mode + 1)), .ref (E.2.2.1 (0 + 1)), .int (iI (bN false))])), (rb, .inr (1, [.int (iI 262144), .ref q2, .int (iI (((out ++ sp_enc utf t1).length : Nat) : Int))])), (q2, .inl (E.2.1 0, max cap (sp_up (out ++ sp_enc utf t1).length), .inl f2))] H := hP
    have hD : va_D A [(w, .inr (8, [.ref tx, .ref gr, .ref h, .ref en, .ref es, .int (iI (bN rich)), .int (iI (bN uemp)), .int (iI (bN uunk)), .int (iI 0), .int (iI of0)])), (es, .inr (7, [.ref tx, .ref en, .int (iI ch), .int (iI nx)])), (h, .inr (6, [.ref en, .ref ca, .ref rb, .ref (E.2.2.1 (mode + 1)), .ref (E.2.2.1 (0 + 1)), .int (iI (bN false))])), (rb, .inr (1, [.int (iI 262144), .ref q2, .int (iI (((out ++ sp_enc utf t1).length : Nat) : Int))])), (q2, .inl (E.2.1 0, max cap (sp_up (out ++ sp_enc utf t1).length), .inl f2))] := hD
    have hE := hE0.at hS hA0
    refine lv_iload_n hx hb d_Writing_writeCharacter_19 rfl (lv_at hl 1 rfl) ?_
    refine lv_aload_n hx hb d_Writing_writeCharacter_20 rfl (lv_at hl 0 rfl) ?_
    refine zgf S hE (ci := 8) rfl i_Writing (hP 0 _ rfl) 3 (by decide) zw_201 rfl d_Writing_writeCharacter_21 ?_
    refine lv_aload_n hx hb d_Writing_writeCharacter_24 rfl (lv_at hl 0 rfl) ?_
    refine zgf S hE (ci := 8) rfl i_Writing (hP 0 _ rfl) 0 (by decide) zw_198 rfl d_Writing_writeCharacter_25 ?_
    refine lv_iload_n hx hb d_Writing_writeCharacter_28 rfl (lv_at hl 1 rfl) ?_
    refine zcR (va_runV (As := [.int (iI ((sp_off utf t k : Nat) : Int))]) (rest := [.ref en, .int (iI ((sp_off utf t k : Nat) : Int))]) S (c_Row_at l E tx (sp_encs utf t) ((sp_off utf t k : Nat) : Int) (by omega)) ⟨zcwB (n := 1) S zw_437 zw_2 zw_692 (by decide +kernel) rfl rfl ⟨Nat.le_of_ble_eq_true rfl, Nat.le_of_ble_eq_true rfl⟩, S.2.2.2.2 _ zw_435, S.2.2.2.2 _ zw_436⟩ (zPreVrow hE (zrowZ.row (zrowZ.fz hrowz hS hAZ)) (zrowZ.row (zrowZ.fz hrowz hS hAZ))) rfl rfl hl.1 rfl (lv_room (Nat.le_of_ble_eq_true rfl)) d_Writing_writeCharacter_29 ⟨by (try dsimp only); omega, by (try dsimp only); omega⟩) ?_
    rw [sp_at_in (n := sp_off utf t k) (by omega) (sp_off_lt_len hk)]
    have hb29 := sp_b_lt (zrow.lt (zrowZ.row (zrowZ.fz hrowz hS hAZ))) (sp_off utf t k)
    have hbk := sp_b_lt (zrow.lt (zrowZ.row (zrowZ.fz hrowz hS hAZ))) (sp_off utf t k)
    refine zcR (va_runV (As := [.int (iI ((sp_b (sp_encs utf t) (sp_off utf t k) : Nat) : Int))]) (rest := [.int (iI ((sp_off utf t k : Nat) : Int))]) S (c_Encoding_lengthBehind l E en utf (sp_b (sp_encs utf t) (sp_off utf t k)) hbk) ⟨zcwB (n := 1) S zw_441 zw_7 zw_777 (by decide +kernel) rfl rfl ⟨Nat.le_of_ble_eq_true rfl, Nat.le_of_ble_eq_true rfl⟩, S.2.2.2.2 _ zw_439, S.2.2.2.2 _ zw_440⟩ (zPreV hE (zfz hS hen (hAZ _ hze)) rfl (zfz hS hen (hAZ _ hze))) rfl rfl hl.1 rfl (lv_room (Nat.le_of_ble_eq_true rfl)) d_Writing_writeCharacter_32 ⟨by (try dsimp only); omega, by (try dsimp only); omega⟩) ?_
    rw [e1]
    refine zi_iadd hx hb d_Writing_writeCharacter_35 ?_
    rw [show ((sp_off utf t k : Nat) : Int) + ((sp_len utf (t.getD k 0) : Nat) : Int) = ((sp_off utf t (k + 1) : Nat) : Int) by have := sp_off_succ utf hk; omega]
    have hbk1 := sp_off_le_len utf (t := t) (i := k + 1) (by omega)
    exact zwi S hr hlk hS (zWr_some (out ++ sp_enc utf t1, mode, 0) (k + 1) ((sp_off utf t (k + 1) : Nat) : Int) (hP.sub (ws' := [(w, .inr (8, [.ref tx, .ref gr, .ref h, .ref en, .ref es, .int (iI (bN rich)), .int (iI (bN uemp)), .int (iI (bN uunk)), .int (iI 0), .int (iI of0)])), (es, .inr (7, [.ref tx, .ref en, .int (iI ch), .int (iI nx)])), (h, .inr (6, [.ref en, .ref ca, .ref rb, .ref (E.2.2.1 (mode + 1)), .ref (E.2.2.1 (0 + 1)), .int (iI (bN false))])), (rb, .inr (1, [.int (iI 262144), .ref q2, .int (iI (((out ++ sp_enc utf t1).length : Nat) : Int))])), (q2, .inl (E.2.1 0, max cap (sp_up (out ++ sp_enc utf t1).length), .inl f2))]) [0, 1, 2, 3, 4] rfl) (hD.sub (ws' := [(w, .inr (8, [.ref tx, .ref gr, .ref h, .ref en, .ref es, .int (iI (bN rich)), .int (iI (bN uemp)), .int (iI (bN uunk)), .int (iI 0), .int (iI of0)])), (es, .inr (7, [.ref tx, .ref en, .int (iI ch), .int (iI nx)])), (h, .inr (6, [.ref en, .ref ca, .ref rb, .ref (E.2.2.1 (mode + 1)), .ref (E.2.2.1 (0 + 1)), .int (iI (bN false))])), (rb, .inr (1, [.int (iI 262144), .ref q2, .int (iI (((out ++ sp_enc utf t1).length : Nat) : Int))])), (q2, .inl (E.2.1 0, max cap (sp_up (out ++ sp_enc utf t1).length), .inl f2))]) [0, 1, 2, 3, 4] (by decide) rfl) hB2 hF2 hc hmode (Nat.zero_le _) ⟨by omega, by omega⟩ (fun _ => rfl) (fun z => by have := sp_off_mono utf (t := t) z (by omega); omega)) (by (try dsimp only); omega) (by (try dsimp only); omega) d_Writing_writeCharacter_36
  · rw [sp_one_none hhow ht1 hfit]
    have hlnt := sp_len_le utf t1
    have hcap : cap = 262144 := by have := hB.1; unfold sp_capok at hc; omega
    have hpc : sp_pcap cap (sp_lift (k + 1) (out, mode, once) none) = 262144 := sp_pcap_none
    have hPc := hP.sub (ws' := [(h, .inr (6, [.ref en, .ref ca, .ref rb, .ref (E.2.2.1 (mode + 1)), .ref (E.2.2.1 (once + 1)), .int (iI (bN false))])), (rb, .inr (1, [.int (iI 262144), .ref q, .int (iI ((out.length : Nat) : Int))])), (q, .inl (E.2.1 0, cap, .inl f))]) [2, 3, 4] rfl
    have hDc := hD.sub (ws' := [(h, .inr (6, [.ref en, .ref ca, .ref rb, .ref (E.2.2.1 (mode + 1)), .ref (E.2.2.1 (once + 1)), .int (iI (bN false))])), (rb, .inr (1, [.int (iI 262144), .ref q, .int (iI ((out.length : Nat) : Int))])), (q, .inl (E.2.1 0, cap, .inl f))]) [2, 3, 4] (by decide) rfl
    have hFc := va_free (wc := [(h, .inr (6, [.ref en, .ref ca, .ref rb, .ref (E.2.2.1 (mode + 1)), .ref (E.2.2.1 (once + 1)), .int (iI (bN false))])), (rb, .inr (1, [.int (iI 262144), .ref q, .int (iI ((out.length : Nat) : Int))])), (q, .inl (E.2.1 0, cap, .inl f))]) hD hS hA [2, 3, 4] rfl
    refine zcW (va_runV (As := [.int (iI ((t.getD k 0 : Nat) : Int))]) (rest := []) S (c_Output_put_full l E s.heap.size Z h rb q en ca cap mode once (t.getD k 0) how t1 utf ucp f out hB hF hc hmode honce (sp_oks_get hoks hk) hhow ht1 hfit) ⟨zcwB (n := 1) S zw_671 zw_8 zw_701 (by decide +kernel) rfl rfl ⟨Nat.le_of_ble_eq_true rfl, Nat.le_of_ble_eq_true rfl⟩, S.2.2.2.2 _ zw_669, S.2.2.2.2 _ zw_670⟩ (zPreV hE (hP 2 _ rfl) rfl ⟨rfl, hPc, hDc.weaken (fun _ _ _ h => ⟨hA0 _ h, fun z => hAZ _ z h⟩), (fun q z => Nat.lt_of_lt_of_le (hZb q z) hS.1), hze, hzc, (zfz hS hen (hAZ _ hze)), (zfz hS hca (hAZ _ hzc))⟩) rfl rfl hl.1 rfl (lv_room (Nat.le_of_ble_eq_true rfl)) d_Writing_writeCharacter_16 ⟨by (try dsimp only); omega, by (try dsimp only); omega⟩) hS (fun q _ h => hFc q h) hFc (fun v H locs hq hz1 hk1 hS => ?_)
    obtain ⟨rfl, hP1, hD1⟩ := hq
    obtain ⟨hP, hD⟩ := va_join (wr := [(w, .inr (8, [.ref tx, .ref gr, .ref h, .ref en, .ref es, .int (iI (bN rich)), .int (iI (bN uemp)), .int (iI (bN uunk)), .int (iI 0), .int (iI of0)])), (es, .inr (7, [.ref tx, .ref en, .int (iI ch), .int (iI nx)]))]) (w1 := [(h, .inr (6, [.ref en, .ref ca, .ref rb, .ref (E.2.2.1 (mode + 1)), .ref (E.2.2.1 (0 + 1)), .int (iI (bN true))])), (rb, .inr (1, [.int (iI 262144), .ref q, .int (iI ((out.length : Nat) : Int))])), (q, .inl (E.2.1 0, cap, .inl f))]) hP hD [2, 3, 4] [0, 1] rfl rfl (by decide) (by decide) hk1 hFc hP1 hD1
    have hP : va_P E.1 zcl [(w, .inr (8, [.ref tx, .ref gr, .ref h, .ref en, .ref es, .int (iI (bN rich)), .int (iI (bN uemp)), .int (iI (bN uunk)), .int (iI 0), .int (iI of0)])), (es, .inr (7, [.ref tx, .ref en, .int (iI ch), .int (iI nx)])), (h, .inr (6, [.ref en, .ref ca, .ref rb, .ref (E.2.2.1 (mode + 1)), .ref (E.2.2.1 (0 + 1)), .int (iI (bN true))])), (rb, .inr (1, [.int (iI 262144), .ref q, .int (iI ((out.length : Nat) : Int))])), (q, .inl (E.2.1 0, cap, .inl f))] H := hP
    have hD : va_D A [(w, .inr (8, [.ref tx, .ref gr, .ref h, .ref en, .ref es, .int (iI (bN rich)), .int (iI (bN uemp)), .int (iI (bN uunk)), .int (iI 0), .int (iI of0)])), (es, .inr (7, [.ref tx, .ref en, .int (iI ch), .int (iI nx)])), (h, .inr (6, [.ref en, .ref ca, .ref rb, .ref (E.2.2.1 (mode + 1)), .ref (E.2.2.1 (0 + 1)), .int (iI (bN true))])), (rb, .inr (1, [.int (iI 262144), .ref q, .int (iI ((out.length : Nat) : Int))])), (q, .inl (E.2.1 0, cap, .inl f))] := hD
    have hE := hE0.at hS hA0
    refine lv_iload_n hx hb d_Writing_writeCharacter_19 rfl (lv_at hl 1 rfl) ?_
    refine lv_aload_n hx hb d_Writing_writeCharacter_20 rfl (lv_at hl 0 rfl) ?_
    refine zgf S hE (ci := 8) rfl i_Writing (hP 0 _ rfl) 3 (by decide) zw_201 rfl d_Writing_writeCharacter_21 ?_
    refine lv_aload_n hx hb d_Writing_writeCharacter_24 rfl (lv_at hl 0 rfl) ?_
    refine zgf S hE (ci := 8) rfl i_Writing (hP 0 _ rfl) 0 (by decide) zw_198 rfl d_Writing_writeCharacter_25 ?_
    refine lv_iload_n hx hb d_Writing_writeCharacter_28 rfl (lv_at hl 1 rfl) ?_
    refine zcR (va_runV (As := [.int (iI ((sp_off utf t k : Nat) : Int))]) (rest := [.ref en, .int (iI ((sp_off utf t k : Nat) : Int))]) S (c_Row_at l E tx (sp_encs utf t) ((sp_off utf t k : Nat) : Int) (by omega)) ⟨zcwB (n := 1) S zw_437 zw_2 zw_692 (by decide +kernel) rfl rfl ⟨Nat.le_of_ble_eq_true rfl, Nat.le_of_ble_eq_true rfl⟩, S.2.2.2.2 _ zw_435, S.2.2.2.2 _ zw_436⟩ (zPreVrow hE (zrowZ.row (zrowZ.fz hrowz hS hAZ)) (zrowZ.row (zrowZ.fz hrowz hS hAZ))) rfl rfl hl.1 rfl (lv_room (Nat.le_of_ble_eq_true rfl)) d_Writing_writeCharacter_29 ⟨by (try dsimp only); omega, by (try dsimp only); omega⟩) ?_
    rw [sp_at_in (n := sp_off utf t k) (by omega) (sp_off_lt_len hk)]
    have hb29 := sp_b_lt (zrow.lt (zrowZ.row (zrowZ.fz hrowz hS hAZ))) (sp_off utf t k)
    have hbk := sp_b_lt (zrow.lt (zrowZ.row (zrowZ.fz hrowz hS hAZ))) (sp_off utf t k)
    refine zcR (va_runV (As := [.int (iI ((sp_b (sp_encs utf t) (sp_off utf t k) : Nat) : Int))]) (rest := [.int (iI ((sp_off utf t k : Nat) : Int))]) S (c_Encoding_lengthBehind l E en utf (sp_b (sp_encs utf t) (sp_off utf t k)) hbk) ⟨zcwB (n := 1) S zw_441 zw_7 zw_777 (by decide +kernel) rfl rfl ⟨Nat.le_of_ble_eq_true rfl, Nat.le_of_ble_eq_true rfl⟩, S.2.2.2.2 _ zw_439, S.2.2.2.2 _ zw_440⟩ (zPreV hE (zfz hS hen (hAZ _ hze)) rfl (zfz hS hen (hAZ _ hze))) rfl rfl hl.1 rfl (lv_room (Nat.le_of_ble_eq_true rfl)) d_Writing_writeCharacter_32 ⟨by (try dsimp only); omega, by (try dsimp only); omega⟩) ?_
    rw [e1]
    refine zi_iadd hx hb d_Writing_writeCharacter_35 ?_
    rw [show ((sp_off utf t k : Nat) : Int) + ((sp_len utf (t.getD k 0) : Nat) : Int) = ((sp_off utf t (k + 1) : Nat) : Int) by have := sp_off_succ utf hk; omega]
    have hbk1 := sp_off_le_len utf (t := t) (i := k + 1) (by omega)
    subst hcap
    exact zwi S hr hlk hS (zWr_full (k + 1) ((sp_off utf t (k + 1) : Nat) : Int) (hP.sub (ws' := [(w, .inr (8, [.ref tx, .ref gr, .ref h, .ref en, .ref es, .int (iI (bN rich)), .int (iI (bN uemp)), .int (iI (bN uunk)), .int (iI 0), .int (iI of0)])), (es, .inr (7, [.ref tx, .ref en, .int (iI ch), .int (iI nx)])), (h, .inr (6, [.ref en, .ref ca, .ref rb, .ref (E.2.2.1 (mode + 1)), .ref (E.2.2.1 (0 + 1)), .int (iI (bN true))])), (rb, .inr (1, [.int (iI 262144), .ref q, .int (iI ((out.length : Nat) : Int))])), (q, .inl (E.2.1 0, 262144, .inl f))]) [0, 1, 2, 3, 4] rfl) (hD.sub (ws' := [(w, .inr (8, [.ref tx, .ref gr, .ref h, .ref en, .ref es, .int (iI (bN rich)), .int (iI (bN uemp)), .int (iI (bN uunk)), .int (iI 0), .int (iI of0)])), (es, .inr (7, [.ref tx, .ref en, .int (iI ch), .int (iI nx)])), (h, .inr (6, [.ref en, .ref ca, .ref rb, .ref (E.2.2.1 (mode + 1)), .ref (E.2.2.1 (0 + 1)), .int (iI (bN true))])), (rb, .inr (1, [.int (iI 262144), .ref q, .int (iI ((out.length : Nat) : Int))])), (q, .inl (E.2.1 0, 262144, .inl f))]) [0, 1, 2, 3, 4] (by decide) rfl) hB hF hmode ⟨by omega, by omega⟩) (by (try dsimp only); omega) (by (try dsimp only); omega) d_Writing_writeCharacter_36

theorem sp_off_slice (utf : Bool) {t : List Nat} {i q : Nat} (h : i ≤ q) (hq : q ≤ t.length) : sp_off utf t i + (sp_encs utf ((t.drop i).take (q - i))).length = sp_off utf t q := by
  unfold sp_off
  rw [← List.length_append, ← sp_encs_append]
  congr 2
  rw [show t.take q = t.take (i + (q - i)) by rw [show i + (q - i) = q by omega], List.take_add]
theorem sp_off_slice2 (utf : Bool) {t : List Nat} {i q : Nat} (h : i ≤ q) : (sp_encs utf t).drop (sp_off utf t i) = sp_encs utf ((t.drop i).take (q - i)) ++ sp_encs utf (t.drop q) := by
  rw [sp_off_drop, ← sp_encs_append]
  congr 1
  rw [show t.drop q = (t.drop i).drop (q - i) by rw [List.drop_drop]; congr 1; omega, List.take_append_drop]
theorem sp_qt_at {t : List Nat} {j : Nat} : ∀ f i, j - i ≤ f → sp_qt t j i < j → t.getD (sp_qt t j i) 0 = 92 ∧ sp_see t (sp_qt t j i + 1) j = 69 := by
  intro f
  induction f with
  | zero => intro i h1 h2; rw [sp_qt_out (by omega)] at h2; omega
  | succ f ih =>
    intro i h1 h2
    by_cases hij : i < j
    · rw [sp_qt_step hij] at h2 ⊢
      split
      · rename_i q; exact q
      · rename_i q; rw [if_neg q] at h2; exact ih (i + 1) (by omega) h2
    · rw [sp_qt_out (by omega)] at h2; omega

theorem sp_qt_next (utf : Bool) {t : List Nat} {i j : Nat} (hij : i ≤ j) (hj : j ≤ t.length) : (sp_qt t j i + 2 < j → ((sp_off utf t (sp_qt t j i) : Nat) : Int) + 2 = ((sp_off utf t (sp_qt t j i + 2) : Nat) : Int)) ∧ (j ≤ sp_qt t j i + 2 → ((sp_off utf t j : Nat) : Int) ≤ ((sp_off utf t (sp_qt t j i) : Nat) : Int) + 2) := by
  have h1 := sp_qt_off utf hj (j - i) i (Nat.le_refl _) hij
  have h2 := sp_qt_at (t := t) (j := j) (j - i) i (Nat.le_refl _)
  generalize sp_qt t j i = q at *
  have key : q < j → sp_off utf t (q + 2) = sp_off utf t q + 2 ∧ q + 2 ≤ j := by
    intro y
    obtain ⟨a1, a2⟩ := h2 y
    have a3 := sp_see_in (t := t) (i := q + 1) (e := j) (by omega)
    have b1 := sp_off_asc utf (t := t) (i := q) (by omega) (by omega)
    have b2 : sp_off utf t (q + 2) = sp_off utf t (q + 1) + 1 := sp_off_asc utf (t := t) (i := q + 1) (by omega) (by omega)
    exact ⟨by omega, by omega⟩
  constructor
  · intro z
    have := (key (by omega)).1
    omega
  · intro z
    rcases Nat.lt_or_ge q j with y | y
    · obtain ⟨k1, k2⟩ := key y
      have e : j = q + 2 := by omega
      rw [e]
      omega
    · have e : q = j := by omega
      rw [e]
      omega

set_option maxRecDepth 100000 in
set_option maxHeartbeats 4000000 in
theorem c_Writing_writeQuoted (l : Launch) (E : zP) (sz : Nat) (Z : Nat → Prop) (w es h rb q tx gr en ca cap mode once : Nat) (rich uemp uunk utf ucp : Bool) (of0 ch nx : Int) (f : Nat → Int32) (out t : List Nat) (G : sp_Src) (i j : Nat) (hij : i ≤ j) (hj : j ≤ t.length) (hB : zbytes out cap f) (hF : zfit cap f) (hc : sp_capok cap) (hmode : mode ≤ 2) (honce : once ≤ 2) (hoks : sp_oks utf t) (htl : (sp_encs utf t).length ≤ 65536) : Met l y_Writing_writeQuoted (.code y_Writing_writeQuoted b_Writing_writeQuoted 4 ( some FieldType.int ) :: zw) { frames := 5, cells := ((sp_pcap cap (sp_lift (sp_qt t j i + 2) (out, mode, once) (sp_all utf ucp ((t.drop i).take (sp_qt t j i - i)) (out, mode, once))) - cap) / 16), slots := (2 * (sp_pcap cap (sp_lift (sp_qt t j i + 2) (out, mode, once) (sp_all utf ucp ((t.drop i).take (sp_qt t j i - i)) (out, mode, once))) - cap)), locals := 130 } (zPc E [.ref w, .int (iI ((sp_off utf t i : Nat) : Int)), .int (iI ((sp_off utf t j : Nat) : Int))] (fun H => H.size = sz ∧ va_P E.1 zcl [(w, .inr (8, [.ref tx, .ref gr, .ref h, .ref en, .ref es, .int (iI (bN rich)), .int (iI (bN uemp)), .int (iI (bN uunk)), .int (iI 0), .int (iI of0)])), (es, .inr (7, [.ref tx, .ref en, .int (iI ch), .int (iI nx)])), (h, .inr (6, [.ref en, .ref ca, .ref rb, .ref (E.2.2.1 (mode + 1)), .ref (E.2.2.1 (once + 1)), .int (iI (bN false))])), (rb, .inr (1, [.int (iI 262144), .ref q, .int (iI ((out.length : Nat) : Int))])), (q, .inl (E.2.1 0, cap, .inl f))] H ∧ va_D (fun x => zOld E x ∧ ¬ Z x) [(w, .inr (8, [.ref tx, .ref gr, .ref h, .ref en, .ref es, .int (iI (bN rich)), .int (iI (bN uemp)), .int (iI (bN uunk)), .int (iI 0), .int (iI of0)])), (es, .inr (7, [.ref tx, .ref en, .int (iI ch), .int (iI nx)])), (h, .inr (6, [.ref en, .ref ca, .ref rb, .ref (E.2.2.1 (mode + 1)), .ref (E.2.2.1 (once + 1)), .int (iI (bN false))])), (rb, .inr (1, [.int (iI 262144), .ref q, .int (iI ((out.length : Nat) : Int))])), (q, .inl (E.2.1 0, cap, .inl f))] ∧ (∀ q, Z q → q < sz) ∧ (Z en ∧ Z ca ∧ zO E 2 en [.int (iI (bN utf))] H ∧ zO E 3 ca [.int (iI ((5 * sp_many utf ucp : Nat) : Int))] H ∧ zrowZ E Z tx (sp_encs utf t) H ∧ zgrp E Z utf gr G H))) (zW (fun v H => zWr E (va_A [(w, .inr (8, [.ref tx, .ref gr, .ref h, .ref en, .ref es, .int (iI (bN rich)), .int (iI (bN uemp)), .int (iI (bN uunk)), .int (iI 0), .int (iI of0)])), (es, .inr (7, [.ref tx, .ref en, .int (iI ch), .int (iI nx)])), (h, .inr (6, [.ref en, .ref ca, .ref rb, .ref (E.2.2.1 (mode + 1)), .ref (E.2.2.1 (once + 1)), .int (iI (bN false))])), (rb, .inr (1, [.int (iI 262144), .ref q, .int (iI ((out.length : Nat) : Int))])), (q, .inl (E.2.1 0, cap, .inl f))] sz) w es h rb tx gr en ca rich uemp uunk utf of0 t j cap (sp_lift (sp_qt t j i + 2) (out, mode, once) (sp_all utf ucp ((t.drop i).take (sp_qt t j i - i)) (out, mode, once))) v H) (va_A [(w, .inr (8, [.ref tx, .ref gr, .ref h, .ref en, .ref es, .int (iI (bN rich)), .int (iI (bN uemp)), .int (iI (bN uunk)), .int (iI 0), .int (iI of0)])), (es, .inr (7, [.ref tx, .ref en, .int (iI ch), .int (iI nx)])), (h, .inr (6, [.ref en, .ref ca, .ref rb, .ref (E.2.2.1 (mode + 1)), .ref (E.2.2.1 (once + 1)), .int (iI (bN false))])), (rb, .inr (1, [.int (iI 262144), .ref q, .int (iI ((out.length : Nat) : Int))])), (q, .inl (E.2.1 0, cap, .inl f))] sz)) ((sp_pcap cap (sp_lift (sp_qt t j i + 2) (out, mode, once) (sp_all utf ucp ((t.drop i).take (sp_qt t j i - i)) (out, mode, once))) - cap) / 16) (2 * (sp_pcap cap (sp_lift (sp_qt t j i + 2) (out, mode, once) (sp_all utf ucp ((t.drop i).take (sp_qt t j i - i)) (out, mode, once))) - cap)) (va_A [(w, .inr (8, [.ref tx, .ref gr, .ref h, .ref en, .ref es, .int (iI (bN rich)), .int (iI (bN uemp)), .int (iI (bN uunk)), .int (iI 0), .int (iI of0)])), (es, .inr (7, [.ref tx, .ref en, .int (iI ch), .int (iI nx)])), (h, .inr (6, [.ref en, .ref ca, .ref rb, .ref (E.2.2.1 (mode + 1)), .ref (E.2.2.1 (once + 1)), .int (iI (bN false))])), (rb, .inr (1, [.int (iI 262144), .ref q, .int (iI ((out.length : Nat) : Int))])), (q, .inl (E.2.1 0, cap, .inl f))] sz) := by
  refine zMet (by decide) (Nat.le_of_ble_eq_true rfl) ?_
  intro p e s m below meth c ls S hr hlk hnm hE ⟨hsz, hP, hDo, hZb, hze, hzc, hen, hca, hrowz, hG0⟩ hl
  have hx := S.1
  have hb := S.2.1
  have hE0 := hE
  have hl : lv_has ls 4 [(0, .ref w), (1, .int (iI ((sp_off utf t i : Nat) : Int))), (2, .int (iI ((sp_off utf t j : Nat) : Int)))] := hl
  subst hsz
  have hD := hDo.self (sz := s.heap.size)
  generalize hAe : va_A [(w, .inr (8, [.ref tx, .ref gr, .ref h, .ref en, .ref es, .int (iI (bN rich)), .int (iI (bN uemp)), .int (iI (bN uunk)), .int (iI 0), .int (iI of0)])), (es, .inr (7, [.ref tx, .ref en, .int (iI ch), .int (iI nx)])), (h, .inr (6, [.ref en, .ref ca, .ref rb, .ref (E.2.2.1 (mode + 1)), .ref (E.2.2.1 (once + 1)), .int (iI (bN false))])), (rb, .inr (1, [.int (iI 262144), .ref q, .int (iI ((out.length : Nat) : Int))])), (q, .inl (E.2.1 0, cap, .inl f))] s.heap.size = A at hD ⊢
  have hA : ∀ q : Nat, s.heap.size ≤ q → A q := fun q h => by rw [← hAe]; exact Or.inr h
  have hA1 := zAZ hE hDo hZb hAe
  have hA0 : ∀ q, A q → zOld E q := fun q h => (hA1 q h).1
  have hAZ : ∀ q, Z q → ¬ A q := fun q z h => (hA1 q h).2 z
  have hS : va_S A s.heap s.heap [] := va_S.rf
  have hbl := (zrowZ.row hrowz).len
  have hcr := sp_capok_r hc
  have hob := hB.1
  obtain ⟨ta, sa, al, mka, ng, ra, nxs, Nc, gz1, gz2, gz3, gO, gQ, gA, gR, gM, gMo, gL, gnl, gN, gmem, g99⟩ := id hG0
  have hb_i := sp_off_le_len utf (t := t) (i := i) (by omega)
  have hb_j := sp_off_le_len utf hj
  have hmn := sp_off_mono utf hij hj
  refine lv_iload_n hx hb d_Writing_writeQuoted_0 rfl (lv_at hl 1 rfl) ?_
  refine lv_istore_n (lv' := [(3, .int (iI ((sp_off utf t i : Nat) : Int))), (0, .ref w), (1, .int (iI ((sp_off utf t i : Nat) : Int))), (2, .int (iI ((sp_off utf t j : Nat) : Int)))]) hx hb d_Writing_writeQuoted_1 rfl hl (by decide) rfl (fun ls hl => ?_)
  have key : ∃ (kb : Nat), (sp_off utf t i ≤ kb ∧ kb ≤ sp_off utf t j ∧ sp_qt (sp_encs utf t) (sp_off utf t j) kb = sp_qt (sp_encs utf t) (sp_off utf t j) (sp_off utf t i)) ∧ lv_has ls 4 [(3, .int (iI ((kb : Nat) : Int))), (0, .ref w), (1, .int (iI ((sp_off utf t i : Nat) : Int))), (2, .int (iI ((sp_off utf t j : Nat) : Int)))] := ⟨(sp_off utf t i), ⟨by omega, by omega, rfl⟩, hl⟩
  clear hl
  obtain ⟨kb, hinv, hl⟩ := key
  obtain ⟨n, hn⟩ : ∃ n : Nat, sp_off utf t j - kb < n := ⟨_, Nat.lt_succ_self _⟩
  induction n generalizing kb ls with
  | zero => exact absurd hn (Nat.not_lt_zero _)
  | succ n ih =>
    obtain ⟨h1, h2, h3⟩ := hinv
    refine lv_iload_n hx hb d_Writing_writeQuoted_2 rfl (lv_at hl 0 rfl) ?_
    refine lv_iload_n hx hb d_Writing_writeQuoted_3 rfl (lv_at hl 3 rfl) ?_
    refine zi_icmp_ge hx hb d_Writing_writeQuoted_4 rfl (by omega) (by omega) (fun h4 => ?_) (fun h4 => ?_)
    · have hqo := sp_qt_off utf hj (j - i) i (Nat.le_refl _) hij
      have hkq : kb = sp_off utf t (sp_qt t j i) := by rw [← hqo.1, ← h3]; first | rw [sp_qt_out (by omega)] | rw [sp_qt_step hke, if_pos ⟨by omega, by omega⟩]
      obtain ⟨qq, hqq⟩ : ∃ x, x = sp_qt t j i := ⟨_, rfl⟩
      rw [← hqq] at hqo hkq
      rw [← hqq]
      subst hkq
      have hl : lv_has ls 4 [(3, .int (iI ((sp_off utf t qq : Nat) : Int))), (0, .ref w), (1, .int (iI ((sp_off utf t i : Nat) : Int))), (2, .int (iI ((sp_off utf t j : Nat) : Int)))] := hl
      have hcl : sp_off utf t i + (sp_encs utf ((t.drop i).take (qq - i))).length = sp_off utf t qq := sp_off_slice utf (by omega) (by omega)
      have hbq := sp_off_le_len utf (t := t) (i := qq) (by omega)
      refine lv_aload_n hx hb d_Writing_writeQuoted_39 rfl (lv_at hl 1 rfl) ?_
      refine zgf S hE (ci := 8) rfl i_Writing (hP 0 _ rfl) 2 (by decide) zw_200 rfl d_Writing_writeQuoted_40 ?_
      refine lv_aload_n hx hb d_Writing_writeQuoted_43 rfl (lv_at hl 1 rfl) ?_
      refine zgf S hE (ci := 8) rfl i_Writing (hP 0 _ rfl) 0 (by decide) zw_198 rfl d_Writing_writeQuoted_44 ?_
      refine lv_iload_n hx hb d_Writing_writeQuoted_47 rfl (lv_at hl 2 rfl) ?_
      refine lv_iload_n hx hb d_Writing_writeQuoted_48 rfl (lv_at hl 0 rfl) ?_
      rw [show ((sp_off utf t qq : Nat) : Int) = ((sp_off utf t i + (sp_encs utf ((t.drop i).take (qq - i))).length : Nat) : Int) by omega]
      rcases hcp : sp_all utf ucp ((t.drop i).take (qq - i)) (out, mode, once) with _ | oF
      · skip
        have hpc : sp_pcap cap (sp_lift (qq + 2) (out, mode, once) none) = 262144 := sp_pcap_none
        have hPc := hP.sub (ws' := [(h, .inr (6, [.ref en, .ref ca, .ref rb, .ref (E.2.2.1 (mode + 1)), .ref (E.2.2.1 (once + 1)), .int (iI (bN false))])), (rb, .inr (1, [.int (iI 262144), .ref q, .int (iI ((out.length : Nat) : Int))])), (q, .inl (E.2.1 0, cap, .inl f))]) [2, 3, 4] rfl
        have hDc := hD.sub (ws' := [(h, .inr (6, [.ref en, .ref ca, .ref rb, .ref (E.2.2.1 (mode + 1)), .ref (E.2.2.1 (once + 1)), .int (iI (bN false))])), (rb, .inr (1, [.int (iI 262144), .ref q, .int (iI ((out.length : Nat) : Int))])), (q, .inl (E.2.1 0, cap, .inl f))]) [2, 3, 4] (by decide) rfl
        have hFc := va_free (wc := [(h, .inr (6, [.ref en, .ref ca, .ref rb, .ref (E.2.2.1 (mode + 1)), .ref (E.2.2.1 (once + 1)), .int (iI (bN false))])), (rb, .inr (1, [.int (iI 262144), .ref q, .int (iI ((out.length : Nat) : Int))])), (q, .inl (E.2.1 0, cap, .inl f))]) hD hS hA [2, 3, 4] rfl
        refine zcW (va_runV (As := [.ref tx, .int (iI ((sp_off utf t i : Nat) : Int)), .int (iI ((sp_off utf t i + (sp_encs utf ((t.drop i).take (qq - i))).length : Nat) : Int))]) (rest := []) S (c_Output_copy_full l E s.heap.size Z h rb q en ca cap mode once tx (sp_off utf t i) utf ucp f out (sp_encs utf t) ((t.drop i).take (qq - i)) (sp_encs utf (t.drop qq)) hB hF hc hmode honce (sp_off_slice2 utf (by omega)) (fun x hx => hoks x (List.mem_of_mem_drop (List.mem_of_mem_take hx))) (by omega) hcp) ⟨zcwB (n := 3) S zw_666 zw_8 zw_711 (by decide +kernel) rfl rfl ⟨Nat.le_of_ble_eq_true rfl, Nat.le_of_ble_eq_true rfl⟩, S.2.2.2.2 _ zw_664, S.2.2.2.2 _ zw_665⟩ (zPreV hE (hP 2 _ rfl) rfl ⟨rfl, hPc, hDc.weaken (fun _ _ _ h => ⟨hA0 _ h, fun z => hAZ _ z h⟩), (fun q z => Nat.lt_of_lt_of_le (hZb q z) hS.1), hze, hzc, (zfz hS hen (hAZ _ hze)), (zfz hS hca (hAZ _ hzc)), (zrowZ.fz hrowz hS hAZ)⟩) rfl rfl hl.1 rfl (lv_room (Nat.le_of_ble_eq_true rfl)) d_Writing_writeQuoted_49 ⟨by (try dsimp only); omega, by (try dsimp only); omega⟩) hS (fun q _ h => hFc q h) hFc (fun v H locs hq hz1 hk1 hS => ?_)
        obtain ⟨rfl, q2, f2, out2, hP1, hD1, hB2, hF2⟩ := hq
        obtain ⟨hP, hD⟩ := va_join (wr := [(w, .inr (8, [.ref tx, .ref gr, .ref h, .ref en, .ref es, .int (iI (bN rich)), .int (iI (bN uemp)), .int (iI (bN uunk)), .int (iI 0), .int (iI of0)])), (es, .inr (7, [.ref tx, .ref en, .int (iI ch), .int (iI nx)]))]) (w1 := [(h, .inr (6, [.ref en, .ref ca, .ref rb, .ref (E.2.2.1 (mode + 1)), .ref (E.2.2.1 (0 + 1)), .int (iI (bN true))])), (rb, .inr (1, [.int (iI 262144), .ref q2, .int (iI ((out2.length : Nat) : Int))])), (q2, .inl (E.2.1 0, 262144, .inl f2))]) hP hD [2, 3, 4] [0, 1] rfl rfl (by decide) (by decide) hk1 hFc hP1 hD1
        have hP : va_P E.1 zcl [(w, .inr (8, [.ref tx, .ref gr, .ref h, .ref en, .ref es, .int (iI (bN rich)), .int (iI (bN uemp)), .int (iI (bN uunk)), .int (iI 0), .int (iI of0)])), (es, .inr (7, [.ref tx, .ref en, .int (iI ch), .int (iI nx)])), (h, .inr (6, [.ref en, .ref ca, .ref rb, .ref (E.2.2.1 (mode + 1)), .ref (E.2.2.1 (0 + 1)), .int (iI (bN true))])), (rb, .inr (1, [.int (iI 262144), .ref q2, .int (iI ((out2.length : Nat) : Int))])), (q2, .inl (E.2.1 0, 262144, .inl f2))] H := hP
        have hD : va_D A [(w, .inr (8, [.ref tx, .ref gr, .ref h, .ref en, .ref es, .int (iI (bN rich)), .int (iI (bN uemp)), .int (iI (bN uunk)), .int (iI 0), .int (iI of0)])), (es, .inr (7, [.ref tx, .ref en, .int (iI ch), .int (iI nx)])), (h, .inr (6, [.ref en, .ref ca, .ref rb, .ref (E.2.2.1 (mode + 1)), .ref (E.2.2.1 (0 + 1)), .int (iI (bN true))])), (rb, .inr (1, [.int (iI 262144), .ref q2, .int (iI ((out2.length : Nat) : Int))])), (q2, .inl (E.2.1 0, 262144, .inl f2))] := hD
        have hE := hE0.at hS hA0
        have hnxt := sp_qt_next utf hij hj
        rw [← hqq] at hnxt
        refine lv_iload_n hx hb d_Writing_writeQuoted_52 rfl (lv_at hl 0 rfl) ?_
        refine zi_iconst hx hb d_Writing_writeQuoted_53 ?_
        refine zi_iadd hx hb d_Writing_writeQuoted_54 ?_
        exact zwi S hr hlk hS (zWr_full (qq + 2) (((sp_off utf t qq : Nat) : Int) + 2) (hP.sub (ws' := [(w, .inr (8, [.ref tx, .ref gr, .ref h, .ref en, .ref es, .int (iI (bN rich)), .int (iI (bN uemp)), .int (iI (bN uunk)), .int (iI 0), .int (iI of0)])), (es, .inr (7, [.ref tx, .ref en, .int (iI ch), .int (iI nx)])), (h, .inr (6, [.ref en, .ref ca, .ref rb, .ref (E.2.2.1 (mode + 1)), .ref (E.2.2.1 (0 + 1)), .int (iI (bN true))])), (rb, .inr (1, [.int (iI 262144), .ref q2, .int (iI ((out2.length : Nat) : Int))])), (q2, .inl (E.2.1 0, 262144, .inl f2))]) [0, 1, 2, 3, 4] rfl) (hD.sub (ws' := [(w, .inr (8, [.ref tx, .ref gr, .ref h, .ref en, .ref es, .int (iI (bN rich)), .int (iI (bN uemp)), .int (iI (bN uunk)), .int (iI 0), .int (iI of0)])), (es, .inr (7, [.ref tx, .ref en, .int (iI ch), .int (iI nx)])), (h, .inr (6, [.ref en, .ref ca, .ref rb, .ref (E.2.2.1 (mode + 1)), .ref (E.2.2.1 (0 + 1)), .int (iI (bN true))])), (rb, .inr (1, [.int (iI 262144), .ref q2, .int (iI ((out2.length : Nat) : Int))])), (q2, .inl (E.2.1 0, 262144, .inl f2))]) [0, 1, 2, 3, 4] (by decide) rfl) hB2 hF2 hmode ⟨by omega, by omega⟩) (by (try dsimp only); omega) (by (try dsimp only); omega) d_Writing_writeQuoted_55
      · skip
        have hpc : sp_pcap cap (sp_lift (qq + 2) (out, mode, once) (some oF)) = max cap (sp_up oF.1.length) := sp_pcap_some
        have hal := sp_all_len _ _ _ hcp
        have hPc := hP.sub (ws' := [(h, .inr (6, [.ref en, .ref ca, .ref rb, .ref (E.2.2.1 (mode + 1)), .ref (E.2.2.1 (once + 1)), .int (iI (bN false))])), (rb, .inr (1, [.int (iI 262144), .ref q, .int (iI ((out.length : Nat) : Int))])), (q, .inl (E.2.1 0, cap, .inl f))]) [2, 3, 4] rfl
        have hDc := hD.sub (ws' := [(h, .inr (6, [.ref en, .ref ca, .ref rb, .ref (E.2.2.1 (mode + 1)), .ref (E.2.2.1 (once + 1)), .int (iI (bN false))])), (rb, .inr (1, [.int (iI 262144), .ref q, .int (iI ((out.length : Nat) : Int))])), (q, .inl (E.2.1 0, cap, .inl f))]) [2, 3, 4] (by decide) rfl
        have hFc := va_free (wc := [(h, .inr (6, [.ref en, .ref ca, .ref rb, .ref (E.2.2.1 (mode + 1)), .ref (E.2.2.1 (once + 1)), .int (iI (bN false))])), (rb, .inr (1, [.int (iI 262144), .ref q, .int (iI ((out.length : Nat) : Int))])), (q, .inl (E.2.1 0, cap, .inl f))]) hD hS hA [2, 3, 4] rfl
        refine zcW (va_runV (As := [.ref tx, .int (iI ((sp_off utf t i : Nat) : Int)), .int (iI ((sp_off utf t i + (sp_encs utf ((t.drop i).take (qq - i))).length : Nat) : Int))]) (rest := []) S (c_Output_copy l E s.heap.size Z h rb q en ca cap mode once tx (sp_off utf t i) utf ucp f out (sp_encs utf t) ((t.drop i).take (qq - i)) (sp_encs utf (t.drop qq)) oF hB hF hc hmode honce (sp_off_slice2 utf (by omega)) (fun x hx => hoks x (List.mem_of_mem_drop (List.mem_of_mem_take hx))) (by omega) hcp) ⟨zcwB (n := 3) S zw_666 zw_8 zw_711 (by decide +kernel) rfl rfl ⟨Nat.le_of_ble_eq_true rfl, Nat.le_of_ble_eq_true rfl⟩, S.2.2.2.2 _ zw_664, S.2.2.2.2 _ zw_665⟩ (zPreV hE (hP 2 _ rfl) rfl ⟨rfl, hPc, hDc.weaken (fun _ _ _ h => ⟨hA0 _ h, fun z => hAZ _ z h⟩), (fun q z => Nat.lt_of_lt_of_le (hZb q z) hS.1), hze, hzc, (zfz hS hen (hAZ _ hze)), (zfz hS hca (hAZ _ hzc)), (zrowZ.fz hrowz hS hAZ)⟩) rfl rfl hl.1 rfl (lv_room (Nat.le_of_ble_eq_true rfl)) d_Writing_writeQuoted_49 ⟨by (try dsimp only); omega, by (try dsimp only); omega⟩) hS (fun q _ h => hFc q h) hFc (fun v H locs hq hz1 hk1 hS => ?_)
        obtain ⟨rfl, q2, f2, hP1, hD1, hB2, hF2⟩ := hq
        obtain ⟨hP, hD⟩ := va_join (wr := [(w, .inr (8, [.ref tx, .ref gr, .ref h, .ref en, .ref es, .int (iI (bN rich)), .int (iI (bN uemp)), .int (iI (bN uunk)), .int (iI 0), .int (iI of0)])), (es, .inr (7, [.ref tx, .ref en, .int (iI ch), .int (iI nx)]))]) (w1 := [(h, .inr (6, [.ref en, .ref ca, .ref rb, .ref (E.2.2.1 (oF.2.1 + 1)), .ref (E.2.2.1 (oF.2.2 + 1)), .int (iI (bN false))])), (rb, .inr (1, [.int (iI 262144), .ref q2, .int (iI ((oF.1.length : Nat) : Int))])), (q2, .inl (E.2.1 0, max cap (sp_up oF.1.length), .inl f2))]) hP hD [2, 3, 4] [0, 1] rfl rfl (by decide) (by decide) hk1 hFc hP1 hD1
        have hP : va_P E.1 zcl [(w, .inr (8, [.ref tx, .ref gr, .ref h, .ref en, .ref es, .int (iI (bN rich)), .int (iI (bN uemp)), .int (iI (bN uunk)), .int (iI 0), .int (iI of0)])), (es, .inr (7, [.ref tx, .ref en, .int (iI ch), .int (iI nx)])), (h, .inr (6, [.ref en, .ref ca, .ref rb, .ref (E.2.2.1 (oF.2.1 + 1)), .ref (E.2.2.1 (oF.2.2 + 1)), .int (iI (bN false))])), (rb, .inr (1, [.int (iI 262144), .ref q2, .int (iI ((oF.1.length : Nat) : Int))])), (q2, .inl (E.2.1 0, max cap (sp_up oF.1.length), .inl f2))] H := hP
        have hD : va_D A [(w, .inr (8, [.ref tx, .ref gr, .ref h, .ref en, .ref es, .int (iI (bN rich)), .int (iI (bN uemp)), .int (iI (bN uunk)), .int (iI 0), .int (iI of0)])), (es, .inr (7, [.ref tx, .ref en, .int (iI ch), .int (iI nx)])), (h, .inr (6, [.ref en, .ref ca, .ref rb, .ref (E.2.2.1 (oF.2.1 + 1)), .ref (E.2.2.1 (oF.2.2 + 1)), .int (iI (bN false))])), (rb, .inr (1, [.int (iI 262144), .ref q2, .int (iI ((oF.1.length : Nat) : Int))])), (q2, .inl (E.2.1 0, max cap (sp_up oF.1.length), .inl f2))] := hD
        have hE := hE0.at hS hA0
        have hnxt := sp_qt_next utf hij hj
        rw [← hqq] at hnxt
        refine lv_iload_n hx hb d_Writing_writeQuoted_52 rfl (lv_at hl 0 rfl) ?_
        refine zi_iconst hx hb d_Writing_writeQuoted_53 ?_
        refine zi_iadd hx hb d_Writing_writeQuoted_54 ?_
        exact zwi S hr hlk hS (zWr_some oF (qq + 2) (((sp_off utf t qq : Nat) : Int) + 2) (hP.sub (ws' := [(w, .inr (8, [.ref tx, .ref gr, .ref h, .ref en, .ref es, .int (iI (bN rich)), .int (iI (bN uemp)), .int (iI (bN uunk)), .int (iI 0), .int (iI of0)])), (es, .inr (7, [.ref tx, .ref en, .int (iI ch), .int (iI nx)])), (h, .inr (6, [.ref en, .ref ca, .ref rb, .ref (E.2.2.1 (oF.2.1 + 1)), .ref (E.2.2.1 (oF.2.2 + 1)), .int (iI (bN false))])), (rb, .inr (1, [.int (iI 262144), .ref q2, .int (iI ((oF.1.length : Nat) : Int))])), (q2, .inl (E.2.1 0, max cap (sp_up oF.1.length), .inl f2))]) [0, 1, 2, 3, 4] rfl) (hD.sub (ws' := [(w, .inr (8, [.ref tx, .ref gr, .ref h, .ref en, .ref es, .int (iI (bN rich)), .int (iI (bN uemp)), .int (iI (bN uunk)), .int (iI 0), .int (iI of0)])), (es, .inr (7, [.ref tx, .ref en, .int (iI ch), .int (iI nx)])), (h, .inr (6, [.ref en, .ref ca, .ref rb, .ref (E.2.2.1 (oF.2.1 + 1)), .ref (E.2.2.1 (oF.2.2 + 1)), .int (iI (bN false))])), (rb, .inr (1, [.int (iI 262144), .ref q2, .int (iI ((oF.1.length : Nat) : Int))])), (q2, .inl (E.2.1 0, max cap (sp_up oF.1.length), .inl f2))]) [0, 1, 2, 3, 4] (by decide) rfl) hB2 hF2 hc (by rw [hal.2.1]; exact hmode) (hal.2.2.1 honce) ⟨by omega, by omega⟩ hnxt.1 hnxt.2) (by (try dsimp only); omega) (by (try dsimp only); omega) d_Writing_writeQuoted_55
    · have hke : kb < sp_off utf t j := by omega
      refine lv_aload_n hx hb d_Writing_writeQuoted_7 rfl (lv_at hl 1 rfl) ?_
      refine zgf S hE (ci := 8) rfl i_Writing (hP 0 _ rfl) 0 (by decide) zw_198 rfl d_Writing_writeQuoted_8 ?_
      refine lv_iload_n hx hb d_Writing_writeQuoted_11 rfl (lv_at hl 0 rfl) ?_
      refine zcR (va_runV (As := [.int (iI ((kb : Nat) : Int))]) (rest := []) S (c_Row_at l E tx (sp_encs utf t) ((kb : Nat) : Int) (by omega)) ⟨zcwB (n := 1) S zw_437 zw_2 zw_692 (by decide +kernel) rfl rfl ⟨Nat.le_of_ble_eq_true rfl, Nat.le_of_ble_eq_true rfl⟩, S.2.2.2.2 _ zw_435, S.2.2.2.2 _ zw_436⟩ (zPreVrow hE (zrowZ.row (zrowZ.fz hrowz hS hAZ)) (zrowZ.row (zrowZ.fz hrowz hS hAZ))) rfl rfl hl.1 rfl (lv_room (Nat.le_of_ble_eq_true rfl)) d_Writing_writeQuoted_12 ⟨by (try dsimp only); omega, by (try dsimp only); omega⟩) ?_
      rw [sp_at_in (n := kb) (by omega) (by omega)]
      have hb12 := sp_b_lt (zrow.lt (zrowZ.row (zrowZ.fz hrowz hS hAZ))) (kb)
      have hbd : sp_b (sp_encs utf t) kb = (sp_encs utf t).getD kb 0 := rfl
      refine zi_bipush hx hb d_Writing_writeQuoted_15 (by decide) ?_
      refine zi_icmp_ne hx hb d_Writing_writeQuoted_17 rfl (by omega) (by omega) (fun h17 => ?_) (fun h17 => ?_)
      · refine lv_iinc (k := 0) (v := iI ((kb + 1 : Nat) : Int)) (lv' := [(3, .int (iI ((kb + 1 : Nat) : Int))), (0, .ref w), (1, .int (iI ((sp_off utf t i : Nat) : Int))), (2, .int (iI ((sp_off utf t j : Nat) : Int)))]) hx hb d_Writing_writeQuoted_33 hl rfl (by rw [show Int32.ofInt 1 = iI 1 from rfl, iI_add]; congr 1 <;> omega) (by decide) rfl (fun ls hl => ?_)
        refine lv_goto hx hb d_Writing_writeQuoted_36 rfl ?_
        exact ih ls (kb + 1) (⟨by omega, by omega, by rw [← h3, sp_qt_step hke, if_neg (by omega)]⟩) (lv_sub hl [0, 1, 2, 3] rfl) (by omega)
      · refine lv_aload_n hx hb d_Writing_writeQuoted_20 rfl (lv_at hl 1 rfl) ?_
        refine lv_iload_n hx hb d_Writing_writeQuoted_21 rfl (lv_at hl 0 rfl) ?_
        refine zi_iconst hx hb d_Writing_writeQuoted_22 ?_
        refine zi_iadd hx hb d_Writing_writeQuoted_23 ?_
        refine lv_iload_n hx hb d_Writing_writeQuoted_24 rfl (lv_at hl 3 rfl) ?_
        rw [show ((kb : Nat) : Int) + 1 = ((kb + 1 : Nat) : Int) by omega]
        refine zcR (va_runV (As := [.int (iI ((kb + 1 : Nat) : Int)), .int (iI ((sp_off utf t j : Nat) : Int))]) (rest := []) S (c_Writing_peek l E w tx gr h en es rich uemp uunk 0 of0 utf t ((kb + 1 : Nat) : Int) ((sp_off utf t j : Nat) : Int) (by omega) (by omega)) ⟨zcwB (n := 2) S zw_700 zw_12 zw_697 (by decide +kernel) rfl rfl ⟨Nat.le_of_ble_eq_true rfl, Nat.le_of_ble_eq_true rfl⟩, S.2.2.2.2 _ zw_699, S.2.2.2.2 _ zs_9⟩ (zPreV hE (hP 0 _ rfl) rfl ⟨(hP 0 _ rfl), (zrowZ.row (zrowZ.fz hrowz hS hAZ))⟩) rfl rfl hl.1 rfl (lv_room (Nat.le_of_ble_eq_true rfl)) d_Writing_writeQuoted_25 ⟨by (try dsimp only); omega, by (try dsimp only); omega⟩) ?_
        rw [sp_pk_b (by omega)]
        have hsg := sp_see_ge (sp_encs utf t) (kb + 1) (sp_off utf t j)
        have hsu : sp_see (sp_encs utf t) (kb + 1) (sp_off utf t j) < 256 := by rw [← sp_pk_b (b := (sp_encs utf t)) (by omega)]; exact (sp_pk_r (sp_encs utf t) _ _ (zrow.lt (zrowZ.row (zrowZ.fz hrowz hS hAZ)))).2
        refine zi_bipush hx hb d_Writing_writeQuoted_28 (by decide) ?_
        refine zi_icmp_eq hx hb d_Writing_writeQuoted_30 rfl (by omega) (by omega) (fun h30 => ?_) (fun h30 => ?_)
        · have hqo := sp_qt_off utf hj (j - i) i (Nat.le_refl _) hij
          have hkq : kb = sp_off utf t (sp_qt t j i) := by rw [← hqo.1, ← h3]; first | rw [sp_qt_out (by omega)] | rw [sp_qt_step hke, if_pos ⟨by omega, by omega⟩]
          obtain ⟨qq, hqq⟩ : ∃ x, x = sp_qt t j i := ⟨_, rfl⟩
          rw [← hqq] at hqo hkq
          rw [← hqq]
          subst hkq
          have hl : lv_has ls 4 [(3, .int (iI ((sp_off utf t qq : Nat) : Int))), (0, .ref w), (1, .int (iI ((sp_off utf t i : Nat) : Int))), (2, .int (iI ((sp_off utf t j : Nat) : Int)))] := hl
          have hcl : sp_off utf t i + (sp_encs utf ((t.drop i).take (qq - i))).length = sp_off utf t qq := sp_off_slice utf (by omega) (by omega)
          have hbq := sp_off_le_len utf (t := t) (i := qq) (by omega)
          refine lv_aload_n hx hb d_Writing_writeQuoted_39 rfl (lv_at hl 1 rfl) ?_
          refine zgf S hE (ci := 8) rfl i_Writing (hP 0 _ rfl) 2 (by decide) zw_200 rfl d_Writing_writeQuoted_40 ?_
          refine lv_aload_n hx hb d_Writing_writeQuoted_43 rfl (lv_at hl 1 rfl) ?_
          refine zgf S hE (ci := 8) rfl i_Writing (hP 0 _ rfl) 0 (by decide) zw_198 rfl d_Writing_writeQuoted_44 ?_
          refine lv_iload_n hx hb d_Writing_writeQuoted_47 rfl (lv_at hl 2 rfl) ?_
          refine lv_iload_n hx hb d_Writing_writeQuoted_48 rfl (lv_at hl 0 rfl) ?_
          rw [show ((sp_off utf t qq : Nat) : Int) = ((sp_off utf t i + (sp_encs utf ((t.drop i).take (qq - i))).length : Nat) : Int) by omega]
          rcases hcp : sp_all utf ucp ((t.drop i).take (qq - i)) (out, mode, once) with _ | oF
          · skip
            have hpc : sp_pcap cap (sp_lift (qq + 2) (out, mode, once) none) = 262144 := sp_pcap_none
            have hPc := hP.sub (ws' := [(h, .inr (6, [.ref en, .ref ca, .ref rb, .ref (E.2.2.1 (mode + 1)), .ref (E.2.2.1 (once + 1)), .int (iI (bN false))])), (rb, .inr (1, [.int (iI 262144), .ref q, .int (iI ((out.length : Nat) : Int))])), (q, .inl (E.2.1 0, cap, .inl f))]) [2, 3, 4] rfl
            have hDc := hD.sub (ws' := [(h, .inr (6, [.ref en, .ref ca, .ref rb, .ref (E.2.2.1 (mode + 1)), .ref (E.2.2.1 (once + 1)), .int (iI (bN false))])), (rb, .inr (1, [.int (iI 262144), .ref q, .int (iI ((out.length : Nat) : Int))])), (q, .inl (E.2.1 0, cap, .inl f))]) [2, 3, 4] (by decide) rfl
            have hFc := va_free (wc := [(h, .inr (6, [.ref en, .ref ca, .ref rb, .ref (E.2.2.1 (mode + 1)), .ref (E.2.2.1 (once + 1)), .int (iI (bN false))])), (rb, .inr (1, [.int (iI 262144), .ref q, .int (iI ((out.length : Nat) : Int))])), (q, .inl (E.2.1 0, cap, .inl f))]) hD hS hA [2, 3, 4] rfl
            refine zcW (va_runV (As := [.ref tx, .int (iI ((sp_off utf t i : Nat) : Int)), .int (iI ((sp_off utf t i + (sp_encs utf ((t.drop i).take (qq - i))).length : Nat) : Int))]) (rest := []) S (c_Output_copy_full l E s.heap.size Z h rb q en ca cap mode once tx (sp_off utf t i) utf ucp f out (sp_encs utf t) ((t.drop i).take (qq - i)) (sp_encs utf (t.drop qq)) hB hF hc hmode honce (sp_off_slice2 utf (by omega)) (fun x hx => hoks x (List.mem_of_mem_drop (List.mem_of_mem_take hx))) (by omega) hcp) ⟨zcwB (n := 3) S zw_666 zw_8 zw_711 (by decide +kernel) rfl rfl ⟨Nat.le_of_ble_eq_true rfl, Nat.le_of_ble_eq_true rfl⟩, S.2.2.2.2 _ zw_664, S.2.2.2.2 _ zw_665⟩ (zPreV hE (hP 2 _ rfl) rfl ⟨rfl, hPc, hDc.weaken (fun _ _ _ h => ⟨hA0 _ h, fun z => hAZ _ z h⟩), (fun q z => Nat.lt_of_lt_of_le (hZb q z) hS.1), hze, hzc, (zfz hS hen (hAZ _ hze)), (zfz hS hca (hAZ _ hzc)), (zrowZ.fz hrowz hS hAZ)⟩) rfl rfl hl.1 rfl (lv_room (Nat.le_of_ble_eq_true rfl)) d_Writing_writeQuoted_49 ⟨by (try dsimp only); omega, by (try dsimp only); omega⟩) hS (fun q _ h => hFc q h) hFc (fun v H locs hq hz1 hk1 hS => ?_)
            obtain ⟨rfl, q2, f2, out2, hP1, hD1, hB2, hF2⟩ := hq
            obtain ⟨hP, hD⟩ := va_join (wr := [(w, .inr (8, [.ref tx, .ref gr, .ref h, .ref en, .ref es, .int (iI (bN rich)), .int (iI (bN uemp)), .int (iI (bN uunk)), .int (iI 0), .int (iI of0)])), (es, .inr (7, [.ref tx, .ref en, .int (iI ch), .int (iI nx)]))]) (w1 := [(h, .inr (6, [.ref en, .ref ca, .ref rb, .ref (E.2.2.1 (mode + 1)), .ref (E.2.2.1 (0 + 1)), .int (iI (bN true))])), (rb, .inr (1, [.int (iI 262144), .ref q2, .int (iI ((out2.length : Nat) : Int))])), (q2, .inl (E.2.1 0, 262144, .inl f2))]) hP hD [2, 3, 4] [0, 1] rfl rfl (by decide) (by decide) hk1 hFc hP1 hD1
            have hP : va_P E.1 zcl [(w, .inr (8, [.ref tx, .ref gr, .ref h, .ref en, .ref es, .int (iI (bN rich)), .int (iI (bN uemp)), .int (iI (bN uunk)), .int (iI 0), .int (iI of0)])), (es, .inr (7, [.ref tx, .ref en, .int (iI ch), .int (iI nx)])), (h, .inr (6, [.ref en, .ref ca, .ref rb, .ref (E.2.2.1 (mode + 1)), .ref (E.2.2.1 (0 + 1)), .int (iI (bN true))])), (rb, .inr (1, [.int (iI 262144), .ref q2, .int (iI ((out2.length : Nat) : Int))])), (q2, .inl (E.2.1 0, 262144, .inl f2))] H := hP
            have hD : va_D A [(w, .inr (8, [.ref tx, .ref gr, .ref h, .ref en, .ref es, .int (iI (bN rich)), .int (iI (bN uemp)), .int (iI (bN uunk)), .int (iI 0), .int (iI of0)])), (es, .inr (7, [.ref tx, .ref en, .int (iI ch), .int (iI nx)])), (h, .inr (6, [.ref en, .ref ca, .ref rb, .ref (E.2.2.1 (mode + 1)), .ref (E.2.2.1 (0 + 1)), .int (iI (bN true))])), (rb, .inr (1, [.int (iI 262144), .ref q2, .int (iI ((out2.length : Nat) : Int))])), (q2, .inl (E.2.1 0, 262144, .inl f2))] := hD
            have hE := hE0.at hS hA0
            have hnxt := sp_qt_next utf hij hj
            rw [← hqq] at hnxt
            refine lv_iload_n hx hb d_Writing_writeQuoted_52 rfl (lv_at hl 0 rfl) ?_
            refine zi_iconst hx hb d_Writing_writeQuoted_53 ?_
            refine zi_iadd hx hb d_Writing_writeQuoted_54 ?_
            exact zwi S hr hlk hS (zWr_full (qq + 2) (((sp_off utf t qq : Nat) : Int) + 2) (hP.sub (ws' := [(w, .inr (8, [.ref tx, .ref gr, .ref h, .ref en, .ref es, .int (iI (bN rich)), .int (iI (bN uemp)), .int (iI (bN uunk)), .int (iI 0), .int (iI of0)])), (es, .inr (7, [.ref tx, .ref en, .int (iI ch), .int (iI nx)])), (h, .inr (6, [.ref en, .ref ca, .ref rb, .ref (E.2.2.1 (mode + 1)), .ref (E.2.2.1 (0 + 1)), .int (iI (bN true))])), (rb, .inr (1, [.int (iI 262144), .ref q2, .int (iI ((out2.length : Nat) : Int))])), (q2, .inl (E.2.1 0, 262144, .inl f2))]) [0, 1, 2, 3, 4] rfl) (hD.sub (ws' := [(w, .inr (8, [.ref tx, .ref gr, .ref h, .ref en, .ref es, .int (iI (bN rich)), .int (iI (bN uemp)), .int (iI (bN uunk)), .int (iI 0), .int (iI of0)])), (es, .inr (7, [.ref tx, .ref en, .int (iI ch), .int (iI nx)])), (h, .inr (6, [.ref en, .ref ca, .ref rb, .ref (E.2.2.1 (mode + 1)), .ref (E.2.2.1 (0 + 1)), .int (iI (bN true))])), (rb, .inr (1, [.int (iI 262144), .ref q2, .int (iI ((out2.length : Nat) : Int))])), (q2, .inl (E.2.1 0, 262144, .inl f2))]) [0, 1, 2, 3, 4] (by decide) rfl) hB2 hF2 hmode ⟨by omega, by omega⟩) (by (try dsimp only); omega) (by (try dsimp only); omega) d_Writing_writeQuoted_55
          · skip
            have hpc : sp_pcap cap (sp_lift (qq + 2) (out, mode, once) (some oF)) = max cap (sp_up oF.1.length) := sp_pcap_some
            have hal := sp_all_len _ _ _ hcp
            have hPc := hP.sub (ws' := [(h, .inr (6, [.ref en, .ref ca, .ref rb, .ref (E.2.2.1 (mode + 1)), .ref (E.2.2.1 (once + 1)), .int (iI (bN false))])), (rb, .inr (1, [.int (iI 262144), .ref q, .int (iI ((out.length : Nat) : Int))])), (q, .inl (E.2.1 0, cap, .inl f))]) [2, 3, 4] rfl
            have hDc := hD.sub (ws' := [(h, .inr (6, [.ref en, .ref ca, .ref rb, .ref (E.2.2.1 (mode + 1)), .ref (E.2.2.1 (once + 1)), .int (iI (bN false))])), (rb, .inr (1, [.int (iI 262144), .ref q, .int (iI ((out.length : Nat) : Int))])), (q, .inl (E.2.1 0, cap, .inl f))]) [2, 3, 4] (by decide) rfl
            have hFc := va_free (wc := [(h, .inr (6, [.ref en, .ref ca, .ref rb, .ref (E.2.2.1 (mode + 1)), .ref (E.2.2.1 (once + 1)), .int (iI (bN false))])), (rb, .inr (1, [.int (iI 262144), .ref q, .int (iI ((out.length : Nat) : Int))])), (q, .inl (E.2.1 0, cap, .inl f))]) hD hS hA [2, 3, 4] rfl
            refine zcW (va_runV (As := [.ref tx, .int (iI ((sp_off utf t i : Nat) : Int)), .int (iI ((sp_off utf t i + (sp_encs utf ((t.drop i).take (qq - i))).length : Nat) : Int))]) (rest := []) S (c_Output_copy l E s.heap.size Z h rb q en ca cap mode once tx (sp_off utf t i) utf ucp f out (sp_encs utf t) ((t.drop i).take (qq - i)) (sp_encs utf (t.drop qq)) oF hB hF hc hmode honce (sp_off_slice2 utf (by omega)) (fun x hx => hoks x (List.mem_of_mem_drop (List.mem_of_mem_take hx))) (by omega) hcp) ⟨zcwB (n := 3) S zw_666 zw_8 zw_711 (by decide +kernel) rfl rfl ⟨Nat.le_of_ble_eq_true rfl, Nat.le_of_ble_eq_true rfl⟩, S.2.2.2.2 _ zw_664, S.2.2.2.2 _ zw_665⟩ (zPreV hE (hP 2 _ rfl) rfl ⟨rfl, hPc, hDc.weaken (fun _ _ _ h => ⟨hA0 _ h, fun z => hAZ _ z h⟩), (fun q z => Nat.lt_of_lt_of_le (hZb q z) hS.1), hze, hzc, (zfz hS hen (hAZ _ hze)), (zfz hS hca (hAZ _ hzc)), (zrowZ.fz hrowz hS hAZ)⟩) rfl rfl hl.1 rfl (lv_room (Nat.le_of_ble_eq_true rfl)) d_Writing_writeQuoted_49 ⟨by (try dsimp only); omega, by (try dsimp only); omega⟩) hS (fun q _ h => hFc q h) hFc (fun v H locs hq hz1 hk1 hS => ?_)
            obtain ⟨rfl, q2, f2, hP1, hD1, hB2, hF2⟩ := hq
            obtain ⟨hP, hD⟩ := va_join (wr := [(w, .inr (8, [.ref tx, .ref gr, .ref h, .ref en, .ref es, .int (iI (bN rich)), .int (iI (bN uemp)), .int (iI (bN uunk)), .int (iI 0), .int (iI of0)])), (es, .inr (7, [.ref tx, .ref en, .int (iI ch), .int (iI nx)]))]) (w1 := [(h, .inr (6, [.ref en, .ref ca, .ref rb, .ref (E.2.2.1 (oF.2.1 + 1)), .ref (E.2.2.1 (oF.2.2 + 1)), .int (iI (bN false))])), (rb, .inr (1, [.int (iI 262144), .ref q2, .int (iI ((oF.1.length : Nat) : Int))])), (q2, .inl (E.2.1 0, max cap (sp_up oF.1.length), .inl f2))]) hP hD [2, 3, 4] [0, 1] rfl rfl (by decide) (by decide) hk1 hFc hP1 hD1
            have hP : va_P E.1 zcl [(w, .inr (8, [.ref tx, .ref gr, .ref h, .ref en, .ref es, .int (iI (bN rich)), .int (iI (bN uemp)), .int (iI (bN uunk)), .int (iI 0), .int (iI of0)])), (es, .inr (7, [.ref tx, .ref en, .int (iI ch), .int (iI nx)])), (h, .inr (6, [.ref en, .ref ca, .ref rb, .ref (E.2.2.1 (oF.2.1 + 1)), .ref (E.2.2.1 (oF.2.2 + 1)), .int (iI (bN false))])), (rb, .inr (1, [.int (iI 262144), .ref q2, .int (iI ((oF.1.length : Nat) : Int))])), (q2, .inl (E.2.1 0, max cap (sp_up oF.1.length), .inl f2))] H := hP
            have hD : va_D A [(w, .inr (8, [.ref tx, .ref gr, .ref h, .ref en, .ref es, .int (iI (bN rich)), .int (iI (bN uemp)), .int (iI (bN uunk)), .int (iI 0), .int (iI of0)])), (es, .inr (7, [.ref tx, .ref en, .int (iI ch), .int (iI nx)])), (h, .inr (6, [.ref en, .ref ca, .ref rb, .ref (E.2.2.1 (oF.2.1 + 1)), .ref (E.2.2.1 (oF.2.2 + 1)), .int (iI (bN false))])), (rb, .inr (1, [.int (iI 262144), .ref q2, .int (iI ((oF.1.length : Nat) : Int))])), (q2, .inl (E.2.1 0, max cap (sp_up oF.1.length), .inl f2))] := hD
            have hE := hE0.at hS hA0
            have hnxt := sp_qt_next utf hij hj
            rw [← hqq] at hnxt
            refine lv_iload_n hx hb d_Writing_writeQuoted_52 rfl (lv_at hl 0 rfl) ?_
            refine zi_iconst hx hb d_Writing_writeQuoted_53 ?_
            refine zi_iadd hx hb d_Writing_writeQuoted_54 ?_
            exact zwi S hr hlk hS (zWr_some oF (qq + 2) (((sp_off utf t qq : Nat) : Int) + 2) (hP.sub (ws' := [(w, .inr (8, [.ref tx, .ref gr, .ref h, .ref en, .ref es, .int (iI (bN rich)), .int (iI (bN uemp)), .int (iI (bN uunk)), .int (iI 0), .int (iI of0)])), (es, .inr (7, [.ref tx, .ref en, .int (iI ch), .int (iI nx)])), (h, .inr (6, [.ref en, .ref ca, .ref rb, .ref (E.2.2.1 (oF.2.1 + 1)), .ref (E.2.2.1 (oF.2.2 + 1)), .int (iI (bN false))])), (rb, .inr (1, [.int (iI 262144), .ref q2, .int (iI ((oF.1.length : Nat) : Int))])), (q2, .inl (E.2.1 0, max cap (sp_up oF.1.length), .inl f2))]) [0, 1, 2, 3, 4] rfl) (hD.sub (ws' := [(w, .inr (8, [.ref tx, .ref gr, .ref h, .ref en, .ref es, .int (iI (bN rich)), .int (iI (bN uemp)), .int (iI (bN uunk)), .int (iI 0), .int (iI of0)])), (es, .inr (7, [.ref tx, .ref en, .int (iI ch), .int (iI nx)])), (h, .inr (6, [.ref en, .ref ca, .ref rb, .ref (E.2.2.1 (oF.2.1 + 1)), .ref (E.2.2.1 (oF.2.2 + 1)), .int (iI (bN false))])), (rb, .inr (1, [.int (iI 262144), .ref q2, .int (iI ((oF.1.length : Nat) : Int))])), (q2, .inl (E.2.1 0, max cap (sp_up oF.1.length), .inl f2))]) [0, 1, 2, 3, 4] (by decide) rfl) hB2 hF2 hc (by rw [hal.2.1]; exact hmode) (hal.2.2.1 honce) ⟨by omega, by omega⟩ hnxt.1 hnxt.2) (by (try dsimp only); omega) (by (try dsimp only); omega) d_Writing_writeQuoted_55
        · refine lv_iinc (k := 0) (v := iI ((kb + 1 : Nat) : Int)) (lv' := [(3, .int (iI ((kb + 1 : Nat) : Int))), (0, .ref w), (1, .int (iI ((sp_off utf t i : Nat) : Int))), (2, .int (iI ((sp_off utf t j : Nat) : Int)))]) hx hb d_Writing_writeQuoted_33 hl rfl (by rw [show Int32.ofInt 1 = iI 1 from rfl, iI_add]; congr 1 <;> omega) (by decide) rfl (fun ls hl => ?_)
          refine lv_goto hx hb d_Writing_writeQuoted_36 rfl ?_
          exact ih ls (kb + 1) (⟨by omega, by omega, by rw [← h3, sp_qt_step hke, if_neg (by omega)]⟩) (lv_sub hl [0, 1, 2, 3] rfl) (by omega)
