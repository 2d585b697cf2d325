/-! The reference's methods on a fresh object. -/
def zTh (E : zP) (mo : Nat) (T : Int) (H : Heap) : Prop := ∃ (a b c d c2 p2 : Nat) (sz cd n ba : Int) (rs : Bool), zO E 10 mo [.ref a, .ref b, .ref c, .ref d, .int (iI sz), .int (iI T), .int (iI cd), .int (iI (bN rs)), .ref c2, .ref p2, .int (iI n), .int (iI ba)] H
theorem zidiv4 {k : Nat} (h : k < 20) : iI ((k : Nat) : Int) / iI 4 = iI ((k / 4 : Nat) : Int) := (by decide +kernel : ∀ k, k < 20 → iI ((k : Nat) : Int) / iI 4 = iI ((k / 4 : Nat) : Int)) k h

set_option maxRecDepth 100000 in
set_option maxHeartbeats 4000000 in
theorem c_Mod_thrown (l : Launch) (E : zP) (mo a b c d c2 p2 : Nat) (sz T cd n ba : Int) (rs : Bool) : Met l y_Mod_thrown (.code y_Mod_thrown b_Mod_thrown 1 ( some FieldType.int ) :: zw) { frames := 0, cells := 0, slots := 0, locals := 0 } (zPc E [.ref mo] (zO E 10 mo [.ref a, .ref b, .ref c, .ref d, .int (iI sz), .int (iI T), .int (iI cd), .int (iI (bN rs)), .ref c2, .ref p2, .int (iI n), .int (iI ba)])) (zR (some (.int (iI T)))) 0 0 (fun _ => False) := by
  refine zMet (by decide) (Nat.le_of_ble_eq_true rfl) ?_
  intro p e s m below meth c ls S hr hlk hnm hE hX hl
  have hx := S.1
  have hb := S.2.1
  have hl : lv_has ls 1 [(0, .ref mo)] := hl
  refine lv_aload_n hx hb d_Mod_thrown_0 rfl (lv_at hl 0 rfl) ?_
  refine zgf S hE (ci := 10) rfl i_Mod hX 5 (by decide) zw_1012 rfl d_Mod_thrown_1 ?_
  exact zretI S hr hlk d_Mod_thrown_4 (rfl)

set_option maxRecDepth 100000 in
set_option maxHeartbeats 4000000 in
theorem c_Mod_refuse (l : Launch) (E : zP) (sz : Nat) (mo tb te ho xq cq pq : Nat) (sz9 th cd n ba k : Int) (b : Bool) : Met l y_Mod_refuse (.code y_Mod_refuse b_Mod_refuse 3 ( some FieldType.boolean ) :: zw) { frames := 0, cells := (0), slots := (0), locals := 0 } (zPc E [.ref mo, .int (iI k), .int (iI (bN b))] (fun H => H.size = sz ∧ va_P E.1 zcl [(mo, .inr (10, [.ref tb, .ref te, .ref ho, .ref xq, .int (iI sz9), .int (iI th), .int (iI cd), .int (iI (bN false)), .ref cq, .ref pq, .int (iI n), .int (iI ba)]))] H ∧ va_D (zOld E) [(mo, .inr (10, [.ref tb, .ref te, .ref ho, .ref xq, .int (iI sz9), .int (iI th), .int (iI cd), .int (iI (bN false)), .ref cq, .ref pq, .int (iI n), .int (iI ba)]))] ∧ (True))) (zW (fun v H => v = some (.int (iI (bN b))) ∧ va_P E.1 zcl [(mo, .inr (10, [.ref tb, .ref te, .ref ho, .ref xq, .int (iI sz9), .int (iI (if b = true then k else th)), .int (iI cd), .int (iI (bN false)), .ref cq, .ref pq, .int (iI n), .int (iI ba)]))] H ∧ va_D (va_A [(mo, .inr (10, [.ref tb, .ref te, .ref ho, .ref xq, .int (iI sz9), .int (iI th), .int (iI cd), .int (iI (bN false)), .ref cq, .ref pq, .int (iI n), .int (iI ba)]))] sz) [(mo, .inr (10, [.ref tb, .ref te, .ref ho, .ref xq, .int (iI sz9), .int (iI (if b = true then k else th)), .int (iI cd), .int (iI (bN false)), .ref cq, .ref pq, .int (iI n), .int (iI ba)]))]) (va_A [(mo, .inr (10, [.ref tb, .ref te, .ref ho, .ref xq, .int (iI sz9), .int (iI th), .int (iI cd), .int (iI (bN false)), .ref cq, .ref pq, .int (iI n), .int (iI ba)]))] sz)) (0) (0) (va_A [(mo, .inr (10, [.ref tb, .ref te, .ref ho, .ref xq, .int (iI sz9), .int (iI th), .int (iI cd), .int (iI (bN false)), .ref cq, .ref pq, .int (iI n), .int (iI ba)]))] sz) := by
  refine zMet (by decide) (Nat.le_of_ble_eq_true rfl) ?_
  intro p e s m below meth c ls S hr hlk hnm hE ⟨hsz, hP, hDo, hX⟩ hl
  have hx := S.1
  have hb := S.2.1
  have hE0 := hE
  have hl : lv_has ls 3 [(0, .ref mo), (1, .int (iI k)), (2, .int (iI (bN b)))] := hl
  subst hsz
  have hD := hDo.self (sz := s.heap.size)
  generalize hAe : va_A [(mo, .inr (10, [.ref tb, .ref te, .ref ho, .ref xq, .int (iI sz9), .int (iI th), .int (iI cd), .int (iI (bN false)), .ref cq, .ref pq, .int (iI n), .int (iI ba)]))] s.heap.size = A at hD ⊢
  have hA : ∀ q : Nat, s.heap.size ≤ q → A q := fun q h => by rw [← hAe]; exact Or.inr h
  have hA0 := zA0 hE hDo hAe
  have hS : va_S A s.heap s.heap [] := va_S.rf
  refine lv_iload_n hx hb d_Mod_refuse_0 rfl (lv_at hl 2 rfl) ?_
  refine zb_ifeq hx hb d_Mod_refuse_1 rfl (fun h1 => ?_) (fun h1 => ?_)
  · refine lv_iload_n hx hb d_Mod_refuse_9 rfl (lv_at hl 2 rfl) ?_
    exact zwz S hr hlk hS (⟨rfl, by first | (rw [if_pos h1]; exact hP) | (rw [if_neg (by rw [h1]; decide)]; exact hP), by first | (rw [if_pos h1]; exact hD) | (rw [if_neg (by rw [h1]; decide)]; exact hD)⟩) (by (try dsimp only); omega) (by (try dsimp only); omega) d_Mod_refuse_10
  · refine lv_aload_n hx hb d_Mod_refuse_4 rfl (lv_at hl 0 rfl) ?_
    refine lv_iload_n hx hb d_Mod_refuse_5 rfl (lv_at hl 1 rfl) ?_
    refine va_put (D := E.1) (ci := 10) (v := .int (iI k)) (ty := .int) (C := "ReplacementWriterModel") (T := F_Mod) (N := 12) hx hb S.2.2.2.2 i_Mod t_Mod t_Mod_ok n_Mod S.2.2.2.1 hE.1 hP hD hS 0 rfl rfl 5 (by decide) (S.2.2.2.2 _ zw_1012) (fun _ h9 => h9) rfl (by decide +kernel) rfl rfl (Nat.le_of_ble_eq_true rfl) d_Mod_refuse_6 (fun H locs hP hD hS => ?_)
    have hP : va_P E.1 zcl [(mo, .inr (10, [.ref tb, .ref te, .ref ho, .ref xq, .int (iI sz9), .int (iI k), .int (iI cd), .int (iI (bN false)), .ref cq, .ref pq, .int (iI n), .int (iI ba)]))] H := hP
    have hD : va_D A [(mo, .inr (10, [.ref tb, .ref te, .ref ho, .ref xq, .int (iI sz9), .int (iI k), .int (iI cd), .int (iI (bN false)), .ref cq, .ref pq, .int (iI n), .int (iI ba)]))] := hD
    have hE := hE0.at hS hA0
    refine lv_iload_n hx hb d_Mod_refuse_9 rfl (lv_at hl 2 rfl) ?_
    exact zwz S hr hlk hS (⟨rfl, by first | (rw [if_pos h1]; exact hP) | (rw [if_neg (by rw [h1]; decide)]; exact hP), by first | (rw [if_pos h1]; exact hD) | (rw [if_neg (by rw [h1]; decide)]; exact hD)⟩) (by (try dsimp only); omega) (by (try dsimp only); omega) d_Mod_refuse_10

set_option maxRecDepth 100000 in
set_option maxHeartbeats 4000000 in
theorem c_Mod_end (l : Launch) (E : zP) (sz : Nat) (mo tb te ho xq cq pq : Nat) (k T : Int) (hk : r32 k) (hT : T = if k = 0 then 0 else 1) : Met l y_Mod_end (.code y_Mod_end b_Mod_end 2 ( some FieldType.int ) :: zw) { frames := 1, cells := (0), slots := (0), locals := 22 } (zPc E [.ref mo, .int (iI k)] (fun H => H.size = sz ∧ va_P E.1 zcl [(mo, .inr (10, [.ref tb, .ref te, .ref ho, .ref xq, .int (iI 0), .int (iI 0), .int (iI 0), .int (iI (bN false)), .ref cq, .ref pq, .int (iI 0), .int (iI (-1))]))] H ∧ va_D (zOld E) [(mo, .inr (10, [.ref tb, .ref te, .ref ho, .ref xq, .int (iI 0), .int (iI 0), .int (iI 0), .int (iI (bN false)), .ref cq, .ref pq, .int (iI 0), .int (iI (-1))]))] ∧ (True))) (zW (fun v H => v = some (.int (iI 0)) ∧ zTh E mo T H) (va_A [(mo, .inr (10, [.ref tb, .ref te, .ref ho, .ref xq, .int (iI 0), .int (iI 0), .int (iI 0), .int (iI (bN false)), .ref cq, .ref pq, .int (iI 0), .int (iI (-1))]))] sz)) (0) (0) (va_A [(mo, .inr (10, [.ref tb, .ref te, .ref ho, .ref xq, .int (iI 0), .int (iI 0), .int (iI 0), .int (iI (bN false)), .ref cq, .ref pq, .int (iI 0), .int (iI (-1))]))] sz) := by
  refine zMet (by decide) (Nat.le_of_ble_eq_true rfl) ?_
  intro p e s m below meth c ls S hr hlk hnm hE ⟨hsz, hP, hDo, hX⟩ hl
  have hx := S.1
  have hb := S.2.1
  have hE0 := hE
  have hl : lv_has ls 2 [(0, .ref mo), (1, .int (iI k))] := hl
  subst hsz
  have hD := hDo.self (sz := s.heap.size)
  generalize hAe : va_A [(mo, .inr (10, [.ref tb, .ref te, .ref ho, .ref xq, .int (iI 0), .int (iI 0), .int (iI 0), .int (iI (bN false)), .ref cq, .ref pq, .int (iI 0), .int (iI (-1))]))] s.heap.size = A at hD ⊢
  have hA : ∀ q : Nat, s.heap.size ≤ q → A q := fun q h => by rw [← hAe]; exact Or.inr h
  have hA0 := zA0 hE hDo hAe
  have hS : va_S A s.heap s.heap [] := va_S.rf
  obtain ⟨hka, hkb⟩ := hk
  refine lv_aload_n hx hb d_Mod_end_0 rfl (lv_at hl 0 rfl) ?_
  refine zi_iconst hx hb d_Mod_end_1 ?_
  refine va_put (D := E.1) (ci := 10) (v := .int (iI 0)) (ty := .int) (C := "ReplacementWriterModel") (T := F_Mod) (N := 12) hx hb S.2.2.2.2 i_Mod t_Mod t_Mod_ok n_Mod S.2.2.2.1 hE.1 hP hD hS 0 rfl rfl 5 (by decide) (S.2.2.2.2 _ zw_1012) (fun _ h9 => h9) rfl (by decide +kernel) rfl rfl (Nat.le_of_ble_eq_true rfl) d_Mod_end_2 (fun H locs hP hD hS => ?_)
  have hP : va_P E.1 zcl [(mo, .inr (10, [.ref tb, .ref te, .ref ho, .ref xq, .int (iI 0), .int (iI 0), .int (iI 0), .int (iI (bN false)), .ref cq, .ref pq, .int (iI 0), .int (iI (-1))]))] H := hP
  have hD : va_D A [(mo, .inr (10, [.ref tb, .ref te, .ref ho, .ref xq, .int (iI 0), .int (iI 0), .int (iI 0), .int (iI (bN false)), .ref cq, .ref pq, .int (iI 0), .int (iI (-1))]))] := hD
  have hE := hE0.at hS hA0
  refine lv_aload_n hx hb d_Mod_end_5 rfl (lv_at hl 0 rfl) ?_
  refine zi_iconst hx hb d_Mod_end_6 ?_
  refine lv_iload_n hx hb d_Mod_end_7 rfl (lv_at hl 1 rfl) ?_
  refine zi_if_lt hx hb d_Mod_end_8 rfl (by omega) (fun h8 => ?_) (fun h8 => ?_)
  · refine zi_iconst hx hb d_Mod_end_19 ?_
    refine lv_goto hx hb d_Mod_end_20 rfl ?_
    have hPc := hP.sub (ws' := [(mo, .inr (10, [.ref tb, .ref te, .ref ho, .ref xq, .int (iI 0), .int (iI 0), .int (iI 0), .int (iI (bN false)), .ref cq, .ref pq, .int (iI 0), .int (iI (-1))]))]) [0] rfl
    have hDc := hD.sub (ws' := [(mo, .inr (10, [.ref tb, .ref te, .ref ho, .ref xq, .int (iI 0), .int (iI 0), .int (iI 0), .int (iI (bN false)), .ref cq, .ref pq, .int (iI 0), .int (iI (-1))]))]) [0] (by decide) rfl
    have hFc := va_free (wc := [(mo, .inr (10, [.ref tb, .ref te, .ref ho, .ref xq, .int (iI 0), .int (iI 0), .int (iI 0), .int (iI (bN false)), .ref cq, .ref pq, .int (iI 0), .int (iI (-1))]))]) hD hS hA [0] rfl
    refine zcW (va_runV (As := [.int (iI 1), .int (iI (bN true))]) (rest := []) S (c_Mod_refuse l E _ mo tb te ho xq cq pq 0 0 0 0 (-1) 1 true) ⟨zcwB (n := 2) S zw_1056 zw_14 zw_1053 (by decide +kernel) rfl rfl ⟨Nat.le_of_ble_eq_true rfl, Nat.le_of_ble_eq_true rfl⟩, S.2.2.2.2 _ zw_1055, S.2.2.2.2 _ zs_30⟩ (zPreV hE (hP 0 _ rfl) rfl ⟨rfl, hPc, hDc.weaken (fun _ _ _ h => hA0 _ h), trivial⟩) rfl rfl hl.1 rfl (lv_room (Nat.le_of_ble_eq_true rfl)) d_Mod_end_24 ⟨by (try dsimp only); omega, by (try dsimp only); omega⟩) hS (fun q _ h => hFc q h) hFc (fun v H locs hq hz1 hk1 hS => ?_)
    obtain ⟨rfl, hP1, hD1⟩ := hq
    obtain ⟨hP, hD⟩ := va_join (wr := []) (w1 := [(mo, .inr (10, [.ref tb, .ref te, .ref ho, .ref xq, .int (iI 0), .int (iI 1), .int (iI 0), .int (iI (bN false)), .ref cq, .ref pq, .int (iI 0), .int (iI (-1))]))]) hP hD [0] [] rfl rfl (by decide) (by decide) hk1 hFc hP1 hD1
    have hP : va_P E.1 zcl [(mo, .inr (10, [.ref tb, .ref te, .ref ho, .ref xq, .int (iI 0), .int (iI 1), .int (iI 0), .int (iI (bN false)), .ref cq, .ref pq, .int (iI 0), .int (iI (-1))]))] H := hP
    have hD : va_D A [(mo, .inr (10, [.ref tb, .ref te, .ref ho, .ref xq, .int (iI 0), .int (iI 1), .int (iI 0), .int (iI (bN false)), .ref cq, .ref pq, .int (iI 0), .int (iI (-1))]))] := hD
    have hE := hE0.at hS hA0
    refine W.eq (g2 := F0 m 27 ls ([.int (iI 1)])) rfl ?_
    refine zi_if_eq hx hb d_Mod_end_27 rfl (by omega) (fun h27 => absurd h27 (by omega)) (fun h27 => ?_)
    refine zi_iconst hx hb d_Mod_end_30 ?_
    exact zwi S hr hlk hS (⟨rfl, by rw [show T = 1 by rw [hT]; first | exact if_pos (by omega) | exact if_neg (by omega)]; exact ⟨_, _, _, _, _, _, _, _, _, _, _, (hP 0 _ rfl)⟩⟩) (by (try dsimp only); omega) (by (try dsimp only); omega) d_Mod_end_31
  · refine lv_iload_n hx hb d_Mod_end_11 rfl (lv_at hl 1 rfl) ?_
    refine lv_aload_n hx hb d_Mod_end_12 rfl (lv_at hl 0 rfl) ?_
    refine zgf S hE (ci := 10) rfl i_Mod (hP 0 _ rfl) 4 (by decide) zw_1011 rfl d_Mod_end_13 ?_
    refine zi_icmp_le hx hb d_Mod_end_16 rfl (by omega) (by omega) (fun h16 => ?_) (fun h16 => ?_)
    · refine zi_iconst hx hb d_Mod_end_23 ?_
      have hPc := hP.sub (ws' := [(mo, .inr (10, [.ref tb, .ref te, .ref ho, .ref xq, .int (iI 0), .int (iI 0), .int (iI 0), .int (iI (bN false)), .ref cq, .ref pq, .int (iI 0), .int (iI (-1))]))]) [0] rfl
      have hDc := hD.sub (ws' := [(mo, .inr (10, [.ref tb, .ref te, .ref ho, .ref xq, .int (iI 0), .int (iI 0), .int (iI 0), .int (iI (bN false)), .ref cq, .ref pq, .int (iI 0), .int (iI (-1))]))]) [0] (by decide) rfl
      have hFc := va_free (wc := [(mo, .inr (10, [.ref tb, .ref te, .ref ho, .ref xq, .int (iI 0), .int (iI 0), .int (iI 0), .int (iI (bN false)), .ref cq, .ref pq, .int (iI 0), .int (iI (-1))]))]) hD hS hA [0] rfl
      refine zcW (va_runV (As := [.int (iI 1), .int (iI (bN false))]) (rest := []) S (c_Mod_refuse l E _ mo tb te ho xq cq pq 0 0 0 0 (-1) 1 false) ⟨zcwB (n := 2) S zw_1056 zw_14 zw_1053 (by decide +kernel) rfl rfl ⟨Nat.le_of_ble_eq_true rfl, Nat.le_of_ble_eq_true rfl⟩, S.2.2.2.2 _ zw_1055, S.2.2.2.2 _ zs_30⟩ (zPreV hE (hP 0 _ rfl) rfl ⟨rfl, hPc, hDc.weaken (fun _ _ _ h => hA0 _ h), trivial⟩) rfl rfl hl.1 rfl (lv_room (Nat.le_of_ble_eq_true rfl)) d_Mod_end_24 ⟨by (try dsimp only); omega, by (try dsimp only); omega⟩) hS (fun q _ h => hFc q h) hFc (fun v H locs hq hz1 hk1 hS => ?_)
      obtain ⟨rfl, hP1, hD1⟩ := hq
      obtain ⟨hP, hD⟩ := va_join (wr := []) (w1 := [(mo, .inr (10, [.ref tb, .ref te, .ref ho, .ref xq, .int (iI 0), .int (iI 0), .int (iI 0), .int (iI (bN false)), .ref cq, .ref pq, .int (iI 0), .int (iI (-1))]))]) hP hD [0] [] rfl rfl (by decide) (by decide) hk1 hFc hP1 hD1
      have hP : va_P E.1 zcl [(mo, .inr (10, [.ref tb, .ref te, .ref ho, .ref xq, .int (iI 0), .int (iI 0), .int (iI 0), .int (iI (bN false)), .ref cq, .ref pq, .int (iI 0), .int (iI (-1))]))] H := hP
      have hD : va_D A [(mo, .inr (10, [.ref tb, .ref te, .ref ho, .ref xq, .int (iI 0), .int (iI 0), .int (iI 0), .int (iI (bN false)), .ref cq, .ref pq, .int (iI 0), .int (iI (-1))]))] := hD
      have hE := hE0.at hS hA0
      refine W.eq (g2 := F0 m 27 ls ([.int (iI 0)])) rfl ?_
      refine zi_if_eq hx hb d_Mod_end_27 rfl (by omega) (fun h27 => ?_) (fun h27 => absurd h27 (by omega))
      refine lv_aload_n hx hb d_Mod_end_32 rfl (lv_at hl 0 rfl) ?_
      refine lv_iload_n hx hb d_Mod_end_33 rfl (lv_at hl 1 rfl) ?_
      refine va_put (D := E.1) (ci := 10) (v := .int (iI k)) (ty := .int) (C := "ReplacementWriterModel") (T := F_Mod) (N := 12) hx hb S.2.2.2.2 i_Mod t_Mod t_Mod_ok n_Mod S.2.2.2.1 hE.1 hP hD hS 0 rfl rfl 4 (by decide) (S.2.2.2.2 _ zw_1011) (fun _ h9 => h9) rfl (by decide +kernel) rfl rfl (Nat.le_of_ble_eq_true rfl) d_Mod_end_34 (fun H locs hP hD hS => ?_)
      have hP : va_P E.1 zcl [(mo, .inr (10, [.ref tb, .ref te, .ref ho, .ref xq, .int (iI k), .int (iI 0), .int (iI 0), .int (iI (bN false)), .ref cq, .ref pq, .int (iI 0), .int (iI (-1))]))] H := hP
      have hD : va_D A [(mo, .inr (10, [.ref tb, .ref te, .ref ho, .ref xq, .int (iI k), .int (iI 0), .int (iI 0), .int (iI (bN false)), .ref cq, .ref pq, .int (iI 0), .int (iI (-1))]))] := hD
      have hE := hE0.at hS hA0
      refine lv_iload_n hx hb d_Mod_end_37 rfl (lv_at hl 1 rfl) ?_
      exact zwi S hr hlk hS (⟨by rw [show k = 0 by omega], by rw [show T = 0 by rw [hT]; first | exact if_pos (by omega) | exact if_neg (by omega)]; exact ⟨_, _, _, _, _, _, _, _, _, _, _, (hP 0 _ rfl)⟩⟩) (by (try dsimp only); omega) (by (try dsimp only); omega) d_Mod_end_38
    · refine zi_iconst hx hb d_Mod_end_19 ?_
      refine lv_goto hx hb d_Mod_end_20 rfl ?_
      have hPc := hP.sub (ws' := [(mo, .inr (10, [.ref tb, .ref te, .ref ho, .ref xq, .int (iI 0), .int (iI 0), .int (iI 0), .int (iI (bN false)), .ref cq, .ref pq, .int (iI 0), .int (iI (-1))]))]) [0] rfl
      have hDc := hD.sub (ws' := [(mo, .inr (10, [.ref tb, .ref te, .ref ho, .ref xq, .int (iI 0), .int (iI 0), .int (iI 0), .int (iI (bN false)), .ref cq, .ref pq, .int (iI 0), .int (iI (-1))]))]) [0] (by decide) rfl
      have hFc := va_free (wc := [(mo, .inr (10, [.ref tb, .ref te, .ref ho, .ref xq, .int (iI 0), .int (iI 0), .int (iI 0), .int (iI (bN false)), .ref cq, .ref pq, .int (iI 0), .int (iI (-1))]))]) hD hS hA [0] rfl
      refine zcW (va_runV (As := [.int (iI 1), .int (iI (bN true))]) (rest := []) S (c_Mod_refuse l E _ mo tb te ho xq cq pq 0 0 0 0 (-1) 1 true) ⟨zcwB (n := 2) S zw_1056 zw_14 zw_1053 (by decide +kernel) rfl rfl ⟨Nat.le_of_ble_eq_true rfl, Nat.le_of_ble_eq_true rfl⟩, S.2.2.2.2 _ zw_1055, S.2.2.2.2 _ zs_30⟩ (zPreV hE (hP 0 _ rfl) rfl ⟨rfl, hPc, hDc.weaken (fun _ _ _ h => hA0 _ h), trivial⟩) rfl rfl hl.1 rfl (lv_room (Nat.le_of_ble_eq_true rfl)) d_Mod_end_24 ⟨by (try dsimp only); omega, by (try dsimp only); omega⟩) hS (fun q _ h => hFc q h) hFc (fun v H locs hq hz1 hk1 hS => ?_)
      obtain ⟨rfl, hP1, hD1⟩ := hq
      obtain ⟨hP, hD⟩ := va_join (wr := []) (w1 := [(mo, .inr (10, [.ref tb, .ref te, .ref ho, .ref xq, .int (iI 0), .int (iI 1), .int (iI 0), .int (iI (bN false)), .ref cq, .ref pq, .int (iI 0), .int (iI (-1))]))]) hP hD [0] [] rfl rfl (by decide) (by decide) hk1 hFc hP1 hD1
      have hP : va_P E.1 zcl [(mo, .inr (10, [.ref tb, .ref te, .ref ho, .ref xq, .int (iI 0), .int (iI 1), .int (iI 0), .int (iI (bN false)), .ref cq, .ref pq, .int (iI 0), .int (iI (-1))]))] H := hP
      have hD : va_D A [(mo, .inr (10, [.ref tb, .ref te, .ref ho, .ref xq, .int (iI 0), .int (iI 1), .int (iI 0), .int (iI (bN false)), .ref cq, .ref pq, .int (iI 0), .int (iI (-1))]))] := hD
      have hE := hE0.at hS hA0
      refine W.eq (g2 := F0 m 27 ls ([.int (iI 1)])) rfl ?_
      refine zi_if_eq hx hb d_Mod_end_27 rfl (by omega) (fun h27 => absurd h27 (by omega)) (fun h27 => ?_)
      refine zi_iconst hx hb d_Mod_end_30 ?_
      exact zwi S hr hlk hS (⟨rfl, by rw [show T = 1 by rw [hT]; first | exact if_pos (by omega) | exact if_neg (by omega)]; exact ⟨_, _, _, _, _, _, _, _, _, _, _, (hP 0 _ rfl)⟩⟩) (by (try dsimp only); omega) (by (try dsimp only); omega) d_Mod_end_31

set_option maxRecDepth 100000 in
set_option maxHeartbeats 4000000 in
theorem c_Mod_characters (l : Launch) (E : zP) (sz : Nat) (mo tb te ho xq cq pq : Nat) (th : Int) : Met l y_Mod_characters (.code y_Mod_characters b_Mod_characters 7 ( some FieldType.int ) :: zw) { frames := 0, cells := (0), slots := (0), locals := 0 } (zPc E [.ref mo] (fun H => H.size = sz ∧ va_P E.1 zcl [(mo, .inr (10, [.ref tb, .ref te, .ref ho, .ref xq, .int (iI 0), .int (iI th), .int (iI 0), .int (iI (bN false)), .ref cq, .ref pq, .int (iI 0), .int (iI (-1))]))] H ∧ va_D (zOld E) [(mo, .inr (10, [.ref tb, .ref te, .ref ho, .ref xq, .int (iI 0), .int (iI th), .int (iI 0), .int (iI (bN false)), .ref cq, .ref pq, .int (iI 0), .int (iI (-1))]))] ∧ (True))) (zW (fun v H => v = some (.int (iI (-1))) ∧ va_P E.1 zcl [(mo, .inr (10, [.ref tb, .ref te, .ref ho, .ref xq, .int (iI 0), .int (iI th), .int (iI 0), .int (iI (bN false)), .ref cq, .ref pq, .int (iI 0), .int (iI (-1))]))] H ∧ va_D (va_A [(mo, .inr (10, [.ref tb, .ref te, .ref ho, .ref xq, .int (iI 0), .int (iI th), .int (iI 0), .int (iI (bN false)), .ref cq, .ref pq, .int (iI 0), .int (iI (-1))]))] sz) [(mo, .inr (10, [.ref tb, .ref te, .ref ho, .ref xq, .int (iI 0), .int (iI th), .int (iI 0), .int (iI (bN false)), .ref cq, .ref pq, .int (iI 0), .int (iI (-1))]))]) (va_A [(mo, .inr (10, [.ref tb, .ref te, .ref ho, .ref xq, .int (iI 0), .int (iI th), .int (iI 0), .int (iI (bN false)), .ref cq, .ref pq, .int (iI 0), .int (iI (-1))]))] sz)) (0) (0) (va_A [(mo, .inr (10, [.ref tb, .ref te, .ref ho, .ref xq, .int (iI 0), .int (iI th), .int (iI 0), .int (iI (bN false)), .ref cq, .ref pq, .int (iI 0), .int (iI (-1))]))] sz) := by
  refine zMet (by decide) (Nat.le_of_ble_eq_true rfl) ?_
  intro p e s m below meth c ls S hr hlk hnm hE ⟨hsz, hP, hDo, hX⟩ hl
  have hx := S.1
  have hb := S.2.1
  have hE0 := hE
  have hl : lv_has ls 7 [(0, .ref mo)] := hl
  subst hsz
  have hD := hDo.self (sz := s.heap.size)
  generalize hAe : va_A [(mo, .inr (10, [.ref tb, .ref te, .ref ho, .ref xq, .int (iI 0), .int (iI th), .int (iI 0), .int (iI (bN false)), .ref cq, .ref pq, .int (iI 0), .int (iI (-1))]))] s.heap.size = A at hD ⊢
  have hA : ∀ q : Nat, s.heap.size ≤ q → A q := fun q h => by rw [← hAe]; exact Or.inr h
  have hA0 := zA0 hE hDo hAe
  have hS : va_S A s.heap s.heap [] := va_S.rf
  refine lv_aload_n hx hb d_Mod_characters_0 rfl (lv_at hl 0 rfl) ?_
  refine zi_iconst hx hb d_Mod_characters_1 ?_
  refine va_put (D := E.1) (ci := 10) (v := .int (iI 0)) (ty := .int) (C := "ReplacementWriterModel") (T := F_Mod) (N := 12) hx hb S.2.2.2.2 i_Mod t_Mod t_Mod_ok n_Mod S.2.2.2.1 hE.1 hP hD hS 0 rfl rfl 10 (by decide) (S.2.2.2.2 _ zw_1017) (fun _ h9 => h9) rfl (by decide +kernel) rfl rfl (Nat.le_of_ble_eq_true rfl) d_Mod_characters_2 (fun H locs hP hD hS => ?_)
  have hP : va_P E.1 zcl [(mo, .inr (10, [.ref tb, .ref te, .ref ho, .ref xq, .int (iI 0), .int (iI th), .int (iI 0), .int (iI (bN false)), .ref cq, .ref pq, .int (iI 0), .int (iI (-1))]))] H := hP
  have hD : va_D A [(mo, .inr (10, [.ref tb, .ref te, .ref ho, .ref xq, .int (iI 0), .int (iI th), .int (iI 0), .int (iI (bN false)), .ref cq, .ref pq, .int (iI 0), .int (iI (-1))]))] := hD
  have hE := hE0.at hS hA0
  refine zi_iconst hx hb d_Mod_characters_5 ?_
  refine lv_istore_n (lv' := [(1, .int (iI 0)), (0, .ref mo)]) hx hb d_Mod_characters_6 rfl hl (by decide) rfl (fun ls hl => ?_)
  refine lv_aload_n hx hb d_Mod_characters_7 rfl (lv_at hl 1 rfl) ?_
  refine zgf S hE (ci := 10) rfl i_Mod (hP 0 _ rfl) 4 (by decide) zw_1011 rfl d_Mod_characters_8 ?_
  refine lv_istore_n (lv' := [(2, .int (iI 0)), (1, .int (iI 0)), (0, .ref mo)]) hx hb d_Mod_characters_11 rfl hl (by decide) rfl (fun ls hl => ?_)
  refine lv_aload_n hx hb d_Mod_characters_12 rfl (lv_at hl 2 rfl) ?_
  refine zi_iconst hx hb d_Mod_characters_13 ?_
  refine va_put (D := E.1) (ci := 10) (v := .int (iI 0)) (ty := .int) (C := "ReplacementWriterModel") (T := F_Mod) (N := 12) hx hb S.2.2.2.2 i_Mod t_Mod t_Mod_ok n_Mod S.2.2.2.1 hE.1 hP hD hS 0 rfl rfl 4 (by decide) (S.2.2.2.2 _ zw_1011) (fun _ h9 => h9) rfl (by decide +kernel) rfl rfl (Nat.le_of_ble_eq_true rfl) d_Mod_characters_14 (fun H locs hP hD hS => ?_)
  have hP : va_P E.1 zcl [(mo, .inr (10, [.ref tb, .ref te, .ref ho, .ref xq, .int (iI 0), .int (iI th), .int (iI 0), .int (iI (bN false)), .ref cq, .ref pq, .int (iI 0), .int (iI (-1))]))] H := hP
  have hD : va_D A [(mo, .inr (10, [.ref tb, .ref te, .ref ho, .ref xq, .int (iI 0), .int (iI th), .int (iI 0), .int (iI (bN false)), .ref cq, .ref pq, .int (iI 0), .int (iI (-1))]))] := hD
  have hE := hE0.at hS hA0
  refine lv_iload_n hx hb d_Mod_characters_17 rfl (lv_at hl 1 rfl) ?_
  refine lv_iload_n hx hb d_Mod_characters_18 rfl (lv_at hl 0 rfl) ?_
  refine zi_icmp_ge hx hb d_Mod_characters_19 rfl (by omega) (by omega) (fun h19 => ?_) (fun h => absurd h (by omega))
  refine zi_iconst hx hb d_Mod_characters_299 ?_
  exact zwi S hr hlk hS (⟨rfl, hP, hD⟩) (by (try dsimp only); omega) (by (try dsimp only); omega) d_Mod_characters_300

set_option maxRecDepth 100000 in
set_option maxHeartbeats 4000000 in
theorem c_Mod_taken (l : Launch) (E : zP) (sz : Nat) (mo tb te ho xq cq pq : Nat) (th : Int) (fc : Nat → Int32) : Met l y_Mod_taken (.code y_Mod_taken b_Mod_taken 2 ( some ( FieldType.array FieldType.int ) ) :: zw) { frames := 1, cells := (1), slots := (0), locals := 39 } (zPc E [.ref mo] (fun H => H.size = sz ∧ va_P E.1 zcl [(mo, .inr (10, [.ref tb, .ref te, .ref ho, .ref xq, .int (iI 0), .int (iI th), .int (iI 0), .int (iI (bN false)), .ref cq, .ref pq, .int (iI 0), .int (iI (-1))])), (cq, .inl (E.2.1 2, 65536, .inl fc))] H ∧ va_D (zOld E) [(mo, .inr (10, [.ref tb, .ref te, .ref ho, .ref xq, .int (iI 0), .int (iI th), .int (iI 0), .int (iI (bN false)), .ref cq, .ref pq, .int (iI 0), .int (iI (-1))])), (cq, .inl (E.2.1 2, 65536, .inl fc))] ∧ (True))) (zW (fun v H => ∃ (w9 : Nat) (fw : Nat → Int32), v = some (.ref w9) ∧ va_P E.1 zcl [(mo, .inr (10, [.ref tb, .ref te, .ref ho, .ref xq, .int (iI 0), .int (iI th), .int (iI 0), .int (iI (bN false)), .ref cq, .ref pq, .int (iI 0), .int (iI (-1))])), (cq, .inl (E.2.1 2, 65536, .inl fc)), (w9, .inl (E.2.1 2, 0, .inl fw))] H ∧ va_D (va_A [(mo, .inr (10, [.ref tb, .ref te, .ref ho, .ref xq, .int (iI 0), .int (iI th), .int (iI 0), .int (iI (bN false)), .ref cq, .ref pq, .int (iI 0), .int (iI (-1))])), (cq, .inl (E.2.1 2, 65536, .inl fc))] sz) [(mo, .inr (10, [.ref tb, .ref te, .ref ho, .ref xq, .int (iI 0), .int (iI th), .int (iI 0), .int (iI (bN false)), .ref cq, .ref pq, .int (iI 0), .int (iI (-1))])), (cq, .inl (E.2.1 2, 65536, .inl fc)), (w9, .inl (E.2.1 2, 0, .inl fw))]) (va_A [(mo, .inr (10, [.ref tb, .ref te, .ref ho, .ref xq, .int (iI 0), .int (iI th), .int (iI 0), .int (iI (bN false)), .ref cq, .ref pq, .int (iI 0), .int (iI (-1))])), (cq, .inl (E.2.1 2, 65536, .inl fc))] sz)) (1) (0) (va_A [(mo, .inr (10, [.ref tb, .ref te, .ref ho, .ref xq, .int (iI 0), .int (iI th), .int (iI 0), .int (iI (bN false)), .ref cq, .ref pq, .int (iI 0), .int (iI (-1))])), (cq, .inl (E.2.1 2, 65536, .inl fc))] sz) := by
  refine zMet (by decide) (Nat.le_of_ble_eq_true rfl) ?_
  intro p e s m below meth c ls S hr hlk hnm hE ⟨hsz, hP, hDo, hX⟩ hl
  have hx := S.1
  have hb := S.2.1
  have hE0 := hE
  have hl : lv_has ls 2 [(0, .ref mo)] := hl
  subst hsz
  have hD := hDo.self (sz := s.heap.size)
  generalize hAe : va_A [(mo, .inr (10, [.ref tb, .ref te, .ref ho, .ref xq, .int (iI 0), .int (iI th), .int (iI 0), .int (iI (bN false)), .ref cq, .ref pq, .int (iI 0), .int (iI (-1))])), (cq, .inl (E.2.1 2, 65536, .inl fc))] s.heap.size = A at hD ⊢
  have hA : ∀ q : Nat, s.heap.size ≤ q → A q := fun q h => by rw [← hAe]; exact Or.inr h
  have hA0 := zA0 hE hDo hAe
  have hS : va_S A s.heap s.heap [] := va_S.rf
  refine lv_aload_n hx hb d_Mod_taken_0 rfl (lv_at hl 0 rfl) ?_
  refine zgf S hE (ci := 10) rfl i_Mod (hP 0 _ rfl) 10 (by decide) zw_1017 rfl d_Mod_taken_1 ?_
  refine znewa (atype := .int) (k := 2) (N := 0) (a0 := (0, .inl (fun _ => 0))) S hE zw_917 rfl (zfc2 hE) hP hD hS hA (fun _ => rfl) (by omega) (by omega) (by omega) (by show _ * 4 ≤ _; omega) (by (try dsimp only); omega) (by (try dsimp only); omega) d_Mod_taken_4 (fun w9 H hP hD hS => ?_)
  have hP : va_P E.1 zcl [(mo, .inr (10, [.ref tb, .ref te, .ref ho, .ref xq, .int (iI 0), .int (iI th), .int (iI 0), .int (iI (bN false)), .ref cq, .ref pq, .int (iI 0), .int (iI (-1))])), (cq, .inl (E.2.1 2, 65536, .inl fc)), (w9, .inl (E.2.1 2, 0, .inl (fun _ => 0)))] H := hP
  have hD : va_D A [(mo, .inr (10, [.ref tb, .ref te, .ref ho, .ref xq, .int (iI 0), .int (iI th), .int (iI 0), .int (iI (bN false)), .ref cq, .ref pq, .int (iI 0), .int (iI (-1))])), (cq, .inl (E.2.1 2, 65536, .inl fc)), (w9, .inl (E.2.1 2, 0, .inl (fun _ => 0)))] := hD
  have hE := hE0.at hS hA0
  refine lv_astore_n (lv' := [(1, .ref w9), (0, .ref mo)]) hx hb d_Mod_taken_6 rfl hl (by decide) rfl (fun ls hl => ?_)
  refine lv_aload_n hx hb d_Mod_taken_7 rfl (lv_at hl 1 rfl) ?_
  refine zgf S hE (ci := 10) rfl i_Mod (hP 0 _ rfl) 8 (by decide) zw_1015 rfl d_Mod_taken_8 ?_
  refine zi_iconst hx hb d_Mod_taken_11 ?_
  refine lv_aload_n hx hb d_Mod_taken_12 rfl (lv_at hl 0 rfl) ?_
  refine zi_iconst hx hb d_Mod_taken_13 ?_
  refine lv_aload_n hx hb d_Mod_taken_14 rfl (lv_at hl 1 rfl) ?_
  refine zgf S hE (ci := 10) rfl i_Mod (hP 0 _ rfl) 10 (by decide) zw_1017 rfl d_Mod_taken_15 ?_
  refine zcopy S zw_1081 hE hP hD hS 1 2 2 rfl rfl rfl rfl rfl (by omega) (by omega) (by omega) (by omega) (by omega) (fun _ _ => rfl) hl.1 (Nat.le_of_ble_eq_true rfl) (by (try dsimp only); decide) d_Mod_taken_18 (fun H locs hP hD hS => ?_)
  have hP : va_P E.1 zcl [(mo, .inr (10, [.ref tb, .ref te, .ref ho, .ref xq, .int (iI 0), .int (iI th), .int (iI 0), .int (iI (bN false)), .ref cq, .ref pq, .int (iI 0), .int (iI (-1))])), (cq, .inl (E.2.1 2, 65536, .inl fc)), (w9, .inl (E.2.1 2, 0, .inl (va_cpy fc (fun _ => 0) (Int.toNat 0) (Int.toNat 0) (Int.toNat 0))))] H := hP
  have hD : va_D A [(mo, .inr (10, [.ref tb, .ref te, .ref ho, .ref xq, .int (iI 0), .int (iI th), .int (iI 0), .int (iI (bN false)), .ref cq, .ref pq, .int (iI 0), .int (iI (-1))])), (cq, .inl (E.2.1 2, 65536, .inl fc)), (w9, .inl (E.2.1 2, 0, .inl (va_cpy fc (fun _ => 0) (Int.toNat 0) (Int.toNat 0) (Int.toNat 0))))] := hD
  have hE := hE0.at hS hA0
  refine lv_aload_n hx hb d_Mod_taken_21 rfl (lv_at hl 0 rfl) ?_
  exact zwa S hr (Or.inr ⟨_, rfl⟩) hlk hS (⟨w9, _, rfl, hP.sub (ws' := [(mo, .inr (10, [.ref tb, .ref te, .ref ho, .ref xq, .int (iI 0), .int (iI th), .int (iI 0), .int (iI (bN false)), .ref cq, .ref pq, .int (iI 0), .int (iI (-1))])), (cq, .inl (E.2.1 2, 65536, .inl fc)), (w9, .inl (E.2.1 2, 0, .inl (va_cpy fc (fun _ => 0) (Int.toNat 0) (Int.toNat 0) (Int.toNat 0))))]) [0, 1, 2] rfl, hD.sub (ws' := [(mo, .inr (10, [.ref tb, .ref te, .ref ho, .ref xq, .int (iI 0), .int (iI th), .int (iI 0), .int (iI (bN false)), .ref cq, .ref pq, .int (iI 0), .int (iI (-1))])), (cq, .inl (E.2.1 2, 65536, .inl fc)), (w9, .inl (E.2.1 2, 0, .inl (va_cpy fc (fun _ => 0) (Int.toNat 0) (Int.toNat 0) (Int.toNat 0))))]) [0, 1, 2] (by decide) rfl⟩) (by (try dsimp only); omega) (by (try dsimp only); omega) d_Mod_taken_22

set_option maxRecDepth 100000 in
set_option maxHeartbeats 4000000 in
theorem c_Mod_groups (l : Launch) (E : zP) (sz : Nat) (mo tb te ho xq cq pq : Nat) (hq nl ul mk : Nat) (k T : Int) (hk : r32 k) (hT : T = if 0 ≤ k ∧ k ≤ 99 then 0 else 1) : Met l y_Mod_groups (.code y_Mod_groups b_Mod_groups 3 ( Option.none : Option FieldType ) :: zw) { frames := 1, cells := (1), slots := (0), locals := 23 } (zPc E [.ref mo, .int (iI k)] (fun H => H.size = sz ∧ va_P E.1 zcl [(mo, .inr (10, [.ref tb, .ref te, .ref ho, .ref xq, .int (iI 0), .int (iI 0), .int (iI 0), .int (iI (bN false)), .ref cq, .ref pq, .int (iI 0), .int (iI (-1))])), (ho, .inr (13, [.int (iI 0), .ref hq, .ref nl, .ref ul, .ref mk])), (hq, .inl (E.2.1 6, 100, .inr (.inr (.inr (.inr (fun _ => none)))))), (nl, .inr (9, [.ref (E.2.2.1 4), .int (iI 0), .int (iI 0)])), (ul, .inr (9, [.ref (E.2.2.1 4), .int (iI 0), .int (iI 0)]))] H ∧ va_D (zOld E) [(mo, .inr (10, [.ref tb, .ref te, .ref ho, .ref xq, .int (iI 0), .int (iI 0), .int (iI 0), .int (iI (bN false)), .ref cq, .ref pq, .int (iI 0), .int (iI (-1))])), (ho, .inr (13, [.int (iI 0), .ref hq, .ref nl, .ref ul, .ref mk])), (hq, .inl (E.2.1 6, 100, .inr (.inr (.inr (.inr (fun _ => none)))))), (nl, .inr (9, [.ref (E.2.2.1 4), .int (iI 0), .int (iI 0)])), (ul, .inr (9, [.ref (E.2.2.1 4), .int (iI 0), .int (iI 0)]))] ∧ (True))) (zW (fun v H => v = none ∧ zTh E mo T H) (va_A [(mo, .inr (10, [.ref tb, .ref te, .ref ho, .ref xq, .int (iI 0), .int (iI 0), .int (iI 0), .int (iI (bN false)), .ref cq, .ref pq, .int (iI 0), .int (iI (-1))])), (ho, .inr (13, [.int (iI 0), .ref hq, .ref nl, .ref ul, .ref mk])), (hq, .inl (E.2.1 6, 100, .inr (.inr (.inr (.inr (fun _ => none)))))), (nl, .inr (9, [.ref (E.2.2.1 4), .int (iI 0), .int (iI 0)])), (ul, .inr (9, [.ref (E.2.2.1 4), .int (iI 0), .int (iI 0)]))] sz)) (1) (0) (va_A [(mo, .inr (10, [.ref tb, .ref te, .ref ho, .ref xq, .int (iI 0), .int (iI 0), .int (iI 0), .int (iI (bN false)), .ref cq, .ref pq, .int (iI 0), .int (iI (-1))])), (ho, .inr (13, [.int (iI 0), .ref hq, .ref nl, .ref ul, .ref mk])), (hq, .inl (E.2.1 6, 100, .inr (.inr (.inr (.inr (fun _ => none)))))), (nl, .inr (9, [.ref (E.2.2.1 4), .int (iI 0), .int (iI 0)])), (ul, .inr (9, [.ref (E.2.2.1 4), .int (iI 0), .int (iI 0)]))] sz) := by
  refine zMet (by decide) (Nat.le_of_ble_eq_true rfl) ?_
  intro p e s m below meth c ls S hr hlk hnm hE ⟨hsz, hP, hDo, hX⟩ hl
  have hx := S.1
  have hb := S.2.1
  have hE0 := hE
  have hl : lv_has ls 3 [(0, .ref mo), (1, .int (iI k))] := hl
  subst hsz
  have hD := hDo.self (sz := s.heap.size)
  generalize hAe : va_A [(mo, .inr (10, [.ref tb, .ref te, .ref ho, .ref xq, .int (iI 0), .int (iI 0), .int (iI 0), .int (iI (bN false)), .ref cq, .ref pq, .int (iI 0), .int (iI (-1))])), (ho, .inr (13, [.int (iI 0), .ref hq, .ref nl, .ref ul, .ref mk])), (hq, .inl (E.2.1 6, 100, .inr (.inr (.inr (.inr (fun _ => none)))))), (nl, .inr (9, [.ref (E.2.2.1 4), .int (iI 0), .int (iI 0)])), (ul, .inr (9, [.ref (E.2.2.1 4), .int (iI 0), .int (iI 0)]))] s.heap.size = A at hD ⊢
  have hA : ∀ q : Nat, s.heap.size ≤ q → A q := fun q h => by rw [← hAe]; exact Or.inr h
  have hA0 := zA0 hE hDo hAe
  have hS : va_S A s.heap s.heap [] := va_S.rf
  obtain ⟨hka, hkb⟩ := hk
  refine lv_aload_n hx hb d_Mod_groups_0 rfl (lv_at hl 0 rfl) ?_
  refine zi_iconst hx hb d_Mod_groups_1 ?_
  refine va_put (D := E.1) (ci := 10) (v := .int (iI 0)) (ty := .int) (C := "ReplacementWriterModel") (T := F_Mod) (N := 12) hx hb S.2.2.2.2 i_Mod t_Mod t_Mod_ok n_Mod S.2.2.2.1 hE.1 hP hD hS 0 rfl rfl 5 (by decide) (S.2.2.2.2 _ zw_1012) (fun _ h9 => h9) rfl (by decide +kernel) rfl rfl (Nat.le_of_ble_eq_true rfl) d_Mod_groups_2 (fun H locs hP hD hS => ?_)
  have hP : va_P E.1 zcl [(mo, .inr (10, [.ref tb, .ref te, .ref ho, .ref xq, .int (iI 0), .int (iI 0), .int (iI 0), .int (iI (bN false)), .ref cq, .ref pq, .int (iI 0), .int (iI (-1))])), (ho, .inr (13, [.int (iI 0), .ref hq, .ref nl, .ref ul, .ref mk])), (hq, .inl (E.2.1 6, 100, .inr (.inr (.inr (.inr (fun _ => none)))))), (nl, .inr (9, [.ref (E.2.2.1 4), .int (iI 0), .int (iI 0)])), (ul, .inr (9, [.ref (E.2.2.1 4), .int (iI 0), .int (iI 0)]))] H := hP
  have hD : va_D A [(mo, .inr (10, [.ref tb, .ref te, .ref ho, .ref xq, .int (iI 0), .int (iI 0), .int (iI 0), .int (iI (bN false)), .ref cq, .ref pq, .int (iI 0), .int (iI (-1))])), (ho, .inr (13, [.int (iI 0), .ref hq, .ref nl, .ref ul, .ref mk])), (hq, .inl (E.2.1 6, 100, .inr (.inr (.inr (.inr (fun _ => none)))))), (nl, .inr (9, [.ref (E.2.2.1 4), .int (iI 0), .int (iI 0)])), (ul, .inr (9, [.ref (E.2.2.1 4), .int (iI 0), .int (iI 0)]))] := hD
  have hE := hE0.at hS hA0
  refine lv_aload_n hx hb d_Mod_groups_5 rfl (lv_at hl 0 rfl) ?_
  refine zi_iconst hx hb d_Mod_groups_6 ?_
  refine lv_iload_n hx hb d_Mod_groups_7 rfl (lv_at hl 1 rfl) ?_
  refine zi_if_lt hx hb d_Mod_groups_8 rfl (by omega) (fun h8 => ?_) (fun h8 => ?_)
  · refine zi_iconst hx hb d_Mod_groups_17 ?_
    refine lv_goto hx hb d_Mod_groups_18 rfl ?_
    have hPc := hP.sub (ws' := [(mo, .inr (10, [.ref tb, .ref te, .ref ho, .ref xq, .int (iI 0), .int (iI 0), .int (iI 0), .int (iI (bN false)), .ref cq, .ref pq, .int (iI 0), .int (iI (-1))]))]) [0] rfl
    have hDc := hD.sub (ws' := [(mo, .inr (10, [.ref tb, .ref te, .ref ho, .ref xq, .int (iI 0), .int (iI 0), .int (iI 0), .int (iI (bN false)), .ref cq, .ref pq, .int (iI 0), .int (iI (-1))]))]) [0] (by decide) rfl
    have hFc := va_free (wc := [(mo, .inr (10, [.ref tb, .ref te, .ref ho, .ref xq, .int (iI 0), .int (iI 0), .int (iI 0), .int (iI (bN false)), .ref cq, .ref pq, .int (iI 0), .int (iI (-1))]))]) hD hS hA [0] rfl
    refine zcW (va_runV (As := [.int (iI 1), .int (iI (bN true))]) (rest := []) S (c_Mod_refuse l E _ mo tb te ho xq cq pq 0 0 0 0 (-1) 1 true) ⟨zcwB (n := 2) S zw_1056 zw_14 zw_1053 (by decide +kernel) rfl rfl ⟨Nat.le_of_ble_eq_true rfl, Nat.le_of_ble_eq_true rfl⟩, S.2.2.2.2 _ zw_1055, S.2.2.2.2 _ zs_30⟩ (zPreV hE (hP 0 _ rfl) rfl ⟨rfl, hPc, hDc.weaken (fun _ _ _ h => hA0 _ h), trivial⟩) rfl rfl hl.1 rfl (lv_room (Nat.le_of_ble_eq_true rfl)) d_Mod_groups_22 ⟨by (try dsimp only); omega, by (try dsimp only); omega⟩) hS (fun q _ h => hFc q h) hFc (fun v H locs hq hz1 hk1 hS => ?_)
    obtain ⟨rfl, hP1, hD1⟩ := hq
    obtain ⟨hP, hD⟩ := va_join (wr := [(ho, .inr (13, [.int (iI 0), .ref hq, .ref nl, .ref ul, .ref mk])), (hq, .inl (E.2.1 6, 100, .inr (.inr (.inr (.inr (fun _ => none)))))), (nl, .inr (9, [.ref (E.2.2.1 4), .int (iI 0), .int (iI 0)])), (ul, .inr (9, [.ref (E.2.2.1 4), .int (iI 0), .int (iI 0)]))]) (w1 := [(mo, .inr (10, [.ref tb, .ref te, .ref ho, .ref xq, .int (iI 0), .int (iI 1), .int (iI 0), .int (iI (bN false)), .ref cq, .ref pq, .int (iI 0), .int (iI (-1))]))]) hP hD [0] [1, 2, 3, 4] rfl rfl (by decide) (by decide) hk1 hFc hP1 hD1
    have hP : va_P E.1 zcl [(ho, .inr (13, [.int (iI 0), .ref hq, .ref nl, .ref ul, .ref mk])), (hq, .inl (E.2.1 6, 100, .inr (.inr (.inr (.inr (fun _ => none)))))), (nl, .inr (9, [.ref (E.2.2.1 4), .int (iI 0), .int (iI 0)])), (ul, .inr (9, [.ref (E.2.2.1 4), .int (iI 0), .int (iI 0)])), (mo, .inr (10, [.ref tb, .ref te, .ref ho, .ref xq, .int (iI 0), .int (iI 1), .int (iI 0), .int (iI (bN false)), .ref cq, .ref pq, .int (iI 0), .int (iI (-1))]))] H := hP
    have hD : va_D A [(ho, .inr (13, [.int (iI 0), .ref hq, .ref nl, .ref ul, .ref mk])), (hq, .inl (E.2.1 6, 100, .inr (.inr (.inr (.inr (fun _ => none)))))), (nl, .inr (9, [.ref (E.2.2.1 4), .int (iI 0), .int (iI 0)])), (ul, .inr (9, [.ref (E.2.2.1 4), .int (iI 0), .int (iI 0)])), (mo, .inr (10, [.ref tb, .ref te, .ref ho, .ref xq, .int (iI 0), .int (iI 1), .int (iI 0), .int (iI (bN false)), .ref cq, .ref pq, .int (iI 0), .int (iI (-1))]))] := hD
    have hE := hE0.at hS hA0
    refine W.eq (g2 := F0 m 25 ls ([.int (iI 1)])) rfl ?_
    refine zi_if_eq hx hb d_Mod_groups_25 rfl (by omega) (fun h25 => absurd h25 (by omega)) (fun h25 => ?_)
    exact zwv S hr hlk hS (⟨rfl, by rw [show T = 1 by rw [hT]; first | exact if_pos (by omega) | exact if_neg (by omega)]; exact ⟨_, _, _, _, _, _, _, _, _, _, _, (hP 4 _ rfl)⟩⟩) (by (try dsimp only); omega) (by (try dsimp only); omega) d_Mod_groups_28
  · refine lv_iload_n hx hb d_Mod_groups_11 rfl (lv_at hl 1 rfl) ?_
    refine zi_bipush hx hb d_Mod_groups_12 (by decide) ?_
    refine zi_icmp_le hx hb d_Mod_groups_14 rfl (by omega) (by omega) (fun h14 => ?_) (fun h14 => ?_)
    · refine zi_iconst hx hb d_Mod_groups_21 ?_
      have hPc := hP.sub (ws' := [(mo, .inr (10, [.ref tb, .ref te, .ref ho, .ref xq, .int (iI 0), .int (iI 0), .int (iI 0), .int (iI (bN false)), .ref cq, .ref pq, .int (iI 0), .int (iI (-1))]))]) [0] rfl
      have hDc := hD.sub (ws' := [(mo, .inr (10, [.ref tb, .ref te, .ref ho, .ref xq, .int (iI 0), .int (iI 0), .int (iI 0), .int (iI (bN false)), .ref cq, .ref pq, .int (iI 0), .int (iI (-1))]))]) [0] (by decide) rfl
      have hFc := va_free (wc := [(mo, .inr (10, [.ref tb, .ref te, .ref ho, .ref xq, .int (iI 0), .int (iI 0), .int (iI 0), .int (iI (bN false)), .ref cq, .ref pq, .int (iI 0), .int (iI (-1))]))]) hD hS hA [0] rfl
      refine zcW (va_runV (As := [.int (iI 1), .int (iI (bN false))]) (rest := []) S (c_Mod_refuse l E _ mo tb te ho xq cq pq 0 0 0 0 (-1) 1 false) ⟨zcwB (n := 2) S zw_1056 zw_14 zw_1053 (by decide +kernel) rfl rfl ⟨Nat.le_of_ble_eq_true rfl, Nat.le_of_ble_eq_true rfl⟩, S.2.2.2.2 _ zw_1055, S.2.2.2.2 _ zs_30⟩ (zPreV hE (hP 0 _ rfl) rfl ⟨rfl, hPc, hDc.weaken (fun _ _ _ h => hA0 _ h), trivial⟩) rfl rfl hl.1 rfl (lv_room (Nat.le_of_ble_eq_true rfl)) d_Mod_groups_22 ⟨by (try dsimp only); omega, by (try dsimp only); omega⟩) hS (fun q _ h => hFc q h) hFc (fun v H locs hq hz1 hk1 hS => ?_)
      obtain ⟨rfl, hP1, hD1⟩ := hq
      obtain ⟨hP, hD⟩ := va_join (wr := [(ho, .inr (13, [.int (iI 0), .ref hq, .ref nl, .ref ul, .ref mk])), (hq, .inl (E.2.1 6, 100, .inr (.inr (.inr (.inr (fun _ => none)))))), (nl, .inr (9, [.ref (E.2.2.1 4), .int (iI 0), .int (iI 0)])), (ul, .inr (9, [.ref (E.2.2.1 4), .int (iI 0), .int (iI 0)]))]) (w1 := [(mo, .inr (10, [.ref tb, .ref te, .ref ho, .ref xq, .int (iI 0), .int (iI 0), .int (iI 0), .int (iI (bN false)), .ref cq, .ref pq, .int (iI 0), .int (iI (-1))]))]) hP hD [0] [1, 2, 3, 4] rfl rfl (by decide) (by decide) hk1 hFc hP1 hD1
      have hP : va_P E.1 zcl [(ho, .inr (13, [.int (iI 0), .ref hq, .ref nl, .ref ul, .ref mk])), (hq, .inl (E.2.1 6, 100, .inr (.inr (.inr (.inr (fun _ => none)))))), (nl, .inr (9, [.ref (E.2.2.1 4), .int (iI 0), .int (iI 0)])), (ul, .inr (9, [.ref (E.2.2.1 4), .int (iI 0), .int (iI 0)])), (mo, .inr (10, [.ref tb, .ref te, .ref ho, .ref xq, .int (iI 0), .int (iI 0), .int (iI 0), .int (iI (bN false)), .ref cq, .ref pq, .int (iI 0), .int (iI (-1))]))] H := hP
      have hD : va_D A [(ho, .inr (13, [.int (iI 0), .ref hq, .ref nl, .ref ul, .ref mk])), (hq, .inl (E.2.1 6, 100, .inr (.inr (.inr (.inr (fun _ => none)))))), (nl, .inr (9, [.ref (E.2.2.1 4), .int (iI 0), .int (iI 0)])), (ul, .inr (9, [.ref (E.2.2.1 4), .int (iI 0), .int (iI 0)])), (mo, .inr (10, [.ref tb, .ref te, .ref ho, .ref xq, .int (iI 0), .int (iI 0), .int (iI 0), .int (iI (bN false)), .ref cq, .ref pq, .int (iI 0), .int (iI (-1))]))] := hD
      have hE := hE0.at hS hA0
      refine W.eq (g2 := F0 m 25 ls ([.int (iI 0)])) rfl ?_
      refine zi_if_eq hx hb d_Mod_groups_25 rfl (by omega) (fun h25 => ?_) (fun h25 => absurd h25 (by omega))
      refine lv_aload_n hx hb d_Mod_groups_29 rfl (lv_at hl 0 rfl) ?_
      refine zgf S hE (ci := 10) rfl i_Mod (hP 4 _ rfl) 2 (by decide) zw_1009 rfl d_Mod_groups_30 ?_
      refine lv_iload_n hx hb d_Mod_groups_33 rfl (lv_at hl 1 rfl) ?_
      refine va_put (D := E.1) (ci := 13) (v := .int (iI k)) (ty := .int) (C := "ReplacementWriterModel$Holder") (T := F_Holder) (N := 5) hx hb S.2.2.2.2 i_Holder t_Holder t_Holder_ok n_Holder S.2.2.2.1 hE.1 hP hD hS 0 rfl rfl 0 (by decide) (S.2.2.2.2 _ zw_980) (fun _ h9 => h9) rfl (by decide +kernel) rfl rfl (Nat.le_of_ble_eq_true rfl) d_Mod_groups_34 (fun H locs hP hD hS => ?_)
      have hP : va_P E.1 zcl [(ho, .inr (13, [.int (iI k), .ref hq, .ref nl, .ref ul, .ref mk])), (hq, .inl (E.2.1 6, 100, .inr (.inr (.inr (.inr (fun _ => none)))))), (nl, .inr (9, [.ref (E.2.2.1 4), .int (iI 0), .int (iI 0)])), (ul, .inr (9, [.ref (E.2.2.1 4), .int (iI 0), .int (iI 0)])), (mo, .inr (10, [.ref tb, .ref te, .ref ho, .ref xq, .int (iI 0), .int (iI 0), .int (iI 0), .int (iI (bN false)), .ref cq, .ref pq, .int (iI 0), .int (iI (-1))]))] H := hP
      have hD : va_D A [(ho, .inr (13, [.int (iI k), .ref hq, .ref nl, .ref ul, .ref mk])), (hq, .inl (E.2.1 6, 100, .inr (.inr (.inr (.inr (fun _ => none)))))), (nl, .inr (9, [.ref (E.2.2.1 4), .int (iI 0), .int (iI 0)])), (ul, .inr (9, [.ref (E.2.2.1 4), .int (iI 0), .int (iI 0)])), (mo, .inr (10, [.ref tb, .ref te, .ref ho, .ref xq, .int (iI 0), .int (iI 0), .int (iI 0), .int (iI (bN false)), .ref cq, .ref pq, .int (iI 0), .int (iI (-1))]))] := hD
      have hE := hE0.at hS hA0
      refine zi_iconst hx hb d_Mod_groups_37 ?_
      refine lv_istore_n (lv' := [(2, .int (iI 0)), (0, .ref mo), (1, .int (iI k))]) hx hb d_Mod_groups_38 rfl hl (by decide) rfl (fun ls hl => ?_)
      have hP := hP.sub (ws' := [(mo, .inr (10, [.ref tb, .ref te, .ref ho, .ref xq, .int (iI 0), .int (iI 0), .int (iI 0), .int (iI (bN false)), .ref cq, .ref pq, .int (iI 0), .int (iI (-1))])), (ho, .inr (13, [.int (iI k), .ref hq, .ref nl, .ref ul, .ref mk])), (hq, .inl (E.2.1 6, 100, .inr (.inr (.inr (.inr (fun _ => none)))))), (nl, .inr (9, [.ref (E.2.2.1 4), .int (iI 0), .int (iI 0)])), (ul, .inr (9, [.ref (E.2.2.1 4), .int (iI 0), .int (iI 0)]))]) [4, 0, 1, 2, 3] rfl
      have hD := hD.sub (ws' := [(mo, .inr (10, [.ref tb, .ref te, .ref ho, .ref xq, .int (iI 0), .int (iI 0), .int (iI 0), .int (iI (bN false)), .ref cq, .ref pq, .int (iI 0), .int (iI (-1))])), (ho, .inr (13, [.int (iI k), .ref hq, .ref nl, .ref ul, .ref mk])), (hq, .inl (E.2.1 6, 100, .inr (.inr (.inr (.inr (fun _ => none)))))), (nl, .inr (9, [.ref (E.2.2.1 4), .int (iI 0), .int (iI 0)])), (ul, .inr (9, [.ref (E.2.2.1 4), .int (iI 0), .int (iI 0)]))]) [4, 0, 1, 2, 3] (by decide) rfl
      refine zloop (fun (x : Nat × (Nat → Option Nat)) H locs ls cells slots => match x with | (j, fj) => cells = 0 ∧ slots = 0 ∧ lv_has ls 3 [(2, .int (iI ((j : Nat) : Int))), (0, .ref mo), (1, .int (iI k))] ∧ va_P E.1 zcl [(mo, .inr (10, [.ref tb, .ref te, .ref ho, .ref xq, .int (iI 0), .int (iI 0), .int (iI 0), .int (iI (bN false)), .ref cq, .ref pq, .int (iI 0), .int (iI (-1))])), (ho, .inr (13, [.int (iI k), .ref hq, .ref nl, .ref ul, .ref mk])), (hq, .inl (E.2.1 6, 100, .inr (.inr (.inr (.inr fj))))), (nl, .inr (9, [.ref (E.2.2.1 4), .int (iI 0), .int (iI 0)])), (ul, .inr (9, [.ref (E.2.2.1 4), .int (iI 0), .int (iI 0)]))] H ∧ va_D A [(mo, .inr (10, [.ref tb, .ref te, .ref ho, .ref xq, .int (iI 0), .int (iI 0), .int (iI 0), .int (iI (bN false)), .ref cq, .ref pq, .int (iI 0), .int (iI (-1))])), (ho, .inr (13, [.int (iI k), .ref hq, .ref nl, .ref ul, .ref mk])), (hq, .inl (E.2.1 6, 100, .inr (.inr (.inr (.inr fj))))), (nl, .inr (9, [.ref (E.2.2.1 4), .int (iI 0), .int (iI 0)])), (ul, .inr (9, [.ref (E.2.2.1 4), .int (iI 0), .int (iI 0)]))] ∧ va_S A s.heap H locs ∧ (j ≤ 100)) (fun x => match x with | (j, fj) => 100 - j) ?_ (0, fun _ => none) ⟨by simp, by simp, hl, hP, hD, hS, by decide⟩
      clear hl hP hD hS
      rintro ⟨j, fj⟩ H locs ls cells slots ⟨rfl, rfl, hl, hP, hD, hS, hj9⟩ ih
      have hE := hE0.at hS hA0
      refine lv_iload_n hx hb d_Mod_groups_39 rfl (lv_at hl 0 rfl) ?_
      refine zi_bipush hx hb d_Mod_groups_40 (by decide) ?_
      refine zi_icmp_ge hx hb d_Mod_groups_42 rfl (by omega) (by omega) (fun h42 => ?_) (fun h42 => ?_)
      · refine lv_aload_n hx hb d_Mod_groups_61 rfl (lv_at hl 1 rfl) ?_
        refine zgf S hE (ci := 10) rfl i_Mod (hP 0 _ rfl) 2 (by decide) zw_1009 rfl d_Mod_groups_62 ?_
        refine zgf S hE (ci := 13) rfl i_Holder (hP 1 _ rfl) 2 (by decide) zw_984 rfl d_Mod_groups_65 ?_
        have hPc := hP.sub (ws' := [(nl, .inr (9, [.ref (E.2.2.1 4), .int (iI 0), .int (iI 0)]))]) [3] rfl
        have hDc := hD.sub (ws' := [(nl, .inr (9, [.ref (E.2.2.1 4), .int (iI 0), .int (iI 0)]))]) [3] (by decide) rfl
        have hFc := va_free (wc := [(nl, .inr (9, [.ref (E.2.2.1 4), .int (iI 0), .int (iI 0)]))]) hD hS hA [3] rfl
        refine zcW (va_runV (As := []) (rest := []) S (c_ArrayList_clear0 l E _ nl (E.2.2.1 4) 0) ⟨zcwB (n := 0) S zw_411 zw_6 zw_1065 (by decide +kernel) rfl rfl ⟨Nat.le_of_ble_eq_true rfl, Nat.le_of_ble_eq_true rfl⟩, S.2.2.2.2 _ zw_409, S.2.2.2.2 _ zw_410⟩ (zPreV hE (hP 3 _ rfl) rfl ⟨rfl, hPc, hDc.weaken (fun _ _ _ h => hA0 _ h), trivial⟩) rfl rfl hl.1 rfl (lv_room (Nat.le_of_ble_eq_true rfl)) d_Mod_groups_68 ⟨by (try dsimp only); omega, by (try dsimp only); omega⟩) hS (fun q _ h => hFc q h) hFc (fun v H locs hq hz1 hk1 hS => ?_)
        obtain ⟨rfl, hP1, hD1⟩ := hq
        obtain ⟨hP, hD⟩ := va_join (wr := [(mo, .inr (10, [.ref tb, .ref te, .ref ho, .ref xq, .int (iI 0), .int (iI 0), .int (iI 0), .int (iI (bN false)), .ref cq, .ref pq, .int (iI 0), .int (iI (-1))])), (ho, .inr (13, [.int (iI k), .ref hq, .ref nl, .ref ul, .ref mk])), (hq, .inl (E.2.1 6, 100, .inr (.inr (.inr (.inr fj))))), (ul, .inr (9, [.ref (E.2.2.1 4), .int (iI 0), .int (iI 0)]))]) (w1 := [(nl, .inr (9, [.ref (E.2.2.1 4), .int (iI 0), .int (iI (0 + 1))]))]) hP hD [3] [0, 1, 2, 4] rfl rfl (by decide) (by decide) hk1 hFc hP1 hD1
        have hP : va_P E.1 zcl [(mo, .inr (10, [.ref tb, .ref te, .ref ho, .ref xq, .int (iI 0), .int (iI 0), .int (iI 0), .int (iI (bN false)), .ref cq, .ref pq, .int (iI 0), .int (iI (-1))])), (ho, .inr (13, [.int (iI k), .ref hq, .ref nl, .ref ul, .ref mk])), (hq, .inl (E.2.1 6, 100, .inr (.inr (.inr (.inr fj))))), (ul, .inr (9, [.ref (E.2.2.1 4), .int (iI 0), .int (iI 0)])), (nl, .inr (9, [.ref (E.2.2.1 4), .int (iI 0), .int (iI (0 + 1))]))] H := hP
        have hD : va_D A [(mo, .inr (10, [.ref tb, .ref te, .ref ho, .ref xq, .int (iI 0), .int (iI 0), .int (iI 0), .int (iI (bN false)), .ref cq, .ref pq, .int (iI 0), .int (iI (-1))])), (ho, .inr (13, [.int (iI k), .ref hq, .ref nl, .ref ul, .ref mk])), (hq, .inl (E.2.1 6, 100, .inr (.inr (.inr (.inr fj))))), (ul, .inr (9, [.ref (E.2.2.1 4), .int (iI 0), .int (iI 0)])), (nl, .inr (9, [.ref (E.2.2.1 4), .int (iI 0), .int (iI (0 + 1))]))] := hD
        have hE := hE0.at hS hA0
        refine lv_aload_n hx hb d_Mod_groups_71 rfl (lv_at hl 1 rfl) ?_
        refine zgf S hE (ci := 10) rfl i_Mod (hP 0 _ rfl) 2 (by decide) zw_1009 rfl d_Mod_groups_72 ?_
        refine zgf S hE (ci := 13) rfl i_Holder (hP 1 _ rfl) 3 (by decide) zw_986 rfl d_Mod_groups_75 ?_
        have hPc := hP.sub (ws' := [(ul, .inr (9, [.ref (E.2.2.1 4), .int (iI 0), .int (iI 0)]))]) [3] rfl
        have hDc := hD.sub (ws' := [(ul, .inr (9, [.ref (E.2.2.1 4), .int (iI 0), .int (iI 0)]))]) [3] (by decide) rfl
        have hFc := va_free (wc := [(ul, .inr (9, [.ref (E.2.2.1 4), .int (iI 0), .int (iI 0)]))]) hD hS hA [3] rfl
        refine zcW (va_runV (As := []) (rest := []) S (c_ArrayList_clear0 l E _ ul (E.2.2.1 4) 0) ⟨zcwB (n := 0) S zw_411 zw_6 zw_1065 (by decide +kernel) rfl rfl ⟨Nat.le_of_ble_eq_true rfl, Nat.le_of_ble_eq_true rfl⟩, S.2.2.2.2 _ zw_409, S.2.2.2.2 _ zw_410⟩ (zPreV hE (hP 3 _ rfl) rfl ⟨rfl, hPc, hDc.weaken (fun _ _ _ h => hA0 _ h), trivial⟩) rfl rfl hl.1 rfl (lv_room (Nat.le_of_ble_eq_true rfl)) d_Mod_groups_78 ⟨by (try dsimp only); omega, by (try dsimp only); omega⟩) hS (fun q _ h => hFc q h) hFc (fun v H locs hq hz1 hk1 hS => ?_)
        obtain ⟨rfl, hP1, hD1⟩ := hq
        obtain ⟨hP, hD⟩ := va_join (wr := [(mo, .inr (10, [.ref tb, .ref te, .ref ho, .ref xq, .int (iI 0), .int (iI 0), .int (iI 0), .int (iI (bN false)), .ref cq, .ref pq, .int (iI 0), .int (iI (-1))])), (ho, .inr (13, [.int (iI k), .ref hq, .ref nl, .ref ul, .ref mk])), (hq, .inl (E.2.1 6, 100, .inr (.inr (.inr (.inr fj))))), (nl, .inr (9, [.ref (E.2.2.1 4), .int (iI 0), .int (iI (0 + 1))]))]) (w1 := [(ul, .inr (9, [.ref (E.2.2.1 4), .int (iI 0), .int (iI (0 + 1))]))]) hP hD [3] [0, 1, 2, 4] rfl rfl (by decide) (by decide) hk1 hFc hP1 hD1
        have hP : va_P E.1 zcl [(mo, .inr (10, [.ref tb, .ref te, .ref ho, .ref xq, .int (iI 0), .int (iI 0), .int (iI 0), .int (iI (bN false)), .ref cq, .ref pq, .int (iI 0), .int (iI (-1))])), (ho, .inr (13, [.int (iI k), .ref hq, .ref nl, .ref ul, .ref mk])), (hq, .inl (E.2.1 6, 100, .inr (.inr (.inr (.inr fj))))), (nl, .inr (9, [.ref (E.2.2.1 4), .int (iI 0), .int (iI (0 + 1))])), (ul, .inr (9, [.ref (E.2.2.1 4), .int (iI 0), .int (iI (0 + 1))]))] H := hP
        have hD : va_D A [(mo, .inr (10, [.ref tb, .ref te, .ref ho, .ref xq, .int (iI 0), .int (iI 0), .int (iI 0), .int (iI (bN false)), .ref cq, .ref pq, .int (iI 0), .int (iI (-1))])), (ho, .inr (13, [.int (iI k), .ref hq, .ref nl, .ref ul, .ref mk])), (hq, .inl (E.2.1 6, 100, .inr (.inr (.inr (.inr fj))))), (nl, .inr (9, [.ref (E.2.2.1 4), .int (iI 0), .int (iI (0 + 1))])), (ul, .inr (9, [.ref (E.2.2.1 4), .int (iI 0), .int (iI (0 + 1))]))] := hD
        have hE := hE0.at hS hA0
        refine lv_aload_n hx hb d_Mod_groups_81 rfl (lv_at hl 1 rfl) ?_
        refine zgf S hE (ci := 10) rfl i_Mod (hP 0 _ rfl) 2 (by decide) zw_1009 rfl d_Mod_groups_82 ?_
        refine zi_iconst hx hb d_Mod_groups_85 ?_
        refine znewa (atype := .int) (k := 2) (N := 0) (a0 := (0, .inl (fun _ => 0))) S hE zw_917 rfl (zfc2 hE) hP hD hS hA (fun _ => rfl) (by omega) (by omega) (by omega) (by show _ * 4 ≤ _; omega) (by (try dsimp only); omega) (by (try dsimp only); omega) d_Mod_groups_86 (fun nm9 H hP hD hS => ?_)
        have hP : va_P E.1 zcl [(mo, .inr (10, [.ref tb, .ref te, .ref ho, .ref xq, .int (iI 0), .int (iI 0), .int (iI 0), .int (iI (bN false)), .ref cq, .ref pq, .int (iI 0), .int (iI (-1))])), (ho, .inr (13, [.int (iI k), .ref hq, .ref nl, .ref ul, .ref mk])), (hq, .inl (E.2.1 6, 100, .inr (.inr (.inr (.inr fj))))), (nl, .inr (9, [.ref (E.2.2.1 4), .int (iI 0), .int (iI (0 + 1))])), (ul, .inr (9, [.ref (E.2.2.1 4), .int (iI 0), .int (iI (0 + 1))])), (nm9, .inl (E.2.1 2, 0, .inl (fun _ => 0)))] H := hP
        have hD : va_D A [(mo, .inr (10, [.ref tb, .ref te, .ref ho, .ref xq, .int (iI 0), .int (iI 0), .int (iI 0), .int (iI (bN false)), .ref cq, .ref pq, .int (iI 0), .int (iI (-1))])), (ho, .inr (13, [.int (iI k), .ref hq, .ref nl, .ref ul, .ref mk])), (hq, .inl (E.2.1 6, 100, .inr (.inr (.inr (.inr fj))))), (nl, .inr (9, [.ref (E.2.2.1 4), .int (iI 0), .int (iI (0 + 1))])), (ul, .inr (9, [.ref (E.2.2.1 4), .int (iI 0), .int (iI (0 + 1))])), (nm9, .inl (E.2.1 2, 0, .inl (fun _ => 0)))] := hD
        have hE := hE0.at hS hA0
        refine va_put (D := E.1) (ci := 13) (v := .ref nm9) (ty := .array .int) (C := "ReplacementWriterModel$Holder") (T := F_Holder) (N := 5) hx hb S.2.2.2.2 i_Holder t_Holder t_Holder_ok n_Holder S.2.2.2.1 hE.1 hP hD hS 1 rfl rfl 4 (by decide) (S.2.2.2.2 _ zw_988) (fun _ h9 => h9) rfl (by decide +kernel) rfl rfl (Nat.le_of_ble_eq_true rfl) d_Mod_groups_88 (fun H locs hP hD hS => ?_)
        have hP : va_P E.1 zcl [(mo, .inr (10, [.ref tb, .ref te, .ref ho, .ref xq, .int (iI 0), .int (iI 0), .int (iI 0), .int (iI (bN false)), .ref cq, .ref pq, .int (iI 0), .int (iI (-1))])), (ho, .inr (13, [.int (iI k), .ref hq, .ref nl, .ref ul, .ref nm9])), (hq, .inl (E.2.1 6, 100, .inr (.inr (.inr (.inr fj))))), (nl, .inr (9, [.ref (E.2.2.1 4), .int (iI 0), .int (iI (0 + 1))])), (ul, .inr (9, [.ref (E.2.2.1 4), .int (iI 0), .int (iI (0 + 1))])), (nm9, .inl (E.2.1 2, 0, .inl (fun _ => 0)))] H := hP
        have hD : va_D A [(mo, .inr (10, [.ref tb, .ref te, .ref ho, .ref xq, .int (iI 0), .int (iI 0), .int (iI 0), .int (iI (bN false)), .ref cq, .ref pq, .int (iI 0), .int (iI (-1))])), (ho, .inr (13, [.int (iI k), .ref hq, .ref nl, .ref ul, .ref nm9])), (hq, .inl (E.2.1 6, 100, .inr (.inr (.inr (.inr fj))))), (nl, .inr (9, [.ref (E.2.2.1 4), .int (iI 0), .int (iI (0 + 1))])), (ul, .inr (9, [.ref (E.2.2.1 4), .int (iI 0), .int (iI (0 + 1))])), (nm9, .inl (E.2.1 2, 0, .inl (fun _ => 0)))] := hD
        have hE := hE0.at hS hA0
        exact zwv S hr hlk hS (⟨rfl, by rw [show T = 0 by rw [hT]; first | exact if_pos (by omega) | exact if_neg (by omega)]; exact ⟨_, _, _, _, _, _, _, _, _, _, _, (hP 0 _ rfl)⟩⟩) (by (try dsimp only); omega) (by (try dsimp only); omega) d_Mod_groups_91
      · refine lv_aload_n hx hb d_Mod_groups_45 rfl (lv_at hl 1 rfl) ?_
        refine zgf S hE (ci := 10) rfl i_Mod (hP 0 _ rfl) 2 (by decide) zw_1009 rfl d_Mod_groups_46 ?_
        refine zgf S hE (ci := 13) rfl i_Holder (hP 1 _ rfl) 1 (by decide) zw_982 rfl d_Mod_groups_49 ?_
        refine lv_iload_n hx hb d_Mod_groups_52 rfl (lv_at hl 0 rfl) ?_
        refine lv_null hx hb d_Mod_groups_53 ?_
        refine zastAN hx hb hE hP hD hS 2 rfl (by omega) (by omega) (by omega) d_Mod_groups_54 (fun H locs hP hD hS => ?_)
        have hP : va_P E.1 zcl [(mo, .inr (10, [.ref tb, .ref te, .ref ho, .ref xq, .int (iI 0), .int (iI 0), .int (iI 0), .int (iI (bN false)), .ref cq, .ref pq, .int (iI 0), .int (iI (-1))])), (ho, .inr (13, [.int (iI k), .ref hq, .ref nl, .ref ul, .ref mk])), (hq, .inl (E.2.1 6, 100, .inr (.inr (.inr (.inr (va_up fj (Int.toNat ((j : Nat) : Int)) none)))))), (nl, .inr (9, [.ref (E.2.2.1 4), .int (iI 0), .int (iI 0)])), (ul, .inr (9, [.ref (E.2.2.1 4), .int (iI 0), .int (iI 0)]))] H := hP
        have hD : va_D A [(mo, .inr (10, [.ref tb, .ref te, .ref ho, .ref xq, .int (iI 0), .int (iI 0), .int (iI 0), .int (iI (bN false)), .ref cq, .ref pq, .int (iI 0), .int (iI (-1))])), (ho, .inr (13, [.int (iI k), .ref hq, .ref nl, .ref ul, .ref mk])), (hq, .inl (E.2.1 6, 100, .inr (.inr (.inr (.inr (va_up fj (Int.toNat ((j : Nat) : Int)) none)))))), (nl, .inr (9, [.ref (E.2.2.1 4), .int (iI 0), .int (iI 0)])), (ul, .inr (9, [.ref (E.2.2.1 4), .int (iI 0), .int (iI 0)]))] := hD
        have hE := hE0.at hS hA0
        refine lv_iinc (k := 0) (v := (iI (((j : Nat) : Int) + 1))) (lv' := [(2, .int (iI (((j : Nat) : Int) + 1))), (0, .ref mo), (1, .int (iI k))]) hx hb d_Mod_groups_55 hl rfl (iI_add _ _) (by decide) rfl (fun ls hl => ?_)
        refine lv_goto hx hb d_Mod_groups_58 rfl ?_
        refine W.widen (k := 0) (n := 0) (by (try dsimp only); omega) (by (try dsimp only); omega) ?_
        exact ih (j + 1, va_up fj (Int.toNat ((j : Nat) : Int)) none) H locs ls _ _ (show 100 - (j + 1) < 100 - j from by omega) ⟨rfl, rfl, lv_sub hl [0, 1, 2] rfl, hP.sub (ws' := [(mo, .inr (10, [.ref tb, .ref te, .ref ho, .ref xq, .int (iI 0), .int (iI 0), .int (iI 0), .int (iI (bN false)), .ref cq, .ref pq, .int (iI 0), .int (iI (-1))])), (ho, .inr (13, [.int (iI k), .ref hq, .ref nl, .ref ul, .ref mk])), (hq, .inl (E.2.1 6, 100, .inr (.inr (.inr (.inr (va_up fj (Int.toNat ((j : Nat) : Int)) none)))))), (nl, .inr (9, [.ref (E.2.2.1 4), .int (iI 0), .int (iI 0)])), (ul, .inr (9, [.ref (E.2.2.1 4), .int (iI 0), .int (iI 0)]))]) [0, 1, 2, 3, 4] rfl, hD.sub (ws' := [(mo, .inr (10, [.ref tb, .ref te, .ref ho, .ref xq, .int (iI 0), .int (iI 0), .int (iI 0), .int (iI (bN false)), .ref cq, .ref pq, .int (iI 0), .int (iI (-1))])), (ho, .inr (13, [.int (iI k), .ref hq, .ref nl, .ref ul, .ref mk])), (hq, .inl (E.2.1 6, 100, .inr (.inr (.inr (.inr (va_up fj (Int.toNat ((j : Nat) : Int)) none)))))), (nl, .inr (9, [.ref (E.2.2.1 4), .int (iI 0), .int (iI 0)])), (ul, .inr (9, [.ref (E.2.2.1 4), .int (iI 0), .int (iI 0)]))]) [0, 1, 2, 3, 4] (by decide) rfl, hS, by omega⟩
    · refine zi_iconst hx hb d_Mod_groups_17 ?_
      refine lv_goto hx hb d_Mod_groups_18 rfl ?_
      have hPc := hP.sub (ws' := [(mo, .inr (10, [.ref tb, .ref te, .ref ho, .ref xq, .int (iI 0), .int (iI 0), .int (iI 0), .int (iI (bN false)), .ref cq, .ref pq, .int (iI 0), .int (iI (-1))]))]) [0] rfl
      have hDc := hD.sub (ws' := [(mo, .inr (10, [.ref tb, .ref te, .ref ho, .ref xq, .int (iI 0), .int (iI 0), .int (iI 0), .int (iI (bN false)), .ref cq, .ref pq, .int (iI 0), .int (iI (-1))]))]) [0] (by decide) rfl
      have hFc := va_free (wc := [(mo, .inr (10, [.ref tb, .ref te, .ref ho, .ref xq, .int (iI 0), .int (iI 0), .int (iI 0), .int (iI (bN false)), .ref cq, .ref pq, .int (iI 0), .int (iI (-1))]))]) hD hS hA [0] rfl
      refine zcW (va_runV (As := [.int (iI 1), .int (iI (bN true))]) (rest := []) S (c_Mod_refuse l E _ mo tb te ho xq cq pq 0 0 0 0 (-1) 1 true) ⟨zcwB (n := 2) S zw_1056 zw_14 zw_1053 (by decide +kernel) rfl rfl ⟨Nat.le_of_ble_eq_true rfl, Nat.le_of_ble_eq_true rfl⟩, S.2.2.2.2 _ zw_1055, S.2.2.2.2 _ zs_30⟩ (zPreV hE (hP 0 _ rfl) rfl ⟨rfl, hPc, hDc.weaken (fun _ _ _ h => hA0 _ h), trivial⟩) rfl rfl hl.1 rfl (lv_room (Nat.le_of_ble_eq_true rfl)) d_Mod_groups_22 ⟨by (try dsimp only); omega, by (try dsimp only); omega⟩) hS (fun q _ h => hFc q h) hFc (fun v H locs hq hz1 hk1 hS => ?_)
      obtain ⟨rfl, hP1, hD1⟩ := hq
      obtain ⟨hP, hD⟩ := va_join (wr := [(ho, .inr (13, [.int (iI 0), .ref hq, .ref nl, .ref ul, .ref mk])), (hq, .inl (E.2.1 6, 100, .inr (.inr (.inr (.inr (fun _ => none)))))), (nl, .inr (9, [.ref (E.2.2.1 4), .int (iI 0), .int (iI 0)])), (ul, .inr (9, [.ref (E.2.2.1 4), .int (iI 0), .int (iI 0)]))]) (w1 := [(mo, .inr (10, [.ref tb, .ref te, .ref ho, .ref xq, .int (iI 0), .int (iI 1), .int (iI 0), .int (iI (bN false)), .ref cq, .ref pq, .int (iI 0), .int (iI (-1))]))]) hP hD [0] [1, 2, 3, 4] rfl rfl (by decide) (by decide) hk1 hFc hP1 hD1
      have hP : va_P E.1 zcl [(ho, .inr (13, [.int (iI 0), .ref hq, .ref nl, .ref ul, .ref mk])), (hq, .inl (E.2.1 6, 100, .inr (.inr (.inr (.inr (fun _ => none)))))), (nl, .inr (9, [.ref (E.2.2.1 4), .int (iI 0), .int (iI 0)])), (ul, .inr (9, [.ref (E.2.2.1 4), .int (iI 0), .int (iI 0)])), (mo, .inr (10, [.ref tb, .ref te, .ref ho, .ref xq, .int (iI 0), .int (iI 1), .int (iI 0), .int (iI (bN false)), .ref cq, .ref pq, .int (iI 0), .int (iI (-1))]))] H := hP
      have hD : va_D A [(ho, .inr (13, [.int (iI 0), .ref hq, .ref nl, .ref ul, .ref mk])), (hq, .inl (E.2.1 6, 100, .inr (.inr (.inr (.inr (fun _ => none)))))), (nl, .inr (9, [.ref (E.2.2.1 4), .int (iI 0), .int (iI 0)])), (ul, .inr (9, [.ref (E.2.2.1 4), .int (iI 0), .int (iI 0)])), (mo, .inr (10, [.ref tb, .ref te, .ref ho, .ref xq, .int (iI 0), .int (iI 1), .int (iI 0), .int (iI (bN false)), .ref cq, .ref pq, .int (iI 0), .int (iI (-1))]))] := hD
      have hE := hE0.at hS hA0
      refine W.eq (g2 := F0 m 25 ls ([.int (iI 1)])) rfl ?_
      refine zi_if_eq hx hb d_Mod_groups_25 rfl (by omega) (fun h25 => absurd h25 (by omega)) (fun h25 => ?_)
      exact zwv S hr hlk hS (⟨rfl, by rw [show T = 1 by rw [hT]; first | exact if_pos (by omega) | exact if_neg (by omega)]; exact ⟨_, _, _, _, _, _, _, _, _, _, _, (hP 4 _ rfl)⟩⟩) (by (try dsimp only); omega) (by (try dsimp only); omega) d_Mod_groups_28

set_option maxRecDepth 100000 in
set_option maxHeartbeats 4000000 in
theorem c_Mod_set (l : Launch) (E : zP) (sz : Nat) (mo tb te ho xq cq pq : Nat) (hq nl ul mk : Nat) (fc : Nat → Int32) (k T : Int) (hk : r32 k) (hT : T = if k = 0 then 0 else 1) : Met l y_Mod_set (.code y_Mod_set b_Mod_set 2 ( some FieldType.int ) :: zw) { frames := 2, cells := (1), slots := (0), locals := 60 } (zPc E [.ref mo, .int (iI k)] (fun H => H.size = sz ∧ va_P E.1 zcl [(mo, .inr (10, [.ref tb, .ref te, .ref ho, .ref xq, .int (iI 0), .int (iI 0), .int (iI 0), .int (iI (bN false)), .ref cq, .ref pq, .int (iI 0), .int (iI (-1))])), (ho, .inr (13, [.int (iI 0), .ref hq, .ref nl, .ref ul, .ref mk])), (hq, .inl (E.2.1 6, 100, .inr (.inr (.inr (.inr (fun _ => none)))))), (cq, .inl (E.2.1 2, 65536, .inl fc))] H ∧ va_D (zOld E) [(mo, .inr (10, [.ref tb, .ref te, .ref ho, .ref xq, .int (iI 0), .int (iI 0), .int (iI 0), .int (iI (bN false)), .ref cq, .ref pq, .int (iI 0), .int (iI (-1))])), (ho, .inr (13, [.int (iI 0), .ref hq, .ref nl, .ref ul, .ref mk])), (hq, .inl (E.2.1 6, 100, .inr (.inr (.inr (.inr (fun _ => none)))))), (cq, .inl (E.2.1 2, 65536, .inl fc))] ∧ (True))) (zW (fun v H => v = some (.int (iI 0)) ∧ zTh E mo T H) (va_A [(mo, .inr (10, [.ref tb, .ref te, .ref ho, .ref xq, .int (iI 0), .int (iI 0), .int (iI 0), .int (iI (bN false)), .ref cq, .ref pq, .int (iI 0), .int (iI (-1))])), (ho, .inr (13, [.int (iI 0), .ref hq, .ref nl, .ref ul, .ref mk])), (hq, .inl (E.2.1 6, 100, .inr (.inr (.inr (.inr (fun _ => none)))))), (cq, .inl (E.2.1 2, 65536, .inl fc))] sz)) (1) (0) (va_A [(mo, .inr (10, [.ref tb, .ref te, .ref ho, .ref xq, .int (iI 0), .int (iI 0), .int (iI 0), .int (iI (bN false)), .ref cq, .ref pq, .int (iI 0), .int (iI (-1))])), (ho, .inr (13, [.int (iI 0), .ref hq, .ref nl, .ref ul, .ref mk])), (hq, .inl (E.2.1 6, 100, .inr (.inr (.inr (.inr (fun _ => none)))))), (cq, .inl (E.2.1 2, 65536, .inl fc))] sz) := by
  refine zMet (by decide) (Nat.le_of_ble_eq_true rfl) ?_
  intro p e s m below meth c ls S hr hlk hnm hE ⟨hsz, hP, hDo, hX⟩ hl
  have hx := S.1
  have hb := S.2.1
  have hE0 := hE
  have hl : lv_has ls 2 [(0, .ref mo), (1, .int (iI k))] := hl
  subst hsz
  have hD := hDo.self (sz := s.heap.size)
  generalize hAe : va_A [(mo, .inr (10, [.ref tb, .ref te, .ref ho, .ref xq, .int (iI 0), .int (iI 0), .int (iI 0), .int (iI (bN false)), .ref cq, .ref pq, .int (iI 0), .int (iI (-1))])), (ho, .inr (13, [.int (iI 0), .ref hq, .ref nl, .ref ul, .ref mk])), (hq, .inl (E.2.1 6, 100, .inr (.inr (.inr (.inr (fun _ => none)))))), (cq, .inl (E.2.1 2, 65536, .inl fc))] s.heap.size = A at hD ⊢
  have hA : ∀ q : Nat, s.heap.size ≤ q → A q := fun q h => by rw [← hAe]; exact Or.inr h
  have hA0 := zA0 hE hDo hAe
  have hS : va_S A s.heap s.heap [] := va_S.rf
  obtain ⟨hka, hkb⟩ := hk
  refine lv_aload_n hx hb d_Mod_set_0 rfl (lv_at hl 0 rfl) ?_
  refine zi_iconst hx hb d_Mod_set_1 ?_
  refine va_put (D := E.1) (ci := 10) (v := .int (iI 0)) (ty := .int) (C := "ReplacementWriterModel") (T := F_Mod) (N := 12) hx hb S.2.2.2.2 i_Mod t_Mod t_Mod_ok n_Mod S.2.2.2.1 hE.1 hP hD hS 0 rfl rfl 5 (by decide) (S.2.2.2.2 _ zw_1012) (fun _ h9 => h9) rfl (by decide +kernel) rfl rfl (Nat.le_of_ble_eq_true rfl) d_Mod_set_2 (fun H locs hP hD hS => ?_)
  have hP : va_P E.1 zcl [(mo, .inr (10, [.ref tb, .ref te, .ref ho, .ref xq, .int (iI 0), .int (iI 0), .int (iI 0), .int (iI (bN false)), .ref cq, .ref pq, .int (iI 0), .int (iI (-1))])), (ho, .inr (13, [.int (iI 0), .ref hq, .ref nl, .ref ul, .ref mk])), (hq, .inl (E.2.1 6, 100, .inr (.inr (.inr (.inr (fun _ => none)))))), (cq, .inl (E.2.1 2, 65536, .inl fc))] H := hP
  have hD : va_D A [(mo, .inr (10, [.ref tb, .ref te, .ref ho, .ref xq, .int (iI 0), .int (iI 0), .int (iI 0), .int (iI (bN false)), .ref cq, .ref pq, .int (iI 0), .int (iI (-1))])), (ho, .inr (13, [.int (iI 0), .ref hq, .ref nl, .ref ul, .ref mk])), (hq, .inl (E.2.1 6, 100, .inr (.inr (.inr (.inr (fun _ => none)))))), (cq, .inl (E.2.1 2, 65536, .inl fc))] := hD
  have hE := hE0.at hS hA0
  refine lv_aload_n hx hb d_Mod_set_5 rfl (lv_at hl 0 rfl) ?_
  refine zi_iconst hx hb d_Mod_set_6 ?_
  refine lv_iload_n hx hb d_Mod_set_7 rfl (lv_at hl 1 rfl) ?_
  refine zi_if_lt hx hb d_Mod_set_8 rfl (by omega) (fun h8 => ?_) (fun h8 => ?_)
  · refine zi_iconst hx hb d_Mod_set_22 ?_
    refine lv_goto hx hb d_Mod_set_23 rfl ?_
    have hPc := hP.sub (ws' := [(mo, .inr (10, [.ref tb, .ref te, .ref ho, .ref xq, .int (iI 0), .int (iI 0), .int (iI 0), .int (iI (bN false)), .ref cq, .ref pq, .int (iI 0), .int (iI (-1))]))]) [0] rfl
    have hDc := hD.sub (ws' := [(mo, .inr (10, [.ref tb, .ref te, .ref ho, .ref xq, .int (iI 0), .int (iI 0), .int (iI 0), .int (iI (bN false)), .ref cq, .ref pq, .int (iI 0), .int (iI (-1))]))]) [0] (by decide) rfl
    have hFc := va_free (wc := [(mo, .inr (10, [.ref tb, .ref te, .ref ho, .ref xq, .int (iI 0), .int (iI 0), .int (iI 0), .int (iI (bN false)), .ref cq, .ref pq, .int (iI 0), .int (iI (-1))]))]) hD hS hA [0] rfl
    refine zcW (va_runV (As := [.int (iI 1), .int (iI (bN true))]) (rest := []) S (c_Mod_refuse l E _ mo tb te ho xq cq pq 0 0 0 0 (-1) 1 true) ⟨zcwB (n := 2) S zw_1056 zw_14 zw_1053 (by decide +kernel) rfl rfl ⟨Nat.le_of_ble_eq_true rfl, Nat.le_of_ble_eq_true rfl⟩, S.2.2.2.2 _ zw_1055, S.2.2.2.2 _ zs_30⟩ (zPreV hE (hP 0 _ rfl) rfl ⟨rfl, hPc, hDc.weaken (fun _ _ _ h => hA0 _ h), trivial⟩) rfl rfl hl.1 rfl (lv_room (Nat.le_of_ble_eq_true rfl)) d_Mod_set_27 ⟨by (try dsimp only); omega, by (try dsimp only); omega⟩) hS (fun q _ h => hFc q h) hFc (fun v H locs hq hz1 hk1 hS => ?_)
    obtain ⟨rfl, hP1, hD1⟩ := hq
    obtain ⟨hP, hD⟩ := va_join (wr := [(ho, .inr (13, [.int (iI 0), .ref hq, .ref nl, .ref ul, .ref mk])), (hq, .inl (E.2.1 6, 100, .inr (.inr (.inr (.inr (fun _ => none)))))), (cq, .inl (E.2.1 2, 65536, .inl fc))]) (w1 := [(mo, .inr (10, [.ref tb, .ref te, .ref ho, .ref xq, .int (iI 0), .int (iI 1), .int (iI 0), .int (iI (bN false)), .ref cq, .ref pq, .int (iI 0), .int (iI (-1))]))]) hP hD [0] [1, 2, 3] rfl rfl (by decide) (by decide) hk1 hFc hP1 hD1
    have hP : va_P E.1 zcl [(ho, .inr (13, [.int (iI 0), .ref hq, .ref nl, .ref ul, .ref mk])), (hq, .inl (E.2.1 6, 100, .inr (.inr (.inr (.inr (fun _ => none)))))), (cq, .inl (E.2.1 2, 65536, .inl fc)), (mo, .inr (10, [.ref tb, .ref te, .ref ho, .ref xq, .int (iI 0), .int (iI 1), .int (iI 0), .int (iI (bN false)), .ref cq, .ref pq, .int (iI 0), .int (iI (-1))]))] H := hP
    have hD : va_D A [(ho, .inr (13, [.int (iI 0), .ref hq, .ref nl, .ref ul, .ref mk])), (hq, .inl (E.2.1 6, 100, .inr (.inr (.inr (.inr (fun _ => none)))))), (cq, .inl (E.2.1 2, 65536, .inl fc)), (mo, .inr (10, [.ref tb, .ref te, .ref ho, .ref xq, .int (iI 0), .int (iI 1), .int (iI 0), .int (iI (bN false)), .ref cq, .ref pq, .int (iI 0), .int (iI (-1))]))] := hD
    have hE := hE0.at hS hA0
    refine W.eq (g2 := F0 m 30 ls ([.int (iI 1)])) rfl ?_
    refine zi_if_ne hx hb d_Mod_set_30 rfl (by omega) (fun h30 => ?_) (fun h30 => absurd h30 (by omega))
    refine zi_iconst hx hb d_Mod_set_53 ?_
    exact zwi S hr hlk hS (⟨rfl, by rw [show T = 1 by rw [hT]; first | exact if_pos (by omega) | exact if_neg (by omega)]; exact ⟨_, _, _, _, _, _, _, _, _, _, _, (hP 3 _ rfl)⟩⟩) (by (try dsimp only); omega) (by (try dsimp only); omega) d_Mod_set_54
  · refine lv_iload_n hx hb d_Mod_set_11 rfl (lv_at hl 1 rfl) ?_
    refine lv_aload_n hx hb d_Mod_set_12 rfl (lv_at hl 0 rfl) ?_
    refine zgf S hE (ci := 10) rfl i_Mod (hP 0 _ rfl) 2 (by decide) zw_1009 rfl d_Mod_set_13 ?_
    refine zgf S hE (ci := 13) rfl i_Holder (hP 1 _ rfl) 0 (by decide) zw_980 rfl d_Mod_set_16 ?_
    refine zi_icmp_le hx hb d_Mod_set_19 rfl (by omega) (by omega) (fun h19 => ?_) (fun h19 => ?_)
    · refine zi_iconst hx hb d_Mod_set_26 ?_
      have hPc := hP.sub (ws' := [(mo, .inr (10, [.ref tb, .ref te, .ref ho, .ref xq, .int (iI 0), .int (iI 0), .int (iI 0), .int (iI (bN false)), .ref cq, .ref pq, .int (iI 0), .int (iI (-1))]))]) [0] rfl
      have hDc := hD.sub (ws' := [(mo, .inr (10, [.ref tb, .ref te, .ref ho, .ref xq, .int (iI 0), .int (iI 0), .int (iI 0), .int (iI (bN false)), .ref cq, .ref pq, .int (iI 0), .int (iI (-1))]))]) [0] (by decide) rfl
      have hFc := va_free (wc := [(mo, .inr (10, [.ref tb, .ref te, .ref ho, .ref xq, .int (iI 0), .int (iI 0), .int (iI 0), .int (iI (bN false)), .ref cq, .ref pq, .int (iI 0), .int (iI (-1))]))]) hD hS hA [0] rfl
      refine zcW (va_runV (As := [.int (iI 1), .int (iI (bN false))]) (rest := []) S (c_Mod_refuse l E _ mo tb te ho xq cq pq 0 0 0 0 (-1) 1 false) ⟨zcwB (n := 2) S zw_1056 zw_14 zw_1053 (by decide +kernel) rfl rfl ⟨Nat.le_of_ble_eq_true rfl, Nat.le_of_ble_eq_true rfl⟩, S.2.2.2.2 _ zw_1055, S.2.2.2.2 _ zs_30⟩ (zPreV hE (hP 0 _ rfl) rfl ⟨rfl, hPc, hDc.weaken (fun _ _ _ h => hA0 _ h), trivial⟩) rfl rfl hl.1 rfl (lv_room (Nat.le_of_ble_eq_true rfl)) d_Mod_set_27 ⟨by (try dsimp only); omega, by (try dsimp only); omega⟩) hS (fun q _ h => hFc q h) hFc (fun v H locs hq hz1 hk1 hS => ?_)
      obtain ⟨rfl, hP1, hD1⟩ := hq
      obtain ⟨hP, hD⟩ := va_join (wr := [(ho, .inr (13, [.int (iI 0), .ref hq, .ref nl, .ref ul, .ref mk])), (hq, .inl (E.2.1 6, 100, .inr (.inr (.inr (.inr (fun _ => none)))))), (cq, .inl (E.2.1 2, 65536, .inl fc))]) (w1 := [(mo, .inr (10, [.ref tb, .ref te, .ref ho, .ref xq, .int (iI 0), .int (iI 0), .int (iI 0), .int (iI (bN false)), .ref cq, .ref pq, .int (iI 0), .int (iI (-1))]))]) hP hD [0] [1, 2, 3] rfl rfl (by decide) (by decide) hk1 hFc hP1 hD1
      have hP : va_P E.1 zcl [(ho, .inr (13, [.int (iI 0), .ref hq, .ref nl, .ref ul, .ref mk])), (hq, .inl (E.2.1 6, 100, .inr (.inr (.inr (.inr (fun _ => none)))))), (cq, .inl (E.2.1 2, 65536, .inl fc)), (mo, .inr (10, [.ref tb, .ref te, .ref ho, .ref xq, .int (iI 0), .int (iI 0), .int (iI 0), .int (iI (bN false)), .ref cq, .ref pq, .int (iI 0), .int (iI (-1))]))] H := hP
      have hD : va_D A [(ho, .inr (13, [.int (iI 0), .ref hq, .ref nl, .ref ul, .ref mk])), (hq, .inl (E.2.1 6, 100, .inr (.inr (.inr (.inr (fun _ => none)))))), (cq, .inl (E.2.1 2, 65536, .inl fc)), (mo, .inr (10, [.ref tb, .ref te, .ref ho, .ref xq, .int (iI 0), .int (iI 0), .int (iI 0), .int (iI (bN false)), .ref cq, .ref pq, .int (iI 0), .int (iI (-1))]))] := hD
      have hE := hE0.at hS hA0
      refine W.eq (g2 := F0 m 30 ls ([.int (iI 0)])) rfl ?_
      refine zi_if_ne hx hb d_Mod_set_30 rfl (by omega) (fun h30 => absurd h30 (by omega)) (fun h30 => ?_)
      refine lv_aload_n hx hb d_Mod_set_33 rfl (lv_at hl 0 rfl) ?_
      refine zi_iconst hx hb d_Mod_set_34 ?_
      refine lv_aload_n hx hb d_Mod_set_35 rfl (lv_at hl 0 rfl) ?_
      have hPc := hP.sub (ws' := [(mo, .inr (10, [.ref tb, .ref te, .ref ho, .ref xq, .int (iI 0), .int (iI 0), .int (iI 0), .int (iI (bN false)), .ref cq, .ref pq, .int (iI 0), .int (iI (-1))]))]) [3] rfl
      have hDc := hD.sub (ws' := [(mo, .inr (10, [.ref tb, .ref te, .ref ho, .ref xq, .int (iI 0), .int (iI 0), .int (iI 0), .int (iI (bN false)), .ref cq, .ref pq, .int (iI 0), .int (iI (-1))]))]) [3] (by decide) rfl
      have hFc := va_free (wc := [(mo, .inr (10, [.ref tb, .ref te, .ref ho, .ref xq, .int (iI 0), .int (iI 0), .int (iI 0), .int (iI (bN false)), .ref cq, .ref pq, .int (iI 0), .int (iI (-1))]))]) hD hS hA [3] rfl
      refine zcW (va_runV (As := []) (rest := [.int (iI 2), .ref mo]) S (c_Mod_characters l E _ mo tb te ho xq cq pq 0) ⟨zcwB (n := 0) S zw_1073 zw_14 zw_1070 (by decide +kernel) rfl rfl ⟨Nat.le_of_ble_eq_true rfl, Nat.le_of_ble_eq_true rfl⟩, S.2.2.2.2 _ zw_1072, S.2.2.2.2 _ zs_31⟩ (zPreV hE (hP 3 _ rfl) rfl ⟨rfl, hPc, hDc.weaken (fun _ _ _ h => hA0 _ h), trivial⟩) rfl rfl hl.1 rfl (lv_room (Nat.le_of_ble_eq_true rfl)) d_Mod_set_36 ⟨by (try dsimp only); omega, by (try dsimp only); omega⟩) hS (fun q _ h => hFc q h) hFc (fun v H locs hq hz1 hk1 hS => ?_)
      obtain ⟨rfl, hP1, hD1⟩ := hq
      obtain ⟨hP, hD⟩ := va_join (wr := [(ho, .inr (13, [.int (iI 0), .ref hq, .ref nl, .ref ul, .ref mk])), (hq, .inl (E.2.1 6, 100, .inr (.inr (.inr (.inr (fun _ => none)))))), (cq, .inl (E.2.1 2, 65536, .inl fc))]) (w1 := [(mo, .inr (10, [.ref tb, .ref te, .ref ho, .ref xq, .int (iI 0), .int (iI 0), .int (iI 0), .int (iI (bN false)), .ref cq, .ref pq, .int (iI 0), .int (iI (-1))]))]) hP hD [3] [0, 1, 2] rfl rfl (by decide) (by decide) hk1 hFc hP1 hD1
      have hP : va_P E.1 zcl [(ho, .inr (13, [.int (iI 0), .ref hq, .ref nl, .ref ul, .ref mk])), (hq, .inl (E.2.1 6, 100, .inr (.inr (.inr (.inr (fun _ => none)))))), (cq, .inl (E.2.1 2, 65536, .inl fc)), (mo, .inr (10, [.ref tb, .ref te, .ref ho, .ref xq, .int (iI 0), .int (iI 0), .int (iI 0), .int (iI (bN false)), .ref cq, .ref pq, .int (iI 0), .int (iI (-1))]))] H := hP
      have hD : va_D A [(ho, .inr (13, [.int (iI 0), .ref hq, .ref nl, .ref ul, .ref mk])), (hq, .inl (E.2.1 6, 100, .inr (.inr (.inr (.inr (fun _ => none)))))), (cq, .inl (E.2.1 2, 65536, .inl fc)), (mo, .inr (10, [.ref tb, .ref te, .ref ho, .ref xq, .int (iI 0), .int (iI 0), .int (iI 0), .int (iI (bN false)), .ref cq, .ref pq, .int (iI 0), .int (iI (-1))]))] := hD
      have hE := hE0.at hS hA0
      refine zi_if_lt hx hb d_Mod_set_39 rfl (by omega) (fun h39 => ?_) (fun h39 => absurd h39 (by omega))
      refine zi_iconst hx hb d_Mod_set_46 ?_
      have hPc := hP.sub (ws' := [(mo, .inr (10, [.ref tb, .ref te, .ref ho, .ref xq, .int (iI 0), .int (iI 0), .int (iI 0), .int (iI (bN false)), .ref cq, .ref pq, .int (iI 0), .int (iI (-1))]))]) [3] rfl
      have hDc := hD.sub (ws' := [(mo, .inr (10, [.ref tb, .ref te, .ref ho, .ref xq, .int (iI 0), .int (iI 0), .int (iI 0), .int (iI (bN false)), .ref cq, .ref pq, .int (iI 0), .int (iI (-1))]))]) [3] (by decide) rfl
      have hFc := va_free (wc := [(mo, .inr (10, [.ref tb, .ref te, .ref ho, .ref xq, .int (iI 0), .int (iI 0), .int (iI 0), .int (iI (bN false)), .ref cq, .ref pq, .int (iI 0), .int (iI (-1))]))]) hD hS hA [3] rfl
      refine zcW (va_runV (As := [.int (iI 2), .int (iI (bN false))]) (rest := []) S (c_Mod_refuse l E _ mo tb te ho xq cq pq 0 0 0 0 (-1) 2 false) ⟨zcwB (n := 2) S zw_1056 zw_14 zw_1053 (by decide +kernel) rfl rfl ⟨Nat.le_of_ble_eq_true rfl, Nat.le_of_ble_eq_true rfl⟩, S.2.2.2.2 _ zw_1055, S.2.2.2.2 _ zs_30⟩ (zPreV hE (hP 3 _ rfl) rfl ⟨rfl, hPc, hDc.weaken (fun _ _ _ h => hA0 _ h), trivial⟩) rfl rfl hl.1 rfl (lv_room (Nat.le_of_ble_eq_true rfl)) d_Mod_set_47 ⟨by (try dsimp only); omega, by (try dsimp only); omega⟩) hS (fun q _ h => hFc q h) hFc (fun v H locs hq hz1 hk1 hS => ?_)
      obtain ⟨rfl, hP1, hD1⟩ := hq
      obtain ⟨hP, hD⟩ := va_join (wr := [(ho, .inr (13, [.int (iI 0), .ref hq, .ref nl, .ref ul, .ref mk])), (hq, .inl (E.2.1 6, 100, .inr (.inr (.inr (.inr (fun _ => none)))))), (cq, .inl (E.2.1 2, 65536, .inl fc))]) (w1 := [(mo, .inr (10, [.ref tb, .ref te, .ref ho, .ref xq, .int (iI 0), .int (iI 0), .int (iI 0), .int (iI (bN false)), .ref cq, .ref pq, .int (iI 0), .int (iI (-1))]))]) hP hD [3] [0, 1, 2] rfl rfl (by decide) (by decide) hk1 hFc hP1 hD1
      have hP : va_P E.1 zcl [(ho, .inr (13, [.int (iI 0), .ref hq, .ref nl, .ref ul, .ref mk])), (hq, .inl (E.2.1 6, 100, .inr (.inr (.inr (.inr (fun _ => none)))))), (cq, .inl (E.2.1 2, 65536, .inl fc)), (mo, .inr (10, [.ref tb, .ref te, .ref ho, .ref xq, .int (iI 0), .int (iI 0), .int (iI 0), .int (iI (bN false)), .ref cq, .ref pq, .int (iI 0), .int (iI (-1))]))] H := hP
      have hD : va_D A [(ho, .inr (13, [.int (iI 0), .ref hq, .ref nl, .ref ul, .ref mk])), (hq, .inl (E.2.1 6, 100, .inr (.inr (.inr (.inr (fun _ => none)))))), (cq, .inl (E.2.1 2, 65536, .inl fc)), (mo, .inr (10, [.ref tb, .ref te, .ref ho, .ref xq, .int (iI 0), .int (iI 0), .int (iI 0), .int (iI (bN false)), .ref cq, .ref pq, .int (iI 0), .int (iI (-1))]))] := hD
      have hE := hE0.at hS hA0
      refine W.eq (g2 := F0 m 50 ls ([.int (iI 0)])) rfl ?_
      refine zi_if_eq hx hb d_Mod_set_50 rfl (by omega) (fun h50 => ?_) (fun h50 => absurd h50 (by omega))
      refine lv_aload_n hx hb d_Mod_set_55 rfl (lv_at hl 0 rfl) ?_
      refine zgf S hE (ci := 10) rfl i_Mod (hP 3 _ rfl) 2 (by decide) zw_1009 rfl d_Mod_set_56 ?_
      refine zgf S hE (ci := 13) rfl i_Holder (hP 0 _ rfl) 1 (by decide) zw_982 rfl d_Mod_set_59 ?_
      refine lv_iload_n hx hb d_Mod_set_62 rfl (lv_at hl 1 rfl) ?_
      refine lv_aload_n hx hb d_Mod_set_63 rfl (lv_at hl 0 rfl) ?_
      have hPc := hP.sub (ws' := [(mo, .inr (10, [.ref tb, .ref te, .ref ho, .ref xq, .int (iI 0), .int (iI 0), .int (iI 0), .int (iI (bN false)), .ref cq, .ref pq, .int (iI 0), .int (iI (-1))])), (cq, .inl (E.2.1 2, 65536, .inl fc))]) [3, 2] rfl
      have hDc := hD.sub (ws' := [(mo, .inr (10, [.ref tb, .ref te, .ref ho, .ref xq, .int (iI 0), .int (iI 0), .int (iI 0), .int (iI (bN false)), .ref cq, .ref pq, .int (iI 0), .int (iI (-1))])), (cq, .inl (E.2.1 2, 65536, .inl fc))]) [3, 2] (by decide) rfl
      have hFc := va_free (wc := [(mo, .inr (10, [.ref tb, .ref te, .ref ho, .ref xq, .int (iI 0), .int (iI 0), .int (iI 0), .int (iI (bN false)), .ref cq, .ref pq, .int (iI 0), .int (iI (-1))])), (cq, .inl (E.2.1 2, 65536, .inl fc))]) hD hS hA [3, 2] rfl
      refine zcW (va_runV (As := []) (rest := [.int (iI k), .ref hq]) S (c_Mod_taken l E _ mo tb te ho xq cq pq 0 fc) ⟨zcwB (n := 0) S zw_1080 zw_14 zw_1077 (by decide +kernel) rfl rfl ⟨Nat.le_of_ble_eq_true rfl, Nat.le_of_ble_eq_true rfl⟩, S.2.2.2.2 _ zw_1079, S.2.2.2.2 _ zs_32⟩ (zPreV hE (hP 3 _ rfl) rfl ⟨rfl, hPc, hDc.weaken (fun _ _ _ h => hA0 _ h), trivial⟩) rfl rfl hl.1 rfl (lv_room (Nat.le_of_ble_eq_true rfl)) d_Mod_set_64 ⟨by (try dsimp only); omega, by (try dsimp only); omega⟩) hS (fun q _ h => hFc q h) hFc (fun v H locs hq hz1 hk1 hS => ?_)
      obtain ⟨w9, fw, rfl, hP1, hD1⟩ := hq
      obtain ⟨hP, hD⟩ := va_join (wr := [(ho, .inr (13, [.int (iI 0), .ref hq, .ref nl, .ref ul, .ref mk])), (hq, .inl (E.2.1 6, 100, .inr (.inr (.inr (.inr (fun _ => none))))))]) (w1 := [(mo, .inr (10, [.ref tb, .ref te, .ref ho, .ref xq, .int (iI 0), .int (iI 0), .int (iI 0), .int (iI (bN false)), .ref cq, .ref pq, .int (iI 0), .int (iI (-1))])), (cq, .inl (E.2.1 2, 65536, .inl fc)), (w9, .inl (E.2.1 2, 0, .inl fw))]) hP hD [3, 2] [0, 1] rfl rfl (by decide) (by decide) hk1 hFc hP1 hD1
      have hP : va_P E.1 zcl [(ho, .inr (13, [.int (iI 0), .ref hq, .ref nl, .ref ul, .ref mk])), (hq, .inl (E.2.1 6, 100, .inr (.inr (.inr (.inr (fun _ => none)))))), (mo, .inr (10, [.ref tb, .ref te, .ref ho, .ref xq, .int (iI 0), .int (iI 0), .int (iI 0), .int (iI (bN false)), .ref cq, .ref pq, .int (iI 0), .int (iI (-1))])), (cq, .inl (E.2.1 2, 65536, .inl fc)), (w9, .inl (E.2.1 2, 0, .inl fw))] H := hP
      have hD : va_D A [(ho, .inr (13, [.int (iI 0), .ref hq, .ref nl, .ref ul, .ref mk])), (hq, .inl (E.2.1 6, 100, .inr (.inr (.inr (.inr (fun _ => none)))))), (mo, .inr (10, [.ref tb, .ref te, .ref ho, .ref xq, .int (iI 0), .int (iI 0), .int (iI 0), .int (iI (bN false)), .ref cq, .ref pq, .int (iI 0), .int (iI (-1))])), (cq, .inl (E.2.1 2, 65536, .inl fc)), (w9, .inl (E.2.1 2, 0, .inl fw))] := hD
      have hE := hE0.at hS hA0
      refine zastA hx hb hE hP hD hS 1 4 rfl rfl (by omega) (by omega) (by omega) d_Mod_set_67 (fun H locs hP hD hS => ?_)
      have hP : va_P E.1 zcl [(ho, .inr (13, [.int (iI 0), .ref hq, .ref nl, .ref ul, .ref mk])), (hq, .inl (E.2.1 6, 100, .inr (.inr (.inr (.inr (va_up (fun _ => none) (Int.toNat k) (some w9))))))), (mo, .inr (10, [.ref tb, .ref te, .ref ho, .ref xq, .int (iI 0), .int (iI 0), .int (iI 0), .int (iI (bN false)), .ref cq, .ref pq, .int (iI 0), .int (iI (-1))])), (cq, .inl (E.2.1 2, 65536, .inl fc)), (w9, .inl (E.2.1 2, 0, .inl fw))] H := hP
      have hD : va_D A [(ho, .inr (13, [.int (iI 0), .ref hq, .ref nl, .ref ul, .ref mk])), (hq, .inl (E.2.1 6, 100, .inr (.inr (.inr (.inr (va_up (fun _ => none) (Int.toNat k) (some w9))))))), (mo, .inr (10, [.ref tb, .ref te, .ref ho, .ref xq, .int (iI 0), .int (iI 0), .int (iI 0), .int (iI (bN false)), .ref cq, .ref pq, .int (iI 0), .int (iI (-1))])), (cq, .inl (E.2.1 2, 65536, .inl fc)), (w9, .inl (E.2.1 2, 0, .inl fw))] := hD
      have hE := hE0.at hS hA0
      refine lv_aload_n hx hb d_Mod_set_68 rfl (lv_at hl 0 rfl) ?_
      refine zgf S hE (ci := 10) rfl i_Mod (hP 2 _ rfl) 10 (by decide) zw_1017 rfl d_Mod_set_69 ?_
      exact zwi S hr hlk hS (⟨rfl, by rw [show T = 0 by rw [hT]; first | exact if_pos (by omega) | exact if_neg (by omega)]; exact ⟨_, _, _, _, _, _, _, _, _, _, _, (hP 2 _ rfl)⟩⟩) (by (try dsimp only); omega) (by (try dsimp only); omega) d_Mod_set_72
    · refine zi_iconst hx hb d_Mod_set_22 ?_
      refine lv_goto hx hb d_Mod_set_23 rfl ?_
      have hPc := hP.sub (ws' := [(mo, .inr (10, [.ref tb, .ref te, .ref ho, .ref xq, .int (iI 0), .int (iI 0), .int (iI 0), .int (iI (bN false)), .ref cq, .ref pq, .int (iI 0), .int (iI (-1))]))]) [0] rfl
      have hDc := hD.sub (ws' := [(mo, .inr (10, [.ref tb, .ref te, .ref ho, .ref xq, .int (iI 0), .int (iI 0), .int (iI 0), .int (iI (bN false)), .ref cq, .ref pq, .int (iI 0), .int (iI (-1))]))]) [0] (by decide) rfl
      have hFc := va_free (wc := [(mo, .inr (10, [.ref tb, .ref te, .ref ho, .ref xq, .int (iI 0), .int (iI 0), .int (iI 0), .int (iI (bN false)), .ref cq, .ref pq, .int (iI 0), .int (iI (-1))]))]) hD hS hA [0] rfl
      refine zcW (va_runV (As := [.int (iI 1), .int (iI (bN true))]) (rest := []) S (c_Mod_refuse l E _ mo tb te ho xq cq pq 0 0 0 0 (-1) 1 true) ⟨zcwB (n := 2) S zw_1056 zw_14 zw_1053 (by decide +kernel) rfl rfl ⟨Nat.le_of_ble_eq_true rfl, Nat.le_of_ble_eq_true rfl⟩, S.2.2.2.2 _ zw_1055, S.2.2.2.2 _ zs_30⟩ (zPreV hE (hP 0 _ rfl) rfl ⟨rfl, hPc, hDc.weaken (fun _ _ _ h => hA0 _ h), trivial⟩) rfl rfl hl.1 rfl (lv_room (Nat.le_of_ble_eq_true rfl)) d_Mod_set_27 ⟨by (try dsimp only); omega, by (try dsimp only); omega⟩) hS (fun q _ h => hFc q h) hFc (fun v H locs hq hz1 hk1 hS => ?_)
      obtain ⟨rfl, hP1, hD1⟩ := hq
      obtain ⟨hP, hD⟩ := va_join (wr := [(ho, .inr (13, [.int (iI 0), .ref hq, .ref nl, .ref ul, .ref mk])), (hq, .inl (E.2.1 6, 100, .inr (.inr (.inr (.inr (fun _ => none)))))), (cq, .inl (E.2.1 2, 65536, .inl fc))]) (w1 := [(mo, .inr (10, [.ref tb, .ref te, .ref ho, .ref xq, .int (iI 0), .int (iI 1), .int (iI 0), .int (iI (bN false)), .ref cq, .ref pq, .int (iI 0), .int (iI (-1))]))]) hP hD [0] [1, 2, 3] rfl rfl (by decide) (by decide) hk1 hFc hP1 hD1
      have hP : va_P E.1 zcl [(ho, .inr (13, [.int (iI 0), .ref hq, .ref nl, .ref ul, .ref mk])), (hq, .inl (E.2.1 6, 100, .inr (.inr (.inr (.inr (fun _ => none)))))), (cq, .inl (E.2.1 2, 65536, .inl fc)), (mo, .inr (10, [.ref tb, .ref te, .ref ho, .ref xq, .int (iI 0), .int (iI 1), .int (iI 0), .int (iI (bN false)), .ref cq, .ref pq, .int (iI 0), .int (iI (-1))]))] H := hP
      have hD : va_D A [(ho, .inr (13, [.int (iI 0), .ref hq, .ref nl, .ref ul, .ref mk])), (hq, .inl (E.2.1 6, 100, .inr (.inr (.inr (.inr (fun _ => none)))))), (cq, .inl (E.2.1 2, 65536, .inl fc)), (mo, .inr (10, [.ref tb, .ref te, .ref ho, .ref xq, .int (iI 0), .int (iI 1), .int (iI 0), .int (iI (bN false)), .ref cq, .ref pq, .int (iI 0), .int (iI (-1))]))] := hD
      have hE := hE0.at hS hA0
      refine W.eq (g2 := F0 m 30 ls ([.int (iI 1)])) rfl ?_
      refine zi_if_ne hx hb d_Mod_set_30 rfl (by omega) (fun h30 => ?_) (fun h30 => absurd h30 (by omega))
      refine zi_iconst hx hb d_Mod_set_53 ?_
      exact zwi S hr hlk hS (⟨rfl, by rw [show T = 1 by rw [hT]; first | exact if_pos (by omega) | exact if_neg (by omega)]; exact ⟨_, _, _, _, _, _, _, _, _, _, _, (hP 3 _ rfl)⟩⟩) (by (try dsimp only); omega) (by (try dsimp only); omega) d_Mod_set_54

set_option maxRecDepth 100000 in
set_option maxHeartbeats 4000000 in
theorem c_Mod_unset (l : Launch) (E : zP) (sz : Nat) (mo tb te ho xq cq pq : Nat) (hq nl ul mk : Nat) (k T : Int) (hk : r32 k) (hT : T = if k = 0 then 0 else 1) : Met l y_Mod_unset (.code y_Mod_unset b_Mod_unset 2 ( Option.none : Option FieldType ) :: zw) { frames := 1, cells := (0), slots := (0), locals := 22 } (zPc E [.ref mo, .int (iI k)] (fun H => H.size = sz ∧ va_P E.1 zcl [(mo, .inr (10, [.ref tb, .ref te, .ref ho, .ref xq, .int (iI 0), .int (iI 0), .int (iI 0), .int (iI (bN false)), .ref cq, .ref pq, .int (iI 0), .int (iI (-1))])), (ho, .inr (13, [.int (iI 0), .ref hq, .ref nl, .ref ul, .ref mk])), (hq, .inl (E.2.1 6, 100, .inr (.inr (.inr (.inr (fun _ => none))))))] H ∧ va_D (zOld E) [(mo, .inr (10, [.ref tb, .ref te, .ref ho, .ref xq, .int (iI 0), .int (iI 0), .int (iI 0), .int (iI (bN false)), .ref cq, .ref pq, .int (iI 0), .int (iI (-1))])), (ho, .inr (13, [.int (iI 0), .ref hq, .ref nl, .ref ul, .ref mk])), (hq, .inl (E.2.1 6, 100, .inr (.inr (.inr (.inr (fun _ => none))))))] ∧ (True))) (zW (fun v H => v = none ∧ zTh E mo T H) (va_A [(mo, .inr (10, [.ref tb, .ref te, .ref ho, .ref xq, .int (iI 0), .int (iI 0), .int (iI 0), .int (iI (bN false)), .ref cq, .ref pq, .int (iI 0), .int (iI (-1))])), (ho, .inr (13, [.int (iI 0), .ref hq, .ref nl, .ref ul, .ref mk])), (hq, .inl (E.2.1 6, 100, .inr (.inr (.inr (.inr (fun _ => none))))))] sz)) (0) (0) (va_A [(mo, .inr (10, [.ref tb, .ref te, .ref ho, .ref xq, .int (iI 0), .int (iI 0), .int (iI 0), .int (iI (bN false)), .ref cq, .ref pq, .int (iI 0), .int (iI (-1))])), (ho, .inr (13, [.int (iI 0), .ref hq, .ref nl, .ref ul, .ref mk])), (hq, .inl (E.2.1 6, 100, .inr (.inr (.inr (.inr (fun _ => none))))))] sz) := by
  refine zMet (by decide) (Nat.le_of_ble_eq_true rfl) ?_
  intro p e s m below meth c ls S hr hlk hnm hE ⟨hsz, hP, hDo, hX⟩ hl
  have hx := S.1
  have hb := S.2.1
  have hE0 := hE
  have hl : lv_has ls 2 [(0, .ref mo), (1, .int (iI k))] := hl
  subst hsz
  have hD := hDo.self (sz := s.heap.size)
  generalize hAe : va_A [(mo, .inr (10, [.ref tb, .ref te, .ref ho, .ref xq, .int (iI 0), .int (iI 0), .int (iI 0), .int (iI (bN false)), .ref cq, .ref pq, .int (iI 0), .int (iI (-1))])), (ho, .inr (13, [.int (iI 0), .ref hq, .ref nl, .ref ul, .ref mk])), (hq, .inl (E.2.1 6, 100, .inr (.inr (.inr (.inr (fun _ => none))))))] s.heap.size = A at hD ⊢
  have hA : ∀ q : Nat, s.heap.size ≤ q → A q := fun q h => by rw [← hAe]; exact Or.inr h
  have hA0 := zA0 hE hDo hAe
  have hS : va_S A s.heap s.heap [] := va_S.rf
  obtain ⟨hka, hkb⟩ := hk
  refine lv_aload_n hx hb d_Mod_unset_0 rfl (lv_at hl 0 rfl) ?_
  refine zi_iconst hx hb d_Mod_unset_1 ?_
  refine va_put (D := E.1) (ci := 10) (v := .int (iI 0)) (ty := .int) (C := "ReplacementWriterModel") (T := F_Mod) (N := 12) hx hb S.2.2.2.2 i_Mod t_Mod t_Mod_ok n_Mod S.2.2.2.1 hE.1 hP hD hS 0 rfl rfl 5 (by decide) (S.2.2.2.2 _ zw_1012) (fun _ h9 => h9) rfl (by decide +kernel) rfl rfl (Nat.le_of_ble_eq_true rfl) d_Mod_unset_2 (fun H locs hP hD hS => ?_)
  have hP : va_P E.1 zcl [(mo, .inr (10, [.ref tb, .ref te, .ref ho, .ref xq, .int (iI 0), .int (iI 0), .int (iI 0), .int (iI (bN false)), .ref cq, .ref pq, .int (iI 0), .int (iI (-1))])), (ho, .inr (13, [.int (iI 0), .ref hq, .ref nl, .ref ul, .ref mk])), (hq, .inl (E.2.1 6, 100, .inr (.inr (.inr (.inr (fun _ => none))))))] H := hP
  have hD : va_D A [(mo, .inr (10, [.ref tb, .ref te, .ref ho, .ref xq, .int (iI 0), .int (iI 0), .int (iI 0), .int (iI (bN false)), .ref cq, .ref pq, .int (iI 0), .int (iI (-1))])), (ho, .inr (13, [.int (iI 0), .ref hq, .ref nl, .ref ul, .ref mk])), (hq, .inl (E.2.1 6, 100, .inr (.inr (.inr (.inr (fun _ => none))))))] := hD
  have hE := hE0.at hS hA0
  refine lv_aload_n hx hb d_Mod_unset_5 rfl (lv_at hl 0 rfl) ?_
  refine zi_iconst hx hb d_Mod_unset_6 ?_
  refine lv_iload_n hx hb d_Mod_unset_7 rfl (lv_at hl 1 rfl) ?_
  refine zi_if_lt hx hb d_Mod_unset_8 rfl (by omega) (fun h8 => ?_) (fun h8 => ?_)
  · refine zi_iconst hx hb d_Mod_unset_22 ?_
    refine lv_goto hx hb d_Mod_unset_23 rfl ?_
    have hPc := hP.sub (ws' := [(mo, .inr (10, [.ref tb, .ref te, .ref ho, .ref xq, .int (iI 0), .int (iI 0), .int (iI 0), .int (iI (bN false)), .ref cq, .ref pq, .int (iI 0), .int (iI (-1))]))]) [0] rfl
    have hDc := hD.sub (ws' := [(mo, .inr (10, [.ref tb, .ref te, .ref ho, .ref xq, .int (iI 0), .int (iI 0), .int (iI 0), .int (iI (bN false)), .ref cq, .ref pq, .int (iI 0), .int (iI (-1))]))]) [0] (by decide) rfl
    have hFc := va_free (wc := [(mo, .inr (10, [.ref tb, .ref te, .ref ho, .ref xq, .int (iI 0), .int (iI 0), .int (iI 0), .int (iI (bN false)), .ref cq, .ref pq, .int (iI 0), .int (iI (-1))]))]) hD hS hA [0] rfl
    refine zcW (va_runV (As := [.int (iI 1), .int (iI (bN true))]) (rest := []) S (c_Mod_refuse l E _ mo tb te ho xq cq pq 0 0 0 0 (-1) 1 true) ⟨zcwB (n := 2) S zw_1056 zw_14 zw_1053 (by decide +kernel) rfl rfl ⟨Nat.le_of_ble_eq_true rfl, Nat.le_of_ble_eq_true rfl⟩, S.2.2.2.2 _ zw_1055, S.2.2.2.2 _ zs_30⟩ (zPreV hE (hP 0 _ rfl) rfl ⟨rfl, hPc, hDc.weaken (fun _ _ _ h => hA0 _ h), trivial⟩) rfl rfl hl.1 rfl (lv_room (Nat.le_of_ble_eq_true rfl)) d_Mod_unset_27 ⟨by (try dsimp only); omega, by (try dsimp only); omega⟩) hS (fun q _ h => hFc q h) hFc (fun v H locs hq hz1 hk1 hS => ?_)
    obtain ⟨rfl, hP1, hD1⟩ := hq
    obtain ⟨hP, hD⟩ := va_join (wr := [(ho, .inr (13, [.int (iI 0), .ref hq, .ref nl, .ref ul, .ref mk])), (hq, .inl (E.2.1 6, 100, .inr (.inr (.inr (.inr (fun _ => none))))))]) (w1 := [(mo, .inr (10, [.ref tb, .ref te, .ref ho, .ref xq, .int (iI 0), .int (iI 1), .int (iI 0), .int (iI (bN false)), .ref cq, .ref pq, .int (iI 0), .int (iI (-1))]))]) hP hD [0] [1, 2] rfl rfl (by decide) (by decide) hk1 hFc hP1 hD1
    have hP : va_P E.1 zcl [(ho, .inr (13, [.int (iI 0), .ref hq, .ref nl, .ref ul, .ref mk])), (hq, .inl (E.2.1 6, 100, .inr (.inr (.inr (.inr (fun _ => none)))))), (mo, .inr (10, [.ref tb, .ref te, .ref ho, .ref xq, .int (iI 0), .int (iI 1), .int (iI 0), .int (iI (bN false)), .ref cq, .ref pq, .int (iI 0), .int (iI (-1))]))] H := hP
    have hD : va_D A [(ho, .inr (13, [.int (iI 0), .ref hq, .ref nl, .ref ul, .ref mk])), (hq, .inl (E.2.1 6, 100, .inr (.inr (.inr (.inr (fun _ => none)))))), (mo, .inr (10, [.ref tb, .ref te, .ref ho, .ref xq, .int (iI 0), .int (iI 1), .int (iI 0), .int (iI (bN false)), .ref cq, .ref pq, .int (iI 0), .int (iI (-1))]))] := hD
    have hE := hE0.at hS hA0
    refine W.eq (g2 := F0 m 30 ls ([.int (iI 1)])) rfl ?_
    refine zi_if_eq hx hb d_Mod_unset_30 rfl (by omega) (fun h30 => absurd h30 (by omega)) (fun h30 => ?_)
    exact zwv S hr hlk hS (⟨rfl, by rw [show T = 1 by rw [hT]; first | exact if_pos (by omega) | exact if_neg (by omega)]; exact ⟨_, _, _, _, _, _, _, _, _, _, _, (hP 2 _ rfl)⟩⟩) (by (try dsimp only); omega) (by (try dsimp only); omega) d_Mod_unset_33
  · refine lv_iload_n hx hb d_Mod_unset_11 rfl (lv_at hl 1 rfl) ?_
    refine lv_aload_n hx hb d_Mod_unset_12 rfl (lv_at hl 0 rfl) ?_
    refine zgf S hE (ci := 10) rfl i_Mod (hP 0 _ rfl) 2 (by decide) zw_1009 rfl d_Mod_unset_13 ?_
    refine zgf S hE (ci := 13) rfl i_Holder (hP 1 _ rfl) 0 (by decide) zw_980 rfl d_Mod_unset_16 ?_
    refine zi_icmp_le hx hb d_Mod_unset_19 rfl (by omega) (by omega) (fun h19 => ?_) (fun h19 => ?_)
    · refine zi_iconst hx hb d_Mod_unset_26 ?_
      have hPc := hP.sub (ws' := [(mo, .inr (10, [.ref tb, .ref te, .ref ho, .ref xq, .int (iI 0), .int (iI 0), .int (iI 0), .int (iI (bN false)), .ref cq, .ref pq, .int (iI 0), .int (iI (-1))]))]) [0] rfl
      have hDc := hD.sub (ws' := [(mo, .inr (10, [.ref tb, .ref te, .ref ho, .ref xq, .int (iI 0), .int (iI 0), .int (iI 0), .int (iI (bN false)), .ref cq, .ref pq, .int (iI 0), .int (iI (-1))]))]) [0] (by decide) rfl
      have hFc := va_free (wc := [(mo, .inr (10, [.ref tb, .ref te, .ref ho, .ref xq, .int (iI 0), .int (iI 0), .int (iI 0), .int (iI (bN false)), .ref cq, .ref pq, .int (iI 0), .int (iI (-1))]))]) hD hS hA [0] rfl
      refine zcW (va_runV (As := [.int (iI 1), .int (iI (bN false))]) (rest := []) S (c_Mod_refuse l E _ mo tb te ho xq cq pq 0 0 0 0 (-1) 1 false) ⟨zcwB (n := 2) S zw_1056 zw_14 zw_1053 (by decide +kernel) rfl rfl ⟨Nat.le_of_ble_eq_true rfl, Nat.le_of_ble_eq_true rfl⟩, S.2.2.2.2 _ zw_1055, S.2.2.2.2 _ zs_30⟩ (zPreV hE (hP 0 _ rfl) rfl ⟨rfl, hPc, hDc.weaken (fun _ _ _ h => hA0 _ h), trivial⟩) rfl rfl hl.1 rfl (lv_room (Nat.le_of_ble_eq_true rfl)) d_Mod_unset_27 ⟨by (try dsimp only); omega, by (try dsimp only); omega⟩) hS (fun q _ h => hFc q h) hFc (fun v H locs hq hz1 hk1 hS => ?_)
      obtain ⟨rfl, hP1, hD1⟩ := hq
      obtain ⟨hP, hD⟩ := va_join (wr := [(ho, .inr (13, [.int (iI 0), .ref hq, .ref nl, .ref ul, .ref mk])), (hq, .inl (E.2.1 6, 100, .inr (.inr (.inr (.inr (fun _ => none))))))]) (w1 := [(mo, .inr (10, [.ref tb, .ref te, .ref ho, .ref xq, .int (iI 0), .int (iI 0), .int (iI 0), .int (iI (bN false)), .ref cq, .ref pq, .int (iI 0), .int (iI (-1))]))]) hP hD [0] [1, 2] rfl rfl (by decide) (by decide) hk1 hFc hP1 hD1
      have hP : va_P E.1 zcl [(ho, .inr (13, [.int (iI 0), .ref hq, .ref nl, .ref ul, .ref mk])), (hq, .inl (E.2.1 6, 100, .inr (.inr (.inr (.inr (fun _ => none)))))), (mo, .inr (10, [.ref tb, .ref te, .ref ho, .ref xq, .int (iI 0), .int (iI 0), .int (iI 0), .int (iI (bN false)), .ref cq, .ref pq, .int (iI 0), .int (iI (-1))]))] H := hP
      have hD : va_D A [(ho, .inr (13, [.int (iI 0), .ref hq, .ref nl, .ref ul, .ref mk])), (hq, .inl (E.2.1 6, 100, .inr (.inr (.inr (.inr (fun _ => none)))))), (mo, .inr (10, [.ref tb, .ref te, .ref ho, .ref xq, .int (iI 0), .int (iI 0), .int (iI 0), .int (iI (bN false)), .ref cq, .ref pq, .int (iI 0), .int (iI (-1))]))] := hD
      have hE := hE0.at hS hA0
      refine W.eq (g2 := F0 m 30 ls ([.int (iI 0)])) rfl ?_
      refine zi_if_eq hx hb d_Mod_unset_30 rfl (by omega) (fun h30 => ?_) (fun h30 => absurd h30 (by omega))
      refine lv_aload_n hx hb d_Mod_unset_34 rfl (lv_at hl 0 rfl) ?_
      refine zgf S hE (ci := 10) rfl i_Mod (hP 2 _ rfl) 2 (by decide) zw_1009 rfl d_Mod_unset_35 ?_
      refine zgf S hE (ci := 13) rfl i_Holder (hP 0 _ rfl) 1 (by decide) zw_982 rfl d_Mod_unset_38 ?_
      refine lv_iload_n hx hb d_Mod_unset_41 rfl (lv_at hl 1 rfl) ?_
      refine lv_null hx hb d_Mod_unset_42 ?_
      refine zastAN hx hb hE hP hD hS 1 rfl (by omega) (by omega) (by omega) d_Mod_unset_43 (fun H locs hP hD hS => ?_)
      have hP : va_P E.1 zcl [(ho, .inr (13, [.int (iI 0), .ref hq, .ref nl, .ref ul, .ref mk])), (hq, .inl (E.2.1 6, 100, .inr (.inr (.inr (.inr (va_up (fun _ => none) (Int.toNat k) none)))))), (mo, .inr (10, [.ref tb, .ref te, .ref ho, .ref xq, .int (iI 0), .int (iI 0), .int (iI 0), .int (iI (bN false)), .ref cq, .ref pq, .int (iI 0), .int (iI (-1))]))] H := hP
      have hD : va_D A [(ho, .inr (13, [.int (iI 0), .ref hq, .ref nl, .ref ul, .ref mk])), (hq, .inl (E.2.1 6, 100, .inr (.inr (.inr (.inr (va_up (fun _ => none) (Int.toNat k) none)))))), (mo, .inr (10, [.ref tb, .ref te, .ref ho, .ref xq, .int (iI 0), .int (iI 0), .int (iI 0), .int (iI (bN false)), .ref cq, .ref pq, .int (iI 0), .int (iI (-1))]))] := hD
      have hE := hE0.at hS hA0
      exact zwv S hr hlk hS (⟨rfl, by rw [show T = 0 by rw [hT]; first | exact if_pos (by omega) | exact if_neg (by omega)]; exact ⟨_, _, _, _, _, _, _, _, _, _, _, (hP 2 _ rfl)⟩⟩) (by (try dsimp only); omega) (by (try dsimp only); omega) d_Mod_unset_44
    · refine zi_iconst hx hb d_Mod_unset_22 ?_
      refine lv_goto hx hb d_Mod_unset_23 rfl ?_
      have hPc := hP.sub (ws' := [(mo, .inr (10, [.ref tb, .ref te, .ref ho, .ref xq, .int (iI 0), .int (iI 0), .int (iI 0), .int (iI (bN false)), .ref cq, .ref pq, .int (iI 0), .int (iI (-1))]))]) [0] rfl
      have hDc := hD.sub (ws' := [(mo, .inr (10, [.ref tb, .ref te, .ref ho, .ref xq, .int (iI 0), .int (iI 0), .int (iI 0), .int (iI (bN false)), .ref cq, .ref pq, .int (iI 0), .int (iI (-1))]))]) [0] (by decide) rfl
      have hFc := va_free (wc := [(mo, .inr (10, [.ref tb, .ref te, .ref ho, .ref xq, .int (iI 0), .int (iI 0), .int (iI 0), .int (iI (bN false)), .ref cq, .ref pq, .int (iI 0), .int (iI (-1))]))]) hD hS hA [0] rfl
      refine zcW (va_runV (As := [.int (iI 1), .int (iI (bN true))]) (rest := []) S (c_Mod_refuse l E _ mo tb te ho xq cq pq 0 0 0 0 (-1) 1 true) ⟨zcwB (n := 2) S zw_1056 zw_14 zw_1053 (by decide +kernel) rfl rfl ⟨Nat.le_of_ble_eq_true rfl, Nat.le_of_ble_eq_true rfl⟩, S.2.2.2.2 _ zw_1055, S.2.2.2.2 _ zs_30⟩ (zPreV hE (hP 0 _ rfl) rfl ⟨rfl, hPc, hDc.weaken (fun _ _ _ h => hA0 _ h), trivial⟩) rfl rfl hl.1 rfl (lv_room (Nat.le_of_ble_eq_true rfl)) d_Mod_unset_27 ⟨by (try dsimp only); omega, by (try dsimp only); omega⟩) hS (fun q _ h => hFc q h) hFc (fun v H locs hq hz1 hk1 hS => ?_)
      obtain ⟨rfl, hP1, hD1⟩ := hq
      obtain ⟨hP, hD⟩ := va_join (wr := [(ho, .inr (13, [.int (iI 0), .ref hq, .ref nl, .ref ul, .ref mk])), (hq, .inl (E.2.1 6, 100, .inr (.inr (.inr (.inr (fun _ => none))))))]) (w1 := [(mo, .inr (10, [.ref tb, .ref te, .ref ho, .ref xq, .int (iI 0), .int (iI 1), .int (iI 0), .int (iI (bN false)), .ref cq, .ref pq, .int (iI 0), .int (iI (-1))]))]) hP hD [0] [1, 2] rfl rfl (by decide) (by decide) hk1 hFc hP1 hD1
      have hP : va_P E.1 zcl [(ho, .inr (13, [.int (iI 0), .ref hq, .ref nl, .ref ul, .ref mk])), (hq, .inl (E.2.1 6, 100, .inr (.inr (.inr (.inr (fun _ => none)))))), (mo, .inr (10, [.ref tb, .ref te, .ref ho, .ref xq, .int (iI 0), .int (iI 1), .int (iI 0), .int (iI (bN false)), .ref cq, .ref pq, .int (iI 0), .int (iI (-1))]))] H := hP
      have hD : va_D A [(ho, .inr (13, [.int (iI 0), .ref hq, .ref nl, .ref ul, .ref mk])), (hq, .inl (E.2.1 6, 100, .inr (.inr (.inr (.inr (fun _ => none)))))), (mo, .inr (10, [.ref tb, .ref te, .ref ho, .ref xq, .int (iI 0), .int (iI 1), .int (iI 0), .int (iI (bN false)), .ref cq, .ref pq, .int (iI 0), .int (iI (-1))]))] := hD
      have hE := hE0.at hS hA0
      refine W.eq (g2 := F0 m 30 ls ([.int (iI 1)])) rfl ?_
      refine zi_if_eq hx hb d_Mod_unset_30 rfl (by omega) (fun h30 => absurd h30 (by omega)) (fun h30 => ?_)
      exact zwv S hr hlk hS (⟨rfl, by rw [show T = 1 by rw [hT]; first | exact if_pos (by omega) | exact if_neg (by omega)]; exact ⟨_, _, _, _, _, _, _, _, _, _, _, (hP 2 _ rfl)⟩⟩) (by (try dsimp only); omega) (by (try dsimp only); omega) d_Mod_unset_33

set_option maxRecDepth 100000 in
set_option maxHeartbeats 4000000 in
theorem c_Mod_name (l : Launch) (E : zP) (sz : Nat) (mo tb te ho xq cq pq : Nat) (hq nl ul mk : Nat) (k : Int) (hk : r32 k) : Met l y_Mod_name (.code y_Mod_name b_Mod_name 4 ( some FieldType.int ) :: zw) { frames := 1, cells := (0), slots := (0), locals := 22 } (zPc E [.ref mo, .int (iI k)] (fun H => H.size = sz ∧ va_P E.1 zcl [(mo, .inr (10, [.ref tb, .ref te, .ref ho, .ref xq, .int (iI 0), .int (iI 0), .int (iI 0), .int (iI (bN false)), .ref cq, .ref pq, .int (iI 0), .int (iI (-1))])), (ho, .inr (13, [.int (iI 0), .ref hq, .ref nl, .ref ul, .ref mk]))] H ∧ va_D (zOld E) [(mo, .inr (10, [.ref tb, .ref te, .ref ho, .ref xq, .int (iI 0), .int (iI 0), .int (iI 0), .int (iI (bN false)), .ref cq, .ref pq, .int (iI 0), .int (iI (-1))])), (ho, .inr (13, [.int (iI 0), .ref hq, .ref nl, .ref ul, .ref mk]))] ∧ (True))) (zW (fun v H => v = some (.int (iI 0)) ∧ zTh E mo 1 H) (va_A [(mo, .inr (10, [.ref tb, .ref te, .ref ho, .ref xq, .int (iI 0), .int (iI 0), .int (iI 0), .int (iI (bN false)), .ref cq, .ref pq, .int (iI 0), .int (iI (-1))])), (ho, .inr (13, [.int (iI 0), .ref hq, .ref nl, .ref ul, .ref mk]))] sz)) (0) (0) (va_A [(mo, .inr (10, [.ref tb, .ref te, .ref ho, .ref xq, .int (iI 0), .int (iI 0), .int (iI 0), .int (iI (bN false)), .ref cq, .ref pq, .int (iI 0), .int (iI (-1))])), (ho, .inr (13, [.int (iI 0), .ref hq, .ref nl, .ref ul, .ref mk]))] sz) := by
  refine zMet (by decide) (Nat.le_of_ble_eq_true rfl) ?_
  intro p e s m below meth c ls S hr hlk hnm hE ⟨hsz, hP, hDo, hX⟩ hl
  have hx := S.1
  have hb := S.2.1
  have hE0 := hE
  have hl : lv_has ls 4 [(0, .ref mo), (1, .int (iI k))] := hl
  subst hsz
  have hD := hDo.self (sz := s.heap.size)
  generalize hAe : va_A [(mo, .inr (10, [.ref tb, .ref te, .ref ho, .ref xq, .int (iI 0), .int (iI 0), .int (iI 0), .int (iI (bN false)), .ref cq, .ref pq, .int (iI 0), .int (iI (-1))])), (ho, .inr (13, [.int (iI 0), .ref hq, .ref nl, .ref ul, .ref mk]))] s.heap.size = A at hD ⊢
  have hA : ∀ q : Nat, s.heap.size ≤ q → A q := fun q h => by rw [← hAe]; exact Or.inr h
  have hA0 := zA0 hE hDo hAe
  have hS : va_S A s.heap s.heap [] := va_S.rf
  obtain ⟨hka, hkb⟩ := hk
  refine lv_aload_n hx hb d_Mod_name_0 rfl (lv_at hl 0 rfl) ?_
  refine zi_iconst hx hb d_Mod_name_1 ?_
  refine va_put (D := E.1) (ci := 10) (v := .int (iI 0)) (ty := .int) (C := "ReplacementWriterModel") (T := F_Mod) (N := 12) hx hb S.2.2.2.2 i_Mod t_Mod t_Mod_ok n_Mod S.2.2.2.1 hE.1 hP hD hS 0 rfl rfl 5 (by decide) (S.2.2.2.2 _ zw_1012) (fun _ h9 => h9) rfl (by decide +kernel) rfl rfl (Nat.le_of_ble_eq_true rfl) d_Mod_name_2 (fun H locs hP hD hS => ?_)
  have hP : va_P E.1 zcl [(mo, .inr (10, [.ref tb, .ref te, .ref ho, .ref xq, .int (iI 0), .int (iI 0), .int (iI 0), .int (iI (bN false)), .ref cq, .ref pq, .int (iI 0), .int (iI (-1))])), (ho, .inr (13, [.int (iI 0), .ref hq, .ref nl, .ref ul, .ref mk]))] H := hP
  have hD : va_D A [(mo, .inr (10, [.ref tb, .ref te, .ref ho, .ref xq, .int (iI 0), .int (iI 0), .int (iI 0), .int (iI (bN false)), .ref cq, .ref pq, .int (iI 0), .int (iI (-1))])), (ho, .inr (13, [.int (iI 0), .ref hq, .ref nl, .ref ul, .ref mk]))] := hD
  have hE := hE0.at hS hA0
  refine lv_aload_n hx hb d_Mod_name_5 rfl (lv_at hl 0 rfl) ?_
  refine zi_iconst hx hb d_Mod_name_6 ?_
  refine lv_iload_n hx hb d_Mod_name_7 rfl (lv_at hl 1 rfl) ?_
  refine zi_iconst hx hb d_Mod_name_8 ?_
  refine zi_icmp_lt hx hb d_Mod_name_9 rfl (by omega) (by omega) (fun h9 => ?_) (fun h9 => ?_)
  · refine zi_iconst hx hb d_Mod_name_23 ?_
    refine lv_goto hx hb d_Mod_name_24 rfl ?_
    have hPc := hP.sub (ws' := [(mo, .inr (10, [.ref tb, .ref te, .ref ho, .ref xq, .int (iI 0), .int (iI 0), .int (iI 0), .int (iI (bN false)), .ref cq, .ref pq, .int (iI 0), .int (iI (-1))]))]) [0] rfl
    have hDc := hD.sub (ws' := [(mo, .inr (10, [.ref tb, .ref te, .ref ho, .ref xq, .int (iI 0), .int (iI 0), .int (iI 0), .int (iI (bN false)), .ref cq, .ref pq, .int (iI 0), .int (iI (-1))]))]) [0] (by decide) rfl
    have hFc := va_free (wc := [(mo, .inr (10, [.ref tb, .ref te, .ref ho, .ref xq, .int (iI 0), .int (iI 0), .int (iI 0), .int (iI (bN false)), .ref cq, .ref pq, .int (iI 0), .int (iI (-1))]))]) hD hS hA [0] rfl
    refine zcW (va_runV (As := [.int (iI 1), .int (iI (bN true))]) (rest := []) S (c_Mod_refuse l E _ mo tb te ho xq cq pq 0 0 0 0 (-1) 1 true) ⟨zcwB (n := 2) S zw_1056 zw_14 zw_1053 (by decide +kernel) rfl rfl ⟨Nat.le_of_ble_eq_true rfl, Nat.le_of_ble_eq_true rfl⟩, S.2.2.2.2 _ zw_1055, S.2.2.2.2 _ zs_30⟩ (zPreV hE (hP 0 _ rfl) rfl ⟨rfl, hPc, hDc.weaken (fun _ _ _ h => hA0 _ h), trivial⟩) rfl rfl hl.1 rfl (lv_room (Nat.le_of_ble_eq_true rfl)) d_Mod_name_28 ⟨by (try dsimp only); omega, by (try dsimp only); omega⟩) hS (fun q _ h => hFc q h) hFc (fun v H locs hq hz1 hk1 hS => ?_)
    obtain ⟨rfl, hP1, hD1⟩ := hq
    obtain ⟨hP, hD⟩ := va_join (wr := [(ho, .inr (13, [.int (iI 0), .ref hq, .ref nl, .ref ul, .ref mk]))]) (w1 := [(mo, .inr (10, [.ref tb, .ref te, .ref ho, .ref xq, .int (iI 0), .int (iI 1), .int (iI 0), .int (iI (bN false)), .ref cq, .ref pq, .int (iI 0), .int (iI (-1))]))]) hP hD [0] [1] rfl rfl (by decide) (by decide) hk1 hFc hP1 hD1
    have hP : va_P E.1 zcl [(ho, .inr (13, [.int (iI 0), .ref hq, .ref nl, .ref ul, .ref mk])), (mo, .inr (10, [.ref tb, .ref te, .ref ho, .ref xq, .int (iI 0), .int (iI 1), .int (iI 0), .int (iI (bN false)), .ref cq, .ref pq, .int (iI 0), .int (iI (-1))]))] H := hP
    have hD : va_D A [(ho, .inr (13, [.int (iI 0), .ref hq, .ref nl, .ref ul, .ref mk])), (mo, .inr (10, [.ref tb, .ref te, .ref ho, .ref xq, .int (iI 0), .int (iI 1), .int (iI 0), .int (iI (bN false)), .ref cq, .ref pq, .int (iI 0), .int (iI (-1))]))] := hD
    have hE := hE0.at hS hA0
    refine W.eq (g2 := F0 m 31 ls ([.int (iI 1)])) rfl ?_
    refine zi_if_eq hx hb d_Mod_name_31 rfl (by omega) (fun h31 => absurd h31 (by omega)) (fun h31 => ?_)
    refine zi_iconst hx hb d_Mod_name_34 ?_
    exact zwi S hr hlk hS (⟨rfl, ⟨_, _, _, _, _, _, _, _, _, _, _, (hP 1 _ rfl)⟩⟩) (by (try dsimp only); omega) (by (try dsimp only); omega) d_Mod_name_35
  · refine lv_iload_n hx hb d_Mod_name_12 rfl (lv_at hl 1 rfl) ?_
    refine lv_aload_n hx hb d_Mod_name_13 rfl (lv_at hl 0 rfl) ?_
    refine zgf S hE (ci := 10) rfl i_Mod (hP 0 _ rfl) 2 (by decide) zw_1009 rfl d_Mod_name_14 ?_
    refine zgf S hE (ci := 13) rfl i_Holder (hP 1 _ rfl) 0 (by decide) zw_980 rfl d_Mod_name_17 ?_
    refine zi_icmp_le hx hb d_Mod_name_20 rfl (by omega) (by omega) (fun h20 => ?_) (fun h20 => ?_)
    · omega
    · refine zi_iconst hx hb d_Mod_name_23 ?_
      refine lv_goto hx hb d_Mod_name_24 rfl ?_
      have hPc := hP.sub (ws' := [(mo, .inr (10, [.ref tb, .ref te, .ref ho, .ref xq, .int (iI 0), .int (iI 0), .int (iI 0), .int (iI (bN false)), .ref cq, .ref pq, .int (iI 0), .int (iI (-1))]))]) [0] rfl
      have hDc := hD.sub (ws' := [(mo, .inr (10, [.ref tb, .ref te, .ref ho, .ref xq, .int (iI 0), .int (iI 0), .int (iI 0), .int (iI (bN false)), .ref cq, .ref pq, .int (iI 0), .int (iI (-1))]))]) [0] (by decide) rfl
      have hFc := va_free (wc := [(mo, .inr (10, [.ref tb, .ref te, .ref ho, .ref xq, .int (iI 0), .int (iI 0), .int (iI 0), .int (iI (bN false)), .ref cq, .ref pq, .int (iI 0), .int (iI (-1))]))]) hD hS hA [0] rfl
      refine zcW (va_runV (As := [.int (iI 1), .int (iI (bN true))]) (rest := []) S (c_Mod_refuse l E _ mo tb te ho xq cq pq 0 0 0 0 (-1) 1 true) ⟨zcwB (n := 2) S zw_1056 zw_14 zw_1053 (by decide +kernel) rfl rfl ⟨Nat.le_of_ble_eq_true rfl, Nat.le_of_ble_eq_true rfl⟩, S.2.2.2.2 _ zw_1055, S.2.2.2.2 _ zs_30⟩ (zPreV hE (hP 0 _ rfl) rfl ⟨rfl, hPc, hDc.weaken (fun _ _ _ h => hA0 _ h), trivial⟩) rfl rfl hl.1 rfl (lv_room (Nat.le_of_ble_eq_true rfl)) d_Mod_name_28 ⟨by (try dsimp only); omega, by (try dsimp only); omega⟩) hS (fun q _ h => hFc q h) hFc (fun v H locs hq hz1 hk1 hS => ?_)
      obtain ⟨rfl, hP1, hD1⟩ := hq
      obtain ⟨hP, hD⟩ := va_join (wr := [(ho, .inr (13, [.int (iI 0), .ref hq, .ref nl, .ref ul, .ref mk]))]) (w1 := [(mo, .inr (10, [.ref tb, .ref te, .ref ho, .ref xq, .int (iI 0), .int (iI 1), .int (iI 0), .int (iI (bN false)), .ref cq, .ref pq, .int (iI 0), .int (iI (-1))]))]) hP hD [0] [1] rfl rfl (by decide) (by decide) hk1 hFc hP1 hD1
      have hP : va_P E.1 zcl [(ho, .inr (13, [.int (iI 0), .ref hq, .ref nl, .ref ul, .ref mk])), (mo, .inr (10, [.ref tb, .ref te, .ref ho, .ref xq, .int (iI 0), .int (iI 1), .int (iI 0), .int (iI (bN false)), .ref cq, .ref pq, .int (iI 0), .int (iI (-1))]))] H := hP
      have hD : va_D A [(ho, .inr (13, [.int (iI 0), .ref hq, .ref nl, .ref ul, .ref mk])), (mo, .inr (10, [.ref tb, .ref te, .ref ho, .ref xq, .int (iI 0), .int (iI 1), .int (iI 0), .int (iI (bN false)), .ref cq, .ref pq, .int (iI 0), .int (iI (-1))]))] := hD
      have hE := hE0.at hS hA0
      refine W.eq (g2 := F0 m 31 ls ([.int (iI 1)])) rfl ?_
      refine zi_if_eq hx hb d_Mod_name_31 rfl (by omega) (fun h31 => absurd h31 (by omega)) (fun h31 => ?_)
      refine zi_iconst hx hb d_Mod_name_34 ?_
      exact zwi S hr hlk hS (⟨rfl, ⟨_, _, _, _, _, _, _, _, _, _, _, (hP 1 _ rfl)⟩⟩) (by (try dsimp only); omega) (by (try dsimp only); omega) d_Mod_name_35

set_option maxRecDepth 100000 in
set_option maxHeartbeats 4000000 in
theorem c_Mod_mark (l : Launch) (E : zP) (sz : Nat) (mo tb te ho xq cq pq : Nat) (hq nl ul mk : Nat) (fc : Nat → Int32) : Met l y_Mod_mark (.code y_Mod_mark b_Mod_mark 1 ( some FieldType.int ) :: zw) { frames := 2, cells := (1), slots := (0), locals := 60 } (zPc E [.ref mo] (fun H => H.size = sz ∧ va_P E.1 zcl [(mo, .inr (10, [.ref tb, .ref te, .ref ho, .ref xq, .int (iI 0), .int (iI 0), .int (iI 0), .int (iI (bN false)), .ref cq, .ref pq, .int (iI 0), .int (iI (-1))])), (ho, .inr (13, [.int (iI 0), .ref hq, .ref nl, .ref ul, .ref mk])), (cq, .inl (E.2.1 2, 65536, .inl fc))] H ∧ va_D (zOld E) [(mo, .inr (10, [.ref tb, .ref te, .ref ho, .ref xq, .int (iI 0), .int (iI 0), .int (iI 0), .int (iI (bN false)), .ref cq, .ref pq, .int (iI 0), .int (iI (-1))])), (ho, .inr (13, [.int (iI 0), .ref hq, .ref nl, .ref ul, .ref mk])), (cq, .inl (E.2.1 2, 65536, .inl fc))] ∧ (True))) (zW (fun v H => v = some (.int (iI 0)) ∧ zTh E mo 0 H) (va_A [(mo, .inr (10, [.ref tb, .ref te, .ref ho, .ref xq, .int (iI 0), .int (iI 0), .int (iI 0), .int (iI (bN false)), .ref cq, .ref pq, .int (iI 0), .int (iI (-1))])), (ho, .inr (13, [.int (iI 0), .ref hq, .ref nl, .ref ul, .ref mk])), (cq, .inl (E.2.1 2, 65536, .inl fc))] sz)) (1) (0) (va_A [(mo, .inr (10, [.ref tb, .ref te, .ref ho, .ref xq, .int (iI 0), .int (iI 0), .int (iI 0), .int (iI (bN false)), .ref cq, .ref pq, .int (iI 0), .int (iI (-1))])), (ho, .inr (13, [.int (iI 0), .ref hq, .ref nl, .ref ul, .ref mk])), (cq, .inl (E.2.1 2, 65536, .inl fc))] sz) := by
  refine zMet (by decide) (Nat.le_of_ble_eq_true rfl) ?_
  intro p e s m below meth c ls S hr hlk hnm hE ⟨hsz, hP, hDo, hX⟩ hl
  have hx := S.1
  have hb := S.2.1
  have hE0 := hE
  have hl : lv_has ls 1 [(0, .ref mo)] := hl
  subst hsz
  have hD := hDo.self (sz := s.heap.size)
  generalize hAe : va_A [(mo, .inr (10, [.ref tb, .ref te, .ref ho, .ref xq, .int (iI 0), .int (iI 0), .int (iI 0), .int (iI (bN false)), .ref cq, .ref pq, .int (iI 0), .int (iI (-1))])), (ho, .inr (13, [.int (iI 0), .ref hq, .ref nl, .ref ul, .ref mk])), (cq, .inl (E.2.1 2, 65536, .inl fc))] s.heap.size = A at hD ⊢
  have hA : ∀ q : Nat, s.heap.size ≤ q → A q := fun q h => by rw [← hAe]; exact Or.inr h
  have hA0 := zA0 hE hDo hAe
  have hS : va_S A s.heap s.heap [] := va_S.rf
  refine lv_aload_n hx hb d_Mod_mark_0 rfl (lv_at hl 0 rfl) ?_
  refine zi_iconst hx hb d_Mod_mark_1 ?_
  refine va_put (D := E.1) (ci := 10) (v := .int (iI 0)) (ty := .int) (C := "ReplacementWriterModel") (T := F_Mod) (N := 12) hx hb S.2.2.2.2 i_Mod t_Mod t_Mod_ok n_Mod S.2.2.2.1 hE.1 hP hD hS 0 rfl rfl 5 (by decide) (S.2.2.2.2 _ zw_1012) (fun _ h9 => h9) rfl (by decide +kernel) rfl rfl (Nat.le_of_ble_eq_true rfl) d_Mod_mark_2 (fun H locs hP hD hS => ?_)
  have hP : va_P E.1 zcl [(mo, .inr (10, [.ref tb, .ref te, .ref ho, .ref xq, .int (iI 0), .int (iI 0), .int (iI 0), .int (iI (bN false)), .ref cq, .ref pq, .int (iI 0), .int (iI (-1))])), (ho, .inr (13, [.int (iI 0), .ref hq, .ref nl, .ref ul, .ref mk])), (cq, .inl (E.2.1 2, 65536, .inl fc))] H := hP
  have hD : va_D A [(mo, .inr (10, [.ref tb, .ref te, .ref ho, .ref xq, .int (iI 0), .int (iI 0), .int (iI 0), .int (iI (bN false)), .ref cq, .ref pq, .int (iI 0), .int (iI (-1))])), (ho, .inr (13, [.int (iI 0), .ref hq, .ref nl, .ref ul, .ref mk])), (cq, .inl (E.2.1 2, 65536, .inl fc))] := hD
  have hE := hE0.at hS hA0
  refine lv_aload_n hx hb d_Mod_mark_5 rfl (lv_at hl 0 rfl) ?_
  refine zi_iconst hx hb d_Mod_mark_6 ?_
  refine lv_aload_n hx hb d_Mod_mark_7 rfl (lv_at hl 0 rfl) ?_
  have hPc := hP.sub (ws' := [(mo, .inr (10, [.ref tb, .ref te, .ref ho, .ref xq, .int (iI 0), .int (iI 0), .int (iI 0), .int (iI (bN false)), .ref cq, .ref pq, .int (iI 0), .int (iI (-1))]))]) [0] rfl
  have hDc := hD.sub (ws' := [(mo, .inr (10, [.ref tb, .ref te, .ref ho, .ref xq, .int (iI 0), .int (iI 0), .int (iI 0), .int (iI (bN false)), .ref cq, .ref pq, .int (iI 0), .int (iI (-1))]))]) [0] (by decide) rfl
  have hFc := va_free (wc := [(mo, .inr (10, [.ref tb, .ref te, .ref ho, .ref xq, .int (iI 0), .int (iI 0), .int (iI 0), .int (iI (bN false)), .ref cq, .ref pq, .int (iI 0), .int (iI (-1))]))]) hD hS hA [0] rfl
  refine zcW (va_runV (As := []) (rest := [.int (iI 1), .ref mo]) S (c_Mod_characters l E _ mo tb te ho xq cq pq 0) ⟨zcwB (n := 0) S zw_1073 zw_14 zw_1070 (by decide +kernel) rfl rfl ⟨Nat.le_of_ble_eq_true rfl, Nat.le_of_ble_eq_true rfl⟩, S.2.2.2.2 _ zw_1072, S.2.2.2.2 _ zs_31⟩ (zPreV hE (hP 0 _ rfl) rfl ⟨rfl, hPc, hDc.weaken (fun _ _ _ h => hA0 _ h), trivial⟩) rfl rfl hl.1 rfl (lv_room (Nat.le_of_ble_eq_true rfl)) d_Mod_mark_8 ⟨by (try dsimp only); omega, by (try dsimp only); omega⟩) hS (fun q _ h => hFc q h) hFc (fun v H locs hq hz1 hk1 hS => ?_)
  obtain ⟨rfl, hP1, hD1⟩ := hq
  obtain ⟨hP, hD⟩ := va_join (wr := [(ho, .inr (13, [.int (iI 0), .ref hq, .ref nl, .ref ul, .ref mk])), (cq, .inl (E.2.1 2, 65536, .inl fc))]) (w1 := [(mo, .inr (10, [.ref tb, .ref te, .ref ho, .ref xq, .int (iI 0), .int (iI 0), .int (iI 0), .int (iI (bN false)), .ref cq, .ref pq, .int (iI 0), .int (iI (-1))]))]) hP hD [0] [1, 2] rfl rfl (by decide) (by decide) hk1 hFc hP1 hD1
  have hP : va_P E.1 zcl [(ho, .inr (13, [.int (iI 0), .ref hq, .ref nl, .ref ul, .ref mk])), (cq, .inl (E.2.1 2, 65536, .inl fc)), (mo, .inr (10, [.ref tb, .ref te, .ref ho, .ref xq, .int (iI 0), .int (iI 0), .int (iI 0), .int (iI (bN false)), .ref cq, .ref pq, .int (iI 0), .int (iI (-1))]))] H := hP
  have hD : va_D A [(ho, .inr (13, [.int (iI 0), .ref hq, .ref nl, .ref ul, .ref mk])), (cq, .inl (E.2.1 2, 65536, .inl fc)), (mo, .inr (10, [.ref tb, .ref te, .ref ho, .ref xq, .int (iI 0), .int (iI 0), .int (iI 0), .int (iI (bN false)), .ref cq, .ref pq, .int (iI 0), .int (iI (-1))]))] := hD
  have hE := hE0.at hS hA0
  refine zi_if_lt hx hb d_Mod_mark_11 rfl (by omega) (fun h11 => ?_) (fun h11 => absurd h11 (by omega))
  refine zi_iconst hx hb d_Mod_mark_18 ?_
  have hPc := hP.sub (ws' := [(mo, .inr (10, [.ref tb, .ref te, .ref ho, .ref xq, .int (iI 0), .int (iI 0), .int (iI 0), .int (iI (bN false)), .ref cq, .ref pq, .int (iI 0), .int (iI (-1))]))]) [2] rfl
  have hDc := hD.sub (ws' := [(mo, .inr (10, [.ref tb, .ref te, .ref ho, .ref xq, .int (iI 0), .int (iI 0), .int (iI 0), .int (iI (bN false)), .ref cq, .ref pq, .int (iI 0), .int (iI (-1))]))]) [2] (by decide) rfl
  have hFc := va_free (wc := [(mo, .inr (10, [.ref tb, .ref te, .ref ho, .ref xq, .int (iI 0), .int (iI 0), .int (iI 0), .int (iI (bN false)), .ref cq, .ref pq, .int (iI 0), .int (iI (-1))]))]) hD hS hA [2] rfl
  refine zcW (va_runV (As := [.int (iI 1), .int (iI (bN false))]) (rest := []) S (c_Mod_refuse l E _ mo tb te ho xq cq pq 0 0 0 0 (-1) 1 false) ⟨zcwB (n := 2) S zw_1056 zw_14 zw_1053 (by decide +kernel) rfl rfl ⟨Nat.le_of_ble_eq_true rfl, Nat.le_of_ble_eq_true rfl⟩, S.2.2.2.2 _ zw_1055, S.2.2.2.2 _ zs_30⟩ (zPreV hE (hP 2 _ rfl) rfl ⟨rfl, hPc, hDc.weaken (fun _ _ _ h => hA0 _ h), trivial⟩) rfl rfl hl.1 rfl (lv_room (Nat.le_of_ble_eq_true rfl)) d_Mod_mark_19 ⟨by (try dsimp only); omega, by (try dsimp only); omega⟩) hS (fun q _ h => hFc q h) hFc (fun v H locs hq hz1 hk1 hS => ?_)
  obtain ⟨rfl, hP1, hD1⟩ := hq
  obtain ⟨hP, hD⟩ := va_join (wr := [(ho, .inr (13, [.int (iI 0), .ref hq, .ref nl, .ref ul, .ref mk])), (cq, .inl (E.2.1 2, 65536, .inl fc))]) (w1 := [(mo, .inr (10, [.ref tb, .ref te, .ref ho, .ref xq, .int (iI 0), .int (iI 0), .int (iI 0), .int (iI (bN false)), .ref cq, .ref pq, .int (iI 0), .int (iI (-1))]))]) hP hD [2] [0, 1] rfl rfl (by decide) (by decide) hk1 hFc hP1 hD1
  have hP : va_P E.1 zcl [(ho, .inr (13, [.int (iI 0), .ref hq, .ref nl, .ref ul, .ref mk])), (cq, .inl (E.2.1 2, 65536, .inl fc)), (mo, .inr (10, [.ref tb, .ref te, .ref ho, .ref xq, .int (iI 0), .int (iI 0), .int (iI 0), .int (iI (bN false)), .ref cq, .ref pq, .int (iI 0), .int (iI (-1))]))] H := hP
  have hD : va_D A [(ho, .inr (13, [.int (iI 0), .ref hq, .ref nl, .ref ul, .ref mk])), (cq, .inl (E.2.1 2, 65536, .inl fc)), (mo, .inr (10, [.ref tb, .ref te, .ref ho, .ref xq, .int (iI 0), .int (iI 0), .int (iI 0), .int (iI (bN false)), .ref cq, .ref pq, .int (iI 0), .int (iI (-1))]))] := hD
  have hE := hE0.at hS hA0
  refine W.eq (g2 := F0 m 22 ls ([.int (iI 0)])) rfl ?_
  refine zi_if_eq hx hb d_Mod_mark_22 rfl (by omega) (fun h22 => ?_) (fun h22 => absurd h22 (by omega))
  refine lv_aload_n hx hb d_Mod_mark_27 rfl (lv_at hl 0 rfl) ?_
  refine zgf S hE (ci := 10) rfl i_Mod (hP 2 _ rfl) 2 (by decide) zw_1009 rfl d_Mod_mark_28 ?_
  refine lv_aload_n hx hb d_Mod_mark_31 rfl (lv_at hl 0 rfl) ?_
  have hPc := hP.sub (ws' := [(mo, .inr (10, [.ref tb, .ref te, .ref ho, .ref xq, .int (iI 0), .int (iI 0), .int (iI 0), .int (iI (bN false)), .ref cq, .ref pq, .int (iI 0), .int (iI (-1))])), (cq, .inl (E.2.1 2, 65536, .inl fc))]) [2, 1] rfl
  have hDc := hD.sub (ws' := [(mo, .inr (10, [.ref tb, .ref te, .ref ho, .ref xq, .int (iI 0), .int (iI 0), .int (iI 0), .int (iI (bN false)), .ref cq, .ref pq, .int (iI 0), .int (iI (-1))])), (cq, .inl (E.2.1 2, 65536, .inl fc))]) [2, 1] (by decide) rfl
  have hFc := va_free (wc := [(mo, .inr (10, [.ref tb, .ref te, .ref ho, .ref xq, .int (iI 0), .int (iI 0), .int (iI 0), .int (iI (bN false)), .ref cq, .ref pq, .int (iI 0), .int (iI (-1))])), (cq, .inl (E.2.1 2, 65536, .inl fc))]) hD hS hA [2, 1] rfl
  refine zcW (va_runV (As := []) (rest := [.ref ho]) S (c_Mod_taken l E _ mo tb te ho xq cq pq 0 fc) ⟨zcwB (n := 0) S zw_1080 zw_14 zw_1077 (by decide +kernel) rfl rfl ⟨Nat.le_of_ble_eq_true rfl, Nat.le_of_ble_eq_true rfl⟩, S.2.2.2.2 _ zw_1079, S.2.2.2.2 _ zs_32⟩ (zPreV hE (hP 2 _ rfl) rfl ⟨rfl, hPc, hDc.weaken (fun _ _ _ h => hA0 _ h), trivial⟩) rfl rfl hl.1 rfl (lv_room (Nat.le_of_ble_eq_true rfl)) d_Mod_mark_32 ⟨by (try dsimp only); omega, by (try dsimp only); omega⟩) hS (fun q _ h => hFc q h) hFc (fun v H locs hq hz1 hk1 hS => ?_)
  obtain ⟨w9, fw, rfl, hP1, hD1⟩ := hq
  obtain ⟨hP, hD⟩ := va_join (wr := [(ho, .inr (13, [.int (iI 0), .ref hq, .ref nl, .ref ul, .ref mk]))]) (w1 := [(mo, .inr (10, [.ref tb, .ref te, .ref ho, .ref xq, .int (iI 0), .int (iI 0), .int (iI 0), .int (iI (bN false)), .ref cq, .ref pq, .int (iI 0), .int (iI (-1))])), (cq, .inl (E.2.1 2, 65536, .inl fc)), (w9, .inl (E.2.1 2, 0, .inl fw))]) hP hD [2, 1] [0] rfl rfl (by decide) (by decide) hk1 hFc hP1 hD1
  have hP : va_P E.1 zcl [(ho, .inr (13, [.int (iI 0), .ref hq, .ref nl, .ref ul, .ref mk])), (mo, .inr (10, [.ref tb, .ref te, .ref ho, .ref xq, .int (iI 0), .int (iI 0), .int (iI 0), .int (iI (bN false)), .ref cq, .ref pq, .int (iI 0), .int (iI (-1))])), (cq, .inl (E.2.1 2, 65536, .inl fc)), (w9, .inl (E.2.1 2, 0, .inl fw))] H := hP
  have hD : va_D A [(ho, .inr (13, [.int (iI 0), .ref hq, .ref nl, .ref ul, .ref mk])), (mo, .inr (10, [.ref tb, .ref te, .ref ho, .ref xq, .int (iI 0), .int (iI 0), .int (iI 0), .int (iI (bN false)), .ref cq, .ref pq, .int (iI 0), .int (iI (-1))])), (cq, .inl (E.2.1 2, 65536, .inl fc)), (w9, .inl (E.2.1 2, 0, .inl fw))] := hD
  have hE := hE0.at hS hA0
  refine va_put (D := E.1) (ci := 13) (v := .ref w9) (ty := .array .int) (C := "ReplacementWriterModel$Holder") (T := F_Holder) (N := 5) hx hb S.2.2.2.2 i_Holder t_Holder t_Holder_ok n_Holder S.2.2.2.1 hE.1 hP hD hS 0 rfl rfl 4 (by decide) (S.2.2.2.2 _ zw_988) (fun _ h9 => h9) rfl (by decide +kernel) rfl rfl (Nat.le_of_ble_eq_true rfl) d_Mod_mark_35 (fun H locs hP hD hS => ?_)
  have hP : va_P E.1 zcl [(ho, .inr (13, [.int (iI 0), .ref hq, .ref nl, .ref ul, .ref w9])), (mo, .inr (10, [.ref tb, .ref te, .ref ho, .ref xq, .int (iI 0), .int (iI 0), .int (iI 0), .int (iI (bN false)), .ref cq, .ref pq, .int (iI 0), .int (iI (-1))])), (cq, .inl (E.2.1 2, 65536, .inl fc)), (w9, .inl (E.2.1 2, 0, .inl fw))] H := hP
  have hD : va_D A [(ho, .inr (13, [.int (iI 0), .ref hq, .ref nl, .ref ul, .ref w9])), (mo, .inr (10, [.ref tb, .ref te, .ref ho, .ref xq, .int (iI 0), .int (iI 0), .int (iI 0), .int (iI (bN false)), .ref cq, .ref pq, .int (iI 0), .int (iI (-1))])), (cq, .inl (E.2.1 2, 65536, .inl fc)), (w9, .inl (E.2.1 2, 0, .inl fw))] := hD
  have hE := hE0.at hS hA0
  refine lv_aload_n hx hb d_Mod_mark_38 rfl (lv_at hl 0 rfl) ?_
  refine zgf S hE (ci := 10) rfl i_Mod (hP 1 _ rfl) 10 (by decide) zw_1017 rfl d_Mod_mark_39 ?_
  exact zwi S hr hlk hS (⟨rfl, ⟨_, _, _, _, _, _, _, _, _, _, _, (hP 1 _ rfl)⟩⟩) (by (try dsimp only); omega) (by (try dsimp only); omega) d_Mod_mark_42

set_option maxRecDepth 100000 in
set_option maxHeartbeats 4000000 in
theorem c_Template_part (l : Launch) (E : zP) (sz : Nat) (te tb oq : Nat) (ho tq : Nat) (r1 r2 r3 : Bool) : Met l y_Template_part (.code y_Template_part b_Template_part 6 ( some FieldType.int ) :: zw) { frames := 0, cells := (0), slots := (0), locals := 0 } (zPc E [.ref te, .int (iI 0), .int (iI 0), .int (iI 0)] (fun H => H.size = sz ∧ va_P E.1 zcl [(te, .inr (12, [.ref tb, .ref ho, .int (iI (bN r1)), .int (iI (bN r2)), .int (iI (bN r3)), .ref tq, .int (iI 0), .ref oq, .int (iI 0), .int (iI 0), .int (iI 0), .int (iI (-1)), .int (iI 0)]))] H ∧ va_D (zOld E) [(te, .inr (12, [.ref tb, .ref ho, .int (iI (bN r1)), .int (iI (bN r2)), .int (iI (bN r3)), .ref tq, .int (iI 0), .ref oq, .int (iI 0), .int (iI 0), .int (iI 0), .int (iI (-1)), .int (iI 0)]))] ∧ (True))) (zW (fun v H => v = some (.int (iI 0)) ∧ va_P E.1 zcl [(te, .inr (12, [.ref tb, .ref ho, .int (iI (bN r1)), .int (iI (bN r2)), .int (iI (bN r3)), .ref tq, .int (iI 0), .ref oq, .int (iI 0), .int (iI 0), .int (iI 0), .int (iI (-1)), .int (iI 0)]))] H ∧ va_D (va_A [(te, .inr (12, [.ref tb, .ref ho, .int (iI (bN r1)), .int (iI (bN r2)), .int (iI (bN r3)), .ref tq, .int (iI 0), .ref oq, .int (iI 0), .int (iI 0), .int (iI 0), .int (iI (-1)), .int (iI 0)]))] sz) [(te, .inr (12, [.ref tb, .ref ho, .int (iI (bN r1)), .int (iI (bN r2)), .int (iI (bN r3)), .ref tq, .int (iI 0), .ref oq, .int (iI 0), .int (iI 0), .int (iI 0), .int (iI (-1)), .int (iI 0)]))]) (va_A [(te, .inr (12, [.ref tb, .ref ho, .int (iI (bN r1)), .int (iI (bN r2)), .int (iI (bN r3)), .ref tq, .int (iI 0), .ref oq, .int (iI 0), .int (iI 0), .int (iI 0), .int (iI (-1)), .int (iI 0)]))] sz)) (0) (0) (va_A [(te, .inr (12, [.ref tb, .ref ho, .int (iI (bN r1)), .int (iI (bN r2)), .int (iI (bN r3)), .ref tq, .int (iI 0), .ref oq, .int (iI 0), .int (iI 0), .int (iI 0), .int (iI (-1)), .int (iI 0)]))] sz) := by
  refine zMet (by decide) (Nat.le_of_ble_eq_true rfl) ?_
  intro p e s m below meth c ls S hr hlk hnm hE ⟨hsz, hP, hDo, hX⟩ hl
  have hx := S.1
  have hb := S.2.1
  have hE0 := hE
  have hl : lv_has ls 6 [(0, .ref te), (1, .int (iI 0)), (2, .int (iI 0)), (3, .int (iI 0))] := hl
  subst hsz
  have hD := hDo.self (sz := s.heap.size)
  generalize hAe : va_A [(te, .inr (12, [.ref tb, .ref ho, .int (iI (bN r1)), .int (iI (bN r2)), .int (iI (bN r3)), .ref tq, .int (iI 0), .ref oq, .int (iI 0), .int (iI 0), .int (iI 0), .int (iI (-1)), .int (iI 0)]))] s.heap.size = A at hD ⊢
  have hA : ∀ q : Nat, s.heap.size ≤ q → A q := fun q h => by rw [← hAe]; exact Or.inr h
  have hA0 := zA0 hE hDo hAe
  have hS : va_S A s.heap s.heap [] := va_S.rf
  refine lv_aload_n hx hb d_Template_part_0 rfl (lv_at hl 0 rfl) ?_
  refine lv_iload_n hx hb d_Template_part_1 rfl (lv_at hl 1 rfl) ?_
  refine va_put (D := E.1) (ci := 12) (v := .int (iI 0)) (ty := .int) (C := "ReplacementWriterModel$Template") (T := F_Template) (N := 13) hx hb S.2.2.2.2 i_Template t_Template t_Template_ok n_Template S.2.2.2.1 hE.1 hP hD hS 0 rfl rfl 12 (by decide) (S.2.2.2.2 _ zw_941) (fun _ h9 => h9) rfl (by decide +kernel) rfl rfl (Nat.le_of_ble_eq_true rfl) d_Template_part_2 (fun H locs hP hD hS => ?_)
  have hP : va_P E.1 zcl [(te, .inr (12, [.ref tb, .ref ho, .int (iI (bN r1)), .int (iI (bN r2)), .int (iI (bN r3)), .ref tq, .int (iI 0), .ref oq, .int (iI 0), .int (iI 0), .int (iI 0), .int (iI (-1)), .int (iI 0)]))] H := hP
  have hD : va_D A [(te, .inr (12, [.ref tb, .ref ho, .int (iI (bN r1)), .int (iI (bN r2)), .int (iI (bN r3)), .ref tq, .int (iI 0), .ref oq, .int (iI 0), .int (iI 0), .int (iI 0), .int (iI (-1)), .int (iI 0)]))] := hD
  have hE := hE0.at hS hA0
  refine lv_aload_n hx hb d_Template_part_5 rfl (lv_at hl 0 rfl) ?_
  refine zgf S hE (ci := 12) rfl i_Template (hP 0 _ rfl) 12 (by decide) zw_941 rfl d_Template_part_6 ?_
  refine lv_iload_n hx hb d_Template_part_9 rfl (lv_at hl 2 rfl) ?_
  refine zi_icmp_ge hx hb d_Template_part_10 rfl (by omega) (by omega) (fun h10 => ?_) (fun h => absurd h (by omega))
  refine zi_iconst hx hb d_Template_part_103 ?_
  exact zwi S hr hlk hS (⟨rfl, hP, hD⟩) (by (try dsimp only); omega) (by (try dsimp only); omega) d_Template_part_104

set_option maxRecDepth 100000 in
set_option maxHeartbeats 4000000 in
theorem c_Template_write (l : Launch) (E : zP) (sz : Nat) (te tb oq : Nat) (ho tq : Nat) (k : Int) : Met l y_Template_write (.code y_Template_write b_Template_write 4 ( some FieldType.int ) :: zw) { frames := 1, cells := (0), slots := (0), locals := 25 } (zPc E [.ref te, .ref ho, .int (iI k)] (fun H => H.size = sz ∧ va_P E.1 zcl [(te, .inr (12, [.ref tb, .null, .int (iI (bN false)), .int (iI (bN false)), .int (iI (bN false)), .ref tq, .int (iI 0), .ref oq, .int (iI 0), .int (iI 0), .int (iI 0), .int (iI (-1)), .int (iI 0)]))] H ∧ va_D (zOld E) [(te, .inr (12, [.ref tb, .null, .int (iI (bN false)), .int (iI (bN false)), .int (iI (bN false)), .ref tq, .int (iI 0), .ref oq, .int (iI 0), .int (iI 0), .int (iI 0), .int (iI (-1)), .int (iI 0)]))] ∧ (True))) (zW (fun v H => v = some (.int (iI 0)) ∧ ∃ r1 r2 r3 : Bool, va_P E.1 zcl [(te, .inr (12, [.ref tb, .ref ho, .int (iI (bN r1)), .int (iI (bN r2)), .int (iI (bN r3)), .ref tq, .int (iI 0), .ref oq, .int (iI 0), .int (iI 0), .int (iI 0), .int (iI (-1)), .int (iI 0)]))] H ∧ va_D (va_A [(te, .inr (12, [.ref tb, .null, .int (iI (bN false)), .int (iI (bN false)), .int (iI (bN false)), .ref tq, .int (iI 0), .ref oq, .int (iI 0), .int (iI 0), .int (iI 0), .int (iI (-1)), .int (iI 0)]))] sz) [(te, .inr (12, [.ref tb, .ref ho, .int (iI (bN r1)), .int (iI (bN r2)), .int (iI (bN r3)), .ref tq, .int (iI 0), .ref oq, .int (iI 0), .int (iI 0), .int (iI 0), .int (iI (-1)), .int (iI 0)]))]) (va_A [(te, .inr (12, [.ref tb, .null, .int (iI (bN false)), .int (iI (bN false)), .int (iI (bN false)), .ref tq, .int (iI 0), .ref oq, .int (iI 0), .int (iI 0), .int (iI 0), .int (iI (-1)), .int (iI 0)]))] sz)) (0) (0) (va_A [(te, .inr (12, [.ref tb, .null, .int (iI (bN false)), .int (iI (bN false)), .int (iI (bN false)), .ref tq, .int (iI 0), .ref oq, .int (iI 0), .int (iI 0), .int (iI 0), .int (iI (-1)), .int (iI 0)]))] sz) := by
  refine zMet (by decide) (Nat.le_of_ble_eq_true rfl) ?_
  intro p e s m below meth c ls S hr hlk hnm hE ⟨hsz, hP, hDo, hX⟩ hl
  have hx := S.1
  have hb := S.2.1
  have hE0 := hE
  have hl : lv_has ls 4 [(0, .ref te), (1, .ref ho), (2, .int (iI k))] := hl
  subst hsz
  have hD := hDo.self (sz := s.heap.size)
  generalize hAe : va_A [(te, .inr (12, [.ref tb, .null, .int (iI (bN false)), .int (iI (bN false)), .int (iI (bN false)), .ref tq, .int (iI 0), .ref oq, .int (iI 0), .int (iI 0), .int (iI 0), .int (iI (-1)), .int (iI 0)]))] s.heap.size = A at hD ⊢
  have hA : ∀ q : Nat, s.heap.size ≤ q → A q := fun q h => by rw [← hAe]; exact Or.inr h
  have hA0 := zA0 hE hDo hAe
  have hS : va_S A s.heap s.heap [] := va_S.rf
  refine lv_aload_n hx hb d_Template_write_0 rfl (lv_at hl 0 rfl) ?_
  refine lv_aload_n hx hb d_Template_write_1 rfl (lv_at hl 1 rfl) ?_
  refine va_put (D := E.1) (ci := 12) (v := .ref ho) (ty := .object "ReplacementWriterModel$Source") (C := "ReplacementWriterModel$Template") (T := F_Template) (N := 13) hx hb S.2.2.2.2 i_Template t_Template t_Template_ok n_Template S.2.2.2.1 hE.1 hP hD hS 0 rfl rfl 1 (by decide) (S.2.2.2.2 _ zw_925) (fun _ h9 => h9) rfl (by decide +kernel) rfl rfl (Nat.le_of_ble_eq_true rfl) d_Template_write_2 (fun H locs hP hD hS => ?_)
  have hP : va_P E.1 zcl [(te, .inr (12, [.ref tb, .ref ho, .int (iI (bN false)), .int (iI (bN false)), .int (iI (bN false)), .ref tq, .int (iI 0), .ref oq, .int (iI 0), .int (iI 0), .int (iI 0), .int (iI (-1)), .int (iI 0)]))] H := hP
  have hD : va_D A [(te, .inr (12, [.ref tb, .ref ho, .int (iI (bN false)), .int (iI (bN false)), .int (iI (bN false)), .ref tq, .int (iI 0), .ref oq, .int (iI 0), .int (iI 0), .int (iI 0), .int (iI (-1)), .int (iI 0)]))] := hD
  have hE := hE0.at hS hA0
  refine lv_aload_n hx hb d_Template_write_5 rfl (lv_at hl 0 rfl) ?_
  refine lv_iload_n hx hb d_Template_write_6 rfl (lv_at hl 2 rfl) ?_
  refine zi_sipush hx hb d_Template_write_7 (by decide) ?_
  refine zi_iand (r := (iI k &&& iI 512).toInt) hx hb d_Template_write_10 (iI_of _) ?_
  refine zi_if_eq hx hb d_Template_write_11 rfl (iI_r _) (fun h11 => ?_) (fun h11 => ?_)
  · skip
    refine zi_iconst hx hb d_Template_write_18 ?_
    refine va_put (D := E.1) (ci := 12) (v := .int (iI (bN false))) (ty := .boolean) (C := "ReplacementWriterModel$Template") (T := F_Template) (N := 13) hx hb S.2.2.2.2 i_Template t_Template t_Template_ok n_Template S.2.2.2.1 hE.1 hP hD hS 0 rfl rfl 2 (by decide) (S.2.2.2.2 _ zw_926) (fun _ h9 => h9) rfl (by decide +kernel) (bN_nar _) (bN_fit _) (Nat.le_of_ble_eq_true rfl) d_Template_write_19 (fun H locs hP hD hS => ?_)
    have hP : va_P E.1 zcl [(te, .inr (12, [.ref tb, .ref ho, .int (iI (bN false)), .int (iI (bN false)), .int (iI (bN false)), .ref tq, .int (iI 0), .ref oq, .int (iI 0), .int (iI 0), .int (iI 0), .int (iI (-1)), .int (iI 0)]))] H := hP
    have hD : va_D A [(te, .inr (12, [.ref tb, .ref ho, .int (iI (bN false)), .int (iI (bN false)), .int (iI (bN false)), .ref tq, .int (iI 0), .ref oq, .int (iI 0), .int (iI 0), .int (iI 0), .int (iI (-1)), .int (iI 0)]))] := hD
    have hE := hE0.at hS hA0
    refine lv_aload_n hx hb d_Template_write_22 rfl (lv_at hl 0 rfl) ?_
    refine lv_iload_n hx hb d_Template_write_23 rfl (lv_at hl 2 rfl) ?_
    refine zi_sipush hx hb d_Template_write_24 (by decide) ?_
    refine zi_iand (r := (iI k &&& iI 1024).toInt) hx hb d_Template_write_27 (iI_of _) ?_
    refine zi_if_eq hx hb d_Template_write_28 rfl (iI_r _) (fun h28 => ?_) (fun h28 => ?_)
    · skip
      refine zi_iconst hx hb d_Template_write_35 ?_
      refine va_put (D := E.1) (ci := 12) (v := .int (iI (bN false))) (ty := .boolean) (C := "ReplacementWriterModel$Template") (T := F_Template) (N := 13) hx hb S.2.2.2.2 i_Template t_Template t_Template_ok n_Template S.2.2.2.1 hE.1 hP hD hS 0 rfl rfl 3 (by decide) (S.2.2.2.2 _ zw_927) (fun _ h9 => h9) rfl (by decide +kernel) (bN_nar _) (bN_fit _) (Nat.le_of_ble_eq_true rfl) d_Template_write_36 (fun H locs hP hD hS => ?_)
      have hP : va_P E.1 zcl [(te, .inr (12, [.ref tb, .ref ho, .int (iI (bN false)), .int (iI (bN false)), .int (iI (bN false)), .ref tq, .int (iI 0), .ref oq, .int (iI 0), .int (iI 0), .int (iI 0), .int (iI (-1)), .int (iI 0)]))] H := hP
      have hD : va_D A [(te, .inr (12, [.ref tb, .ref ho, .int (iI (bN false)), .int (iI (bN false)), .int (iI (bN false)), .ref tq, .int (iI 0), .ref oq, .int (iI 0), .int (iI 0), .int (iI 0), .int (iI (-1)), .int (iI 0)]))] := hD
      have hE := hE0.at hS hA0
      refine lv_aload_n hx hb d_Template_write_39 rfl (lv_at hl 0 rfl) ?_
      refine lv_iload_n hx hb d_Template_write_40 rfl (lv_at hl 2 rfl) ?_
      refine zi_sipush hx hb d_Template_write_41 (by decide) ?_
      refine zi_iand (r := (iI k &&& iI 2048).toInt) hx hb d_Template_write_44 (iI_of _) ?_
      refine zi_if_eq hx hb d_Template_write_45 rfl (iI_r _) (fun h45 => ?_) (fun h45 => ?_)
      · skip
        refine zi_iconst hx hb d_Template_write_52 ?_
        refine va_put (D := E.1) (ci := 12) (v := .int (iI (bN false))) (ty := .boolean) (C := "ReplacementWriterModel$Template") (T := F_Template) (N := 13) hx hb S.2.2.2.2 i_Template t_Template t_Template_ok n_Template S.2.2.2.1 hE.1 hP hD hS 0 rfl rfl 4 (by decide) (S.2.2.2.2 _ zw_928) (fun _ h9 => h9) rfl (by decide +kernel) (bN_nar _) (bN_fit _) (Nat.le_of_ble_eq_true rfl) d_Template_write_53 (fun H locs hP hD hS => ?_)
        have hP : va_P E.1 zcl [(te, .inr (12, [.ref tb, .ref ho, .int (iI (bN false)), .int (iI (bN false)), .int (iI (bN false)), .ref tq, .int (iI 0), .ref oq, .int (iI 0), .int (iI 0), .int (iI 0), .int (iI (-1)), .int (iI 0)]))] H := hP
        have hD : va_D A [(te, .inr (12, [.ref tb, .ref ho, .int (iI (bN false)), .int (iI (bN false)), .int (iI (bN false)), .ref tq, .int (iI 0), .ref oq, .int (iI 0), .int (iI 0), .int (iI 0), .int (iI (-1)), .int (iI 0)]))] := hD
        have hE := hE0.at hS hA0
        refine lv_aload_n hx hb d_Template_write_56 rfl (lv_at hl 0 rfl) ?_
        refine zi_iconst hx hb d_Template_write_57 ?_
        refine va_put (D := E.1) (ci := 12) (v := .int (iI 0)) (ty := .int) (C := "ReplacementWriterModel$Template") (T := F_Template) (N := 13) hx hb S.2.2.2.2 i_Template t_Template t_Template_ok n_Template S.2.2.2.1 hE.1 hP hD hS 0 rfl rfl 9 (by decide) (S.2.2.2.2 _ zw_937) (fun _ h9 => h9) rfl (by decide +kernel) rfl rfl (Nat.le_of_ble_eq_true rfl) d_Template_write_58 (fun H locs hP hD hS => ?_)
        have hP : va_P E.1 zcl [(te, .inr (12, [.ref tb, .ref ho, .int (iI (bN false)), .int (iI (bN false)), .int (iI (bN false)), .ref tq, .int (iI 0), .ref oq, .int (iI 0), .int (iI 0), .int (iI 0), .int (iI (-1)), .int (iI 0)]))] H := hP
        have hD : va_D A [(te, .inr (12, [.ref tb, .ref ho, .int (iI (bN false)), .int (iI (bN false)), .int (iI (bN false)), .ref tq, .int (iI 0), .ref oq, .int (iI 0), .int (iI 0), .int (iI 0), .int (iI (-1)), .int (iI 0)]))] := hD
        have hE := hE0.at hS hA0
        refine lv_aload_n hx hb d_Template_write_61 rfl (lv_at hl 0 rfl) ?_
        refine zi_iconst hx hb d_Template_write_62 ?_
        refine va_put (D := E.1) (ci := 12) (v := .int (iI 0)) (ty := .int) (C := "ReplacementWriterModel$Template") (T := F_Template) (N := 13) hx hb S.2.2.2.2 i_Template t_Template t_Template_ok n_Template S.2.2.2.1 hE.1 hP hD hS 0 rfl rfl 10 (by decide) (S.2.2.2.2 _ zw_938) (fun _ h9 => h9) rfl (by decide +kernel) rfl rfl (Nat.le_of_ble_eq_true rfl) d_Template_write_63 (fun H locs hP hD hS => ?_)
        have hP : va_P E.1 zcl [(te, .inr (12, [.ref tb, .ref ho, .int (iI (bN false)), .int (iI (bN false)), .int (iI (bN false)), .ref tq, .int (iI 0), .ref oq, .int (iI 0), .int (iI 0), .int (iI 0), .int (iI (-1)), .int (iI 0)]))] H := hP
        have hD : va_D A [(te, .inr (12, [.ref tb, .ref ho, .int (iI (bN false)), .int (iI (bN false)), .int (iI (bN false)), .ref tq, .int (iI 0), .ref oq, .int (iI 0), .int (iI 0), .int (iI 0), .int (iI (-1)), .int (iI 0)]))] := hD
        have hE := hE0.at hS hA0
        refine lv_aload_n hx hb d_Template_write_66 rfl (lv_at hl 0 rfl) ?_
        refine zi_iconst hx hb d_Template_write_67 ?_
        refine va_put (D := E.1) (ci := 12) (v := .int (iI (-1))) (ty := .int) (C := "ReplacementWriterModel$Template") (T := F_Template) (N := 13) hx hb S.2.2.2.2 i_Template t_Template t_Template_ok n_Template S.2.2.2.1 hE.1 hP hD hS 0 rfl rfl 11 (by decide) (S.2.2.2.2 _ zw_939) (fun _ h9 => h9) rfl (by decide +kernel) rfl rfl (Nat.le_of_ble_eq_true rfl) d_Template_write_68 (fun H locs hP hD hS => ?_)
        have hP : va_P E.1 zcl [(te, .inr (12, [.ref tb, .ref ho, .int (iI (bN false)), .int (iI (bN false)), .int (iI (bN false)), .ref tq, .int (iI 0), .ref oq, .int (iI 0), .int (iI 0), .int (iI 0), .int (iI (-1)), .int (iI 0)]))] H := hP
        have hD : va_D A [(te, .inr (12, [.ref tb, .ref ho, .int (iI (bN false)), .int (iI (bN false)), .int (iI (bN false)), .ref tq, .int (iI 0), .ref oq, .int (iI 0), .int (iI 0), .int (iI 0), .int (iI (-1)), .int (iI 0)]))] := hD
        have hE := hE0.at hS hA0
        refine lv_iload_n hx hb d_Template_write_71 rfl (lv_at hl 2 rfl) ?_
        refine zi_sipush hx hb d_Template_write_72 (by decide) ?_
        refine zi_iand (r := (iI k &&& iI 4096).toInt) hx hb d_Template_write_75 (iI_of _) ?_
        refine zi_if_eq hx hb d_Template_write_76 rfl (iI_r _) (fun h76 => ?_) (fun h76 => ?_)
        · skip
          refine lv_aload_n hx hb d_Template_write_113 rfl (lv_at hl 0 rfl) ?_
          refine zi_iconst hx hb d_Template_write_114 ?_
          refine lv_aload_n hx hb d_Template_write_115 rfl (lv_at hl 0 rfl) ?_
          refine zgf S hE (ci := 12) rfl i_Template (hP 0 _ rfl) 6 (by decide) zw_931 rfl d_Template_write_116 ?_
          refine zi_iconst hx hb d_Template_write_119 ?_
          have hPc := hP.sub (ws' := [(te, .inr (12, [.ref tb, .ref ho, .int (iI (bN false)), .int (iI (bN false)), .int (iI (bN false)), .ref tq, .int (iI 0), .ref oq, .int (iI 0), .int (iI 0), .int (iI 0), .int (iI (-1)), .int (iI 0)]))]) [0] rfl
          have hDc := hD.sub (ws' := [(te, .inr (12, [.ref tb, .ref ho, .int (iI (bN false)), .int (iI (bN false)), .int (iI (bN false)), .ref tq, .int (iI 0), .ref oq, .int (iI 0), .int (iI 0), .int (iI 0), .int (iI (-1)), .int (iI 0)]))]) [0] (by decide) rfl
          have hFc := va_free (wc := [(te, .inr (12, [.ref tb, .ref ho, .int (iI (bN false)), .int (iI (bN false)), .int (iI (bN false)), .ref tq, .int (iI 0), .ref oq, .int (iI 0), .int (iI 0), .int (iI 0), .int (iI (-1)), .int (iI 0)]))]) hD hS hA [0] rfl
          refine zcW (va_runV (As := [.int (iI 0), .int (iI 0), .int (iI 0)]) (rest := []) S (c_Template_part l E _ te tb oq ho tq false false false) ⟨zcwB (n := 3) S zw_1148 zw_16 zw_1145 (by decide +kernel) rfl rfl ⟨Nat.le_of_ble_eq_true rfl, Nat.le_of_ble_eq_true rfl⟩, S.2.2.2.2 _ zw_1147, S.2.2.2.2 _ zs_34⟩ (zPreV hE (hP 0 _ rfl) rfl ⟨rfl, hPc, hDc.weaken (fun _ _ _ h => hA0 _ h), trivial⟩) rfl rfl hl.1 rfl (lv_room (Nat.le_of_ble_eq_true rfl)) d_Template_write_120 ⟨by (try dsimp only); omega, by (try dsimp only); omega⟩) hS (fun q _ h => hFc q h) hFc (fun v H locs hq hz1 hk1 hS => ?_)
          obtain ⟨rfl, hP1, hD1⟩ := hq
          obtain ⟨hP, hD⟩ := va_join (wr := []) (w1 := [(te, .inr (12, [.ref tb, .ref ho, .int (iI (bN false)), .int (iI (bN false)), .int (iI (bN false)), .ref tq, .int (iI 0), .ref oq, .int (iI 0), .int (iI 0), .int (iI 0), .int (iI (-1)), .int (iI 0)]))]) hP hD [0] [] rfl rfl (by decide) (by decide) hk1 hFc hP1 hD1
          have hP : va_P E.1 zcl [(te, .inr (12, [.ref tb, .ref ho, .int (iI (bN false)), .int (iI (bN false)), .int (iI (bN false)), .ref tq, .int (iI 0), .ref oq, .int (iI 0), .int (iI 0), .int (iI 0), .int (iI (-1)), .int (iI 0)]))] H := hP
          have hD : va_D A [(te, .inr (12, [.ref tb, .ref ho, .int (iI (bN false)), .int (iI (bN false)), .int (iI (bN false)), .ref tq, .int (iI 0), .ref oq, .int (iI 0), .int (iI 0), .int (iI 0), .int (iI (-1)), .int (iI 0)]))] := hD
          have hE := hE0.at hS hA0
          exact zwi S hr hlk hS (⟨rfl, false, false, false, hP, hD⟩) (by (try dsimp only); omega) (by (try dsimp only); omega) d_Template_write_123
        · skip
          refine zi_iconst hx hb d_Template_write_79 ?_
          refine lv_istore_n (lv' := [(3, .int (iI 0)), (0, .ref te), (1, .ref ho), (2, .int (iI k))]) hx hb d_Template_write_80 rfl hl (by decide) rfl (fun ls hl => ?_)
          refine lv_iload_n hx hb d_Template_write_81 rfl (lv_at hl 0 rfl) ?_
          refine lv_aload_n hx hb d_Template_write_82 rfl (lv_at hl 1 rfl) ?_
          refine zgf S hE (ci := 12) rfl i_Template (hP 0 _ rfl) 6 (by decide) zw_931 rfl d_Template_write_83 ?_
          refine zi_icmp_ge hx hb d_Template_write_86 rfl (by omega) (by omega) (fun h86 => ?_) (fun h => absurd h (by omega))
          refine zi_iconst hx hb d_Template_write_111 ?_
          exact zwi S hr hlk hS (⟨rfl, false, false, false, hP, hD⟩) (by (try dsimp only); omega) (by (try dsimp only); omega) d_Template_write_112
      · skip
        refine zi_iconst hx hb d_Template_write_48 ?_
        refine lv_goto hx hb d_Template_write_49 rfl ?_
        refine va_put (D := E.1) (ci := 12) (v := .int (iI (bN true))) (ty := .boolean) (C := "ReplacementWriterModel$Template") (T := F_Template) (N := 13) hx hb S.2.2.2.2 i_Template t_Template t_Template_ok n_Template S.2.2.2.1 hE.1 hP hD hS 0 rfl rfl 4 (by decide) (S.2.2.2.2 _ zw_928) (fun _ h9 => h9) rfl (by decide +kernel) (bN_nar _) (bN_fit _) (Nat.le_of_ble_eq_true rfl) d_Template_write_53 (fun H locs hP hD hS => ?_)
        have hP : va_P E.1 zcl [(te, .inr (12, [.ref tb, .ref ho, .int (iI (bN false)), .int (iI (bN false)), .int (iI (bN true)), .ref tq, .int (iI 0), .ref oq, .int (iI 0), .int (iI 0), .int (iI 0), .int (iI (-1)), .int (iI 0)]))] H := hP
        have hD : va_D A [(te, .inr (12, [.ref tb, .ref ho, .int (iI (bN false)), .int (iI (bN false)), .int (iI (bN true)), .ref tq, .int (iI 0), .ref oq, .int (iI 0), .int (iI 0), .int (iI 0), .int (iI (-1)), .int (iI 0)]))] := hD
        have hE := hE0.at hS hA0
        refine lv_aload_n hx hb d_Template_write_56 rfl (lv_at hl 0 rfl) ?_
        refine zi_iconst hx hb d_Template_write_57 ?_
        refine va_put (D := E.1) (ci := 12) (v := .int (iI 0)) (ty := .int) (C := "ReplacementWriterModel$Template") (T := F_Template) (N := 13) hx hb S.2.2.2.2 i_Template t_Template t_Template_ok n_Template S.2.2.2.1 hE.1 hP hD hS 0 rfl rfl 9 (by decide) (S.2.2.2.2 _ zw_937) (fun _ h9 => h9) rfl (by decide +kernel) rfl rfl (Nat.le_of_ble_eq_true rfl) d_Template_write_58 (fun H locs hP hD hS => ?_)
        have hP : va_P E.1 zcl [(te, .inr (12, [.ref tb, .ref ho, .int (iI (bN false)), .int (iI (bN false)), .int (iI (bN true)), .ref tq, .int (iI 0), .ref oq, .int (iI 0), .int (iI 0), .int (iI 0), .int (iI (-1)), .int (iI 0)]))] H := hP
        have hD : va_D A [(te, .inr (12, [.ref tb, .ref ho, .int (iI (bN false)), .int (iI (bN false)), .int (iI (bN true)), .ref tq, .int (iI 0), .ref oq, .int (iI 0), .int (iI 0), .int (iI 0), .int (iI (-1)), .int (iI 0)]))] := hD
        have hE := hE0.at hS hA0
        refine lv_aload_n hx hb d_Template_write_61 rfl (lv_at hl 0 rfl) ?_
        refine zi_iconst hx hb d_Template_write_62 ?_
        refine va_put (D := E.1) (ci := 12) (v := .int (iI 0)) (ty := .int) (C := "ReplacementWriterModel$Template") (T := F_Template) (N := 13) hx hb S.2.2.2.2 i_Template t_Template t_Template_ok n_Template S.2.2.2.1 hE.1 hP hD hS 0 rfl rfl 10 (by decide) (S.2.2.2.2 _ zw_938) (fun _ h9 => h9) rfl (by decide +kernel) rfl rfl (Nat.le_of_ble_eq_true rfl) d_Template_write_63 (fun H locs hP hD hS => ?_)
        have hP : va_P E.1 zcl [(te, .inr (12, [.ref tb, .ref ho, .int (iI (bN false)), .int (iI (bN false)), .int (iI (bN true)), .ref tq, .int (iI 0), .ref oq, .int (iI 0), .int (iI 0), .int (iI 0), .int (iI (-1)), .int (iI 0)]))] H := hP
        have hD : va_D A [(te, .inr (12, [.ref tb, .ref ho, .int (iI (bN false)), .int (iI (bN false)), .int (iI (bN true)), .ref tq, .int (iI 0), .ref oq, .int (iI 0), .int (iI 0), .int (iI 0), .int (iI (-1)), .int (iI 0)]))] := hD
        have hE := hE0.at hS hA0
        refine lv_aload_n hx hb d_Template_write_66 rfl (lv_at hl 0 rfl) ?_
        refine zi_iconst hx hb d_Template_write_67 ?_
        refine va_put (D := E.1) (ci := 12) (v := .int (iI (-1))) (ty := .int) (C := "ReplacementWriterModel$Template") (T := F_Template) (N := 13) hx hb S.2.2.2.2 i_Template t_Template t_Template_ok n_Template S.2.2.2.1 hE.1 hP hD hS 0 rfl rfl 11 (by decide) (S.2.2.2.2 _ zw_939) (fun _ h9 => h9) rfl (by decide +kernel) rfl rfl (Nat.le_of_ble_eq_true rfl) d_Template_write_68 (fun H locs hP hD hS => ?_)
        have hP : va_P E.1 zcl [(te, .inr (12, [.ref tb, .ref ho, .int (iI (bN false)), .int (iI (bN false)), .int (iI (bN true)), .ref tq, .int (iI 0), .ref oq, .int (iI 0), .int (iI 0), .int (iI 0), .int (iI (-1)), .int (iI 0)]))] H := hP
        have hD : va_D A [(te, .inr (12, [.ref tb, .ref ho, .int (iI (bN false)), .int (iI (bN false)), .int (iI (bN true)), .ref tq, .int (iI 0), .ref oq, .int (iI 0), .int (iI 0), .int (iI 0), .int (iI (-1)), .int (iI 0)]))] := hD
        have hE := hE0.at hS hA0
        refine lv_iload_n hx hb d_Template_write_71 rfl (lv_at hl 2 rfl) ?_
        refine zi_sipush hx hb d_Template_write_72 (by decide) ?_
        refine zi_iand (r := (iI k &&& iI 4096).toInt) hx hb d_Template_write_75 (iI_of _) ?_
        refine zi_if_eq hx hb d_Template_write_76 rfl (iI_r _) (fun h76 => ?_) (fun h76 => ?_)
        · skip
          refine lv_aload_n hx hb d_Template_write_113 rfl (lv_at hl 0 rfl) ?_
          refine zi_iconst hx hb d_Template_write_114 ?_
          refine lv_aload_n hx hb d_Template_write_115 rfl (lv_at hl 0 rfl) ?_
          refine zgf S hE (ci := 12) rfl i_Template (hP 0 _ rfl) 6 (by decide) zw_931 rfl d_Template_write_116 ?_
          refine zi_iconst hx hb d_Template_write_119 ?_
          have hPc := hP.sub (ws' := [(te, .inr (12, [.ref tb, .ref ho, .int (iI (bN false)), .int (iI (bN false)), .int (iI (bN true)), .ref tq, .int (iI 0), .ref oq, .int (iI 0), .int (iI 0), .int (iI 0), .int (iI (-1)), .int (iI 0)]))]) [0] rfl
          have hDc := hD.sub (ws' := [(te, .inr (12, [.ref tb, .ref ho, .int (iI (bN false)), .int (iI (bN false)), .int (iI (bN true)), .ref tq, .int (iI 0), .ref oq, .int (iI 0), .int (iI 0), .int (iI 0), .int (iI (-1)), .int (iI 0)]))]) [0] (by decide) rfl
          have hFc := va_free (wc := [(te, .inr (12, [.ref tb, .ref ho, .int (iI (bN false)), .int (iI (bN false)), .int (iI (bN true)), .ref tq, .int (iI 0), .ref oq, .int (iI 0), .int (iI 0), .int (iI 0), .int (iI (-1)), .int (iI 0)]))]) hD hS hA [0] rfl
          refine zcW (va_runV (As := [.int (iI 0), .int (iI 0), .int (iI 0)]) (rest := []) S (c_Template_part l E _ te tb oq ho tq false false true) ⟨zcwB (n := 3) S zw_1148 zw_16 zw_1145 (by decide +kernel) rfl rfl ⟨Nat.le_of_ble_eq_true rfl, Nat.le_of_ble_eq_true rfl⟩, S.2.2.2.2 _ zw_1147, S.2.2.2.2 _ zs_34⟩ (zPreV hE (hP 0 _ rfl) rfl ⟨rfl, hPc, hDc.weaken (fun _ _ _ h => hA0 _ h), trivial⟩) rfl rfl hl.1 rfl (lv_room (Nat.le_of_ble_eq_true rfl)) d_Template_write_120 ⟨by (try dsimp only); omega, by (try dsimp only); omega⟩) hS (fun q _ h => hFc q h) hFc (fun v H locs hq hz1 hk1 hS => ?_)
          obtain ⟨rfl, hP1, hD1⟩ := hq
          obtain ⟨hP, hD⟩ := va_join (wr := []) (w1 := [(te, .inr (12, [.ref tb, .ref ho, .int (iI (bN false)), .int (iI (bN false)), .int (iI (bN true)), .ref tq, .int (iI 0), .ref oq, .int (iI 0), .int (iI 0), .int (iI 0), .int (iI (-1)), .int (iI 0)]))]) hP hD [0] [] rfl rfl (by decide) (by decide) hk1 hFc hP1 hD1
          have hP : va_P E.1 zcl [(te, .inr (12, [.ref tb, .ref ho, .int (iI (bN false)), .int (iI (bN false)), .int (iI (bN true)), .ref tq, .int (iI 0), .ref oq, .int (iI 0), .int (iI 0), .int (iI 0), .int (iI (-1)), .int (iI 0)]))] H := hP
          have hD : va_D A [(te, .inr (12, [.ref tb, .ref ho, .int (iI (bN false)), .int (iI (bN false)), .int (iI (bN true)), .ref tq, .int (iI 0), .ref oq, .int (iI 0), .int (iI 0), .int (iI 0), .int (iI (-1)), .int (iI 0)]))] := hD
          have hE := hE0.at hS hA0
          exact zwi S hr hlk hS (⟨rfl, false, false, true, hP, hD⟩) (by (try dsimp only); omega) (by (try dsimp only); omega) d_Template_write_123
        · skip
          refine zi_iconst hx hb d_Template_write_79 ?_
          refine lv_istore_n (lv' := [(3, .int (iI 0)), (0, .ref te), (1, .ref ho), (2, .int (iI k))]) hx hb d_Template_write_80 rfl hl (by decide) rfl (fun ls hl => ?_)
          refine lv_iload_n hx hb d_Template_write_81 rfl (lv_at hl 0 rfl) ?_
          refine lv_aload_n hx hb d_Template_write_82 rfl (lv_at hl 1 rfl) ?_
          refine zgf S hE (ci := 12) rfl i_Template (hP 0 _ rfl) 6 (by decide) zw_931 rfl d_Template_write_83 ?_
          refine zi_icmp_ge hx hb d_Template_write_86 rfl (by omega) (by omega) (fun h86 => ?_) (fun h => absurd h (by omega))
          refine zi_iconst hx hb d_Template_write_111 ?_
          exact zwi S hr hlk hS (⟨rfl, false, false, true, hP, hD⟩) (by (try dsimp only); omega) (by (try dsimp only); omega) d_Template_write_112
    · skip
      refine zi_iconst hx hb d_Template_write_31 ?_
      refine lv_goto hx hb d_Template_write_32 rfl ?_
      refine va_put (D := E.1) (ci := 12) (v := .int (iI (bN true))) (ty := .boolean) (C := "ReplacementWriterModel$Template") (T := F_Template) (N := 13) hx hb S.2.2.2.2 i_Template t_Template t_Template_ok n_Template S.2.2.2.1 hE.1 hP hD hS 0 rfl rfl 3 (by decide) (S.2.2.2.2 _ zw_927) (fun _ h9 => h9) rfl (by decide +kernel) (bN_nar _) (bN_fit _) (Nat.le_of_ble_eq_true rfl) d_Template_write_36 (fun H locs hP hD hS => ?_)
      have hP : va_P E.1 zcl [(te, .inr (12, [.ref tb, .ref ho, .int (iI (bN false)), .int (iI (bN true)), .int (iI (bN false)), .ref tq, .int (iI 0), .ref oq, .int (iI 0), .int (iI 0), .int (iI 0), .int (iI (-1)), .int (iI 0)]))] H := hP
      have hD : va_D A [(te, .inr (12, [.ref tb, .ref ho, .int (iI (bN false)), .int (iI (bN true)), .int (iI (bN false)), .ref tq, .int (iI 0), .ref oq, .int (iI 0), .int (iI 0), .int (iI 0), .int (iI (-1)), .int (iI 0)]))] := hD
      have hE := hE0.at hS hA0
      refine lv_aload_n hx hb d_Template_write_39 rfl (lv_at hl 0 rfl) ?_
      refine lv_iload_n hx hb d_Template_write_40 rfl (lv_at hl 2 rfl) ?_
      refine zi_sipush hx hb d_Template_write_41 (by decide) ?_
      refine zi_iand (r := (iI k &&& iI 2048).toInt) hx hb d_Template_write_44 (iI_of _) ?_
      refine zi_if_eq hx hb d_Template_write_45 rfl (iI_r _) (fun h45 => ?_) (fun h45 => ?_)
      · skip
        refine zi_iconst hx hb d_Template_write_52 ?_
        refine va_put (D := E.1) (ci := 12) (v := .int (iI (bN false))) (ty := .boolean) (C := "ReplacementWriterModel$Template") (T := F_Template) (N := 13) hx hb S.2.2.2.2 i_Template t_Template t_Template_ok n_Template S.2.2.2.1 hE.1 hP hD hS 0 rfl rfl 4 (by decide) (S.2.2.2.2 _ zw_928) (fun _ h9 => h9) rfl (by decide +kernel) (bN_nar _) (bN_fit _) (Nat.le_of_ble_eq_true rfl) d_Template_write_53 (fun H locs hP hD hS => ?_)
        have hP : va_P E.1 zcl [(te, .inr (12, [.ref tb, .ref ho, .int (iI (bN false)), .int (iI (bN true)), .int (iI (bN false)), .ref tq, .int (iI 0), .ref oq, .int (iI 0), .int (iI 0), .int (iI 0), .int (iI (-1)), .int (iI 0)]))] H := hP
        have hD : va_D A [(te, .inr (12, [.ref tb, .ref ho, .int (iI (bN false)), .int (iI (bN true)), .int (iI (bN false)), .ref tq, .int (iI 0), .ref oq, .int (iI 0), .int (iI 0), .int (iI 0), .int (iI (-1)), .int (iI 0)]))] := hD
        have hE := hE0.at hS hA0
        refine lv_aload_n hx hb d_Template_write_56 rfl (lv_at hl 0 rfl) ?_
        refine zi_iconst hx hb d_Template_write_57 ?_
        refine va_put (D := E.1) (ci := 12) (v := .int (iI 0)) (ty := .int) (C := "ReplacementWriterModel$Template") (T := F_Template) (N := 13) hx hb S.2.2.2.2 i_Template t_Template t_Template_ok n_Template S.2.2.2.1 hE.1 hP hD hS 0 rfl rfl 9 (by decide) (S.2.2.2.2 _ zw_937) (fun _ h9 => h9) rfl (by decide +kernel) rfl rfl (Nat.le_of_ble_eq_true rfl) d_Template_write_58 (fun H locs hP hD hS => ?_)
        have hP : va_P E.1 zcl [(te, .inr (12, [.ref tb, .ref ho, .int (iI (bN false)), .int (iI (bN true)), .int (iI (bN false)), .ref tq, .int (iI 0), .ref oq, .int (iI 0), .int (iI 0), .int (iI 0), .int (iI (-1)), .int (iI 0)]))] H := hP
        have hD : va_D A [(te, .inr (12, [.ref tb, .ref ho, .int (iI (bN false)), .int (iI (bN true)), .int (iI (bN false)), .ref tq, .int (iI 0), .ref oq, .int (iI 0), .int (iI 0), .int (iI 0), .int (iI (-1)), .int (iI 0)]))] := hD
        have hE := hE0.at hS hA0
        refine lv_aload_n hx hb d_Template_write_61 rfl (lv_at hl 0 rfl) ?_
        refine zi_iconst hx hb d_Template_write_62 ?_
        refine va_put (D := E.1) (ci := 12) (v := .int (iI 0)) (ty := .int) (C := "ReplacementWriterModel$Template") (T := F_Template) (N := 13) hx hb S.2.2.2.2 i_Template t_Template t_Template_ok n_Template S.2.2.2.1 hE.1 hP hD hS 0 rfl rfl 10 (by decide) (S.2.2.2.2 _ zw_938) (fun _ h9 => h9) rfl (by decide +kernel) rfl rfl (Nat.le_of_ble_eq_true rfl) d_Template_write_63 (fun H locs hP hD hS => ?_)
        have hP : va_P E.1 zcl [(te, .inr (12, [.ref tb, .ref ho, .int (iI (bN false)), .int (iI (bN true)), .int (iI (bN false)), .ref tq, .int (iI 0), .ref oq, .int (iI 0), .int (iI 0), .int (iI 0), .int (iI (-1)), .int (iI 0)]))] H := hP
        have hD : va_D A [(te, .inr (12, [.ref tb, .ref ho, .int (iI (bN false)), .int (iI (bN true)), .int (iI (bN false)), .ref tq, .int (iI 0), .ref oq, .int (iI 0), .int (iI 0), .int (iI 0), .int (iI (-1)), .int (iI 0)]))] := hD
        have hE := hE0.at hS hA0
        refine lv_aload_n hx hb d_Template_write_66 rfl (lv_at hl 0 rfl) ?_
        refine zi_iconst hx hb d_Template_write_67 ?_
        refine va_put (D := E.1) (ci := 12) (v := .int (iI (-1))) (ty := .int) (C := "ReplacementWriterModel$Template") (T := F_Template) (N := 13) hx hb S.2.2.2.2 i_Template t_Template t_Template_ok n_Template S.2.2.2.1 hE.1 hP hD hS 0 rfl rfl 11 (by decide) (S.2.2.2.2 _ zw_939) (fun _ h9 => h9) rfl (by decide +kernel) rfl rfl (Nat.le_of_ble_eq_true rfl) d_Template_write_68 (fun H locs hP hD hS => ?_)
        have hP : va_P E.1 zcl [(te, .inr (12, [.ref tb, .ref ho, .int (iI (bN false)), .int (iI (bN true)), .int (iI (bN false)), .ref tq, .int (iI 0), .ref oq, .int (iI 0), .int (iI 0), .int (iI 0), .int (iI (-1)), .int (iI 0)]))] H := hP
        have hD : va_D A [(te, .inr (12, [.ref tb, .ref ho, .int (iI (bN false)), .int (iI (bN true)), .int (iI (bN false)), .ref tq, .int (iI 0), .ref oq, .int (iI 0), .int (iI 0), .int (iI 0), .int (iI (-1)), .int (iI 0)]))] := hD
        have hE := hE0.at hS hA0
        refine lv_iload_n hx hb d_Template_write_71 rfl (lv_at hl 2 rfl) ?_
        refine zi_sipush hx hb d_Template_write_72 (by decide) ?_
        refine zi_iand (r := (iI k &&& iI 4096).toInt) hx hb d_Template_write_75 (iI_of _) ?_
        refine zi_if_eq hx hb d_Template_write_76 rfl (iI_r _) (fun h76 => ?_) (fun h76 => ?_)
        · skip
          refine lv_aload_n hx hb d_Template_write_113 rfl (lv_at hl 0 rfl) ?_
          refine zi_iconst hx hb d_Template_write_114 ?_
          refine lv_aload_n hx hb d_Template_write_115 rfl (lv_at hl 0 rfl) ?_
          refine zgf S hE (ci := 12) rfl i_Template (hP 0 _ rfl) 6 (by decide) zw_931 rfl d_Template_write_116 ?_
          refine zi_iconst hx hb d_Template_write_119 ?_
          have hPc := hP.sub (ws' := [(te, .inr (12, [.ref tb, .ref ho, .int (iI (bN false)), .int (iI (bN true)), .int (iI (bN false)), .ref tq, .int (iI 0), .ref oq, .int (iI 0), .int (iI 0), .int (iI 0), .int (iI (-1)), .int (iI 0)]))]) [0] rfl
          have hDc := hD.sub (ws' := [(te, .inr (12, [.ref tb, .ref ho, .int (iI (bN false)), .int (iI (bN true)), .int (iI (bN false)), .ref tq, .int (iI 0), .ref oq, .int (iI 0), .int (iI 0), .int (iI 0), .int (iI (-1)), .int (iI 0)]))]) [0] (by decide) rfl
          have hFc := va_free (wc := [(te, .inr (12, [.ref tb, .ref ho, .int (iI (bN false)), .int (iI (bN true)), .int (iI (bN false)), .ref tq, .int (iI 0), .ref oq, .int (iI 0), .int (iI 0), .int (iI 0), .int (iI (-1)), .int (iI 0)]))]) hD hS hA [0] rfl
          refine zcW (va_runV (As := [.int (iI 0), .int (iI 0), .int (iI 0)]) (rest := []) S (c_Template_part l E _ te tb oq ho tq false true false) ⟨zcwB (n := 3) S zw_1148 zw_16 zw_1145 (by decide +kernel) rfl rfl ⟨Nat.le_of_ble_eq_true rfl, Nat.le_of_ble_eq_true rfl⟩, S.2.2.2.2 _ zw_1147, S.2.2.2.2 _ zs_34⟩ (zPreV hE (hP 0 _ rfl) rfl ⟨rfl, hPc, hDc.weaken (fun _ _ _ h => hA0 _ h), trivial⟩) rfl rfl hl.1 rfl (lv_room (Nat.le_of_ble_eq_true rfl)) d_Template_write_120 ⟨by (try dsimp only); omega, by (try dsimp only); omega⟩) hS (fun q _ h => hFc q h) hFc (fun v H locs hq hz1 hk1 hS => ?_)
          obtain ⟨rfl, hP1, hD1⟩ := hq
          obtain ⟨hP, hD⟩ := va_join (wr := []) (w1 := [(te, .inr (12, [.ref tb, .ref ho, .int (iI (bN false)), .int (iI (bN true)), .int (iI (bN false)), .ref tq, .int (iI 0), .ref oq, .int (iI 0), .int (iI 0), .int (iI 0), .int (iI (-1)), .int (iI 0)]))]) hP hD [0] [] rfl rfl (by decide) (by decide) hk1 hFc hP1 hD1
          have hP : va_P E.1 zcl [(te, .inr (12, [.ref tb, .ref ho, .int (iI (bN false)), .int (iI (bN true)), .int (iI (bN false)), .ref tq, .int (iI 0), .ref oq, .int (iI 0), .int (iI 0), .int (iI 0), .int (iI (-1)), .int (iI 0)]))] H := hP
          have hD : va_D A [(te, .inr (12, [.ref tb, .ref ho, .int (iI (bN false)), .int (iI (bN true)), .int (iI (bN false)), .ref tq, .int (iI 0), .ref oq, .int (iI 0), .int (iI 0), .int (iI 0), .int (iI (-1)), .int (iI 0)]))] := hD
          have hE := hE0.at hS hA0
          exact zwi S hr hlk hS (⟨rfl, false, true, false, hP, hD⟩) (by (try dsimp only); omega) (by (try dsimp only); omega) d_Template_write_123
        · skip
          refine zi_iconst hx hb d_Template_write_79 ?_
          refine lv_istore_n (lv' := [(3, .int (iI 0)), (0, .ref te), (1, .ref ho), (2, .int (iI k))]) hx hb d_Template_write_80 rfl hl (by decide) rfl (fun ls hl => ?_)
          refine lv_iload_n hx hb d_Template_write_81 rfl (lv_at hl 0 rfl) ?_
          refine lv_aload_n hx hb d_Template_write_82 rfl (lv_at hl 1 rfl) ?_
          refine zgf S hE (ci := 12) rfl i_Template (hP 0 _ rfl) 6 (by decide) zw_931 rfl d_Template_write_83 ?_
          refine zi_icmp_ge hx hb d_Template_write_86 rfl (by omega) (by omega) (fun h86 => ?_) (fun h => absurd h (by omega))
          refine zi_iconst hx hb d_Template_write_111 ?_
          exact zwi S hr hlk hS (⟨rfl, false, true, false, hP, hD⟩) (by (try dsimp only); omega) (by (try dsimp only); omega) d_Template_write_112
      · skip
        refine zi_iconst hx hb d_Template_write_48 ?_
        refine lv_goto hx hb d_Template_write_49 rfl ?_
        refine va_put (D := E.1) (ci := 12) (v := .int (iI (bN true))) (ty := .boolean) (C := "ReplacementWriterModel$Template") (T := F_Template) (N := 13) hx hb S.2.2.2.2 i_Template t_Template t_Template_ok n_Template S.2.2.2.1 hE.1 hP hD hS 0 rfl rfl 4 (by decide) (S.2.2.2.2 _ zw_928) (fun _ h9 => h9) rfl (by decide +kernel) (bN_nar _) (bN_fit _) (Nat.le_of_ble_eq_true rfl) d_Template_write_53 (fun H locs hP hD hS => ?_)
        have hP : va_P E.1 zcl [(te, .inr (12, [.ref tb, .ref ho, .int (iI (bN false)), .int (iI (bN true)), .int (iI (bN true)), .ref tq, .int (iI 0), .ref oq, .int (iI 0), .int (iI 0), .int (iI 0), .int (iI (-1)), .int (iI 0)]))] H := hP
        have hD : va_D A [(te, .inr (12, [.ref tb, .ref ho, .int (iI (bN false)), .int (iI (bN true)), .int (iI (bN true)), .ref tq, .int (iI 0), .ref oq, .int (iI 0), .int (iI 0), .int (iI 0), .int (iI (-1)), .int (iI 0)]))] := hD
        have hE := hE0.at hS hA0
        refine lv_aload_n hx hb d_Template_write_56 rfl (lv_at hl 0 rfl) ?_
        refine zi_iconst hx hb d_Template_write_57 ?_
        refine va_put (D := E.1) (ci := 12) (v := .int (iI 0)) (ty := .int) (C := "ReplacementWriterModel$Template") (T := F_Template) (N := 13) hx hb S.2.2.2.2 i_Template t_Template t_Template_ok n_Template S.2.2.2.1 hE.1 hP hD hS 0 rfl rfl 9 (by decide) (S.2.2.2.2 _ zw_937) (fun _ h9 => h9) rfl (by decide +kernel) rfl rfl (Nat.le_of_ble_eq_true rfl) d_Template_write_58 (fun H locs hP hD hS => ?_)
        have hP : va_P E.1 zcl [(te, .inr (12, [.ref tb, .ref ho, .int (iI (bN false)), .int (iI (bN true)), .int (iI (bN true)), .ref tq, .int (iI 0), .ref oq, .int (iI 0), .int (iI 0), .int (iI 0), .int (iI (-1)), .int (iI 0)]))] H := hP
        have hD : va_D A [(te, .inr (12, [.ref tb, .ref ho, .int (iI (bN false)), .int (iI (bN true)), .int (iI (bN true)), .ref tq, .int (iI 0), .ref oq, .int (iI 0), .int (iI 0), .int (iI 0), .int (iI (-1)), .int (iI 0)]))] := hD
        have hE := hE0.at hS hA0
        refine lv_aload_n hx hb d_Template_write_61 rfl (lv_at hl 0 rfl) ?_
        refine zi_iconst hx hb d_Template_write_62 ?_
        refine va_put (D := E.1) (ci := 12) (v := .int (iI 0)) (ty := .int) (C := "ReplacementWriterModel$Template") (T := F_Template) (N := 13) hx hb S.2.2.2.2 i_Template t_Template t_Template_ok n_Template S.2.2.2.1 hE.1 hP hD hS 0 rfl rfl 10 (by decide) (S.2.2.2.2 _ zw_938) (fun _ h9 => h9) rfl (by decide +kernel) rfl rfl (Nat.le_of_ble_eq_true rfl) d_Template_write_63 (fun H locs hP hD hS => ?_)
        have hP : va_P E.1 zcl [(te, .inr (12, [.ref tb, .ref ho, .int (iI (bN false)), .int (iI (bN true)), .int (iI (bN true)), .ref tq, .int (iI 0), .ref oq, .int (iI 0), .int (iI 0), .int (iI 0), .int (iI (-1)), .int (iI 0)]))] H := hP
        have hD : va_D A [(te, .inr (12, [.ref tb, .ref ho, .int (iI (bN false)), .int (iI (bN true)), .int (iI (bN true)), .ref tq, .int (iI 0), .ref oq, .int (iI 0), .int (iI 0), .int (iI 0), .int (iI (-1)), .int (iI 0)]))] := hD
        have hE := hE0.at hS hA0
        refine lv_aload_n hx hb d_Template_write_66 rfl (lv_at hl 0 rfl) ?_
        refine zi_iconst hx hb d_Template_write_67 ?_
        refine va_put (D := E.1) (ci := 12) (v := .int (iI (-1))) (ty := .int) (C := "ReplacementWriterModel$Template") (T := F_Template) (N := 13) hx hb S.2.2.2.2 i_Template t_Template t_Template_ok n_Template S.2.2.2.1 hE.1 hP hD hS 0 rfl rfl 11 (by decide) (S.2.2.2.2 _ zw_939) (fun _ h9 => h9) rfl (by decide +kernel) rfl rfl (Nat.le_of_ble_eq_true rfl) d_Template_write_68 (fun H locs hP hD hS => ?_)
        have hP : va_P E.1 zcl [(te, .inr (12, [.ref tb, .ref ho, .int (iI (bN false)), .int (iI (bN true)), .int (iI (bN true)), .ref tq, .int (iI 0), .ref oq, .int (iI 0), .int (iI 0), .int (iI 0), .int (iI (-1)), .int (iI 0)]))] H := hP
        have hD : va_D A [(te, .inr (12, [.ref tb, .ref ho, .int (iI (bN false)), .int (iI (bN true)), .int (iI (bN true)), .ref tq, .int (iI 0), .ref oq, .int (iI 0), .int (iI 0), .int (iI 0), .int (iI (-1)), .int (iI 0)]))] := hD
        have hE := hE0.at hS hA0
        refine lv_iload_n hx hb d_Template_write_71 rfl (lv_at hl 2 rfl) ?_
        refine zi_sipush hx hb d_Template_write_72 (by decide) ?_
        refine zi_iand (r := (iI k &&& iI 4096).toInt) hx hb d_Template_write_75 (iI_of _) ?_
        refine zi_if_eq hx hb d_Template_write_76 rfl (iI_r _) (fun h76 => ?_) (fun h76 => ?_)
        · skip
          refine lv_aload_n hx hb d_Template_write_113 rfl (lv_at hl 0 rfl) ?_
          refine zi_iconst hx hb d_Template_write_114 ?_
          refine lv_aload_n hx hb d_Template_write_115 rfl (lv_at hl 0 rfl) ?_
          refine zgf S hE (ci := 12) rfl i_Template (hP 0 _ rfl) 6 (by decide) zw_931 rfl d_Template_write_116 ?_
          refine zi_iconst hx hb d_Template_write_119 ?_
          have hPc := hP.sub (ws' := [(te, .inr (12, [.ref tb, .ref ho, .int (iI (bN false)), .int (iI (bN true)), .int (iI (bN true)), .ref tq, .int (iI 0), .ref oq, .int (iI 0), .int (iI 0), .int (iI 0), .int (iI (-1)), .int (iI 0)]))]) [0] rfl
          have hDc := hD.sub (ws' := [(te, .inr (12, [.ref tb, .ref ho, .int (iI (bN false)), .int (iI (bN true)), .int (iI (bN true)), .ref tq, .int (iI 0), .ref oq, .int (iI 0), .int (iI 0), .int (iI 0), .int (iI (-1)), .int (iI 0)]))]) [0] (by decide) rfl
          have hFc := va_free (wc := [(te, .inr (12, [.ref tb, .ref ho, .int (iI (bN false)), .int (iI (bN true)), .int (iI (bN true)), .ref tq, .int (iI 0), .ref oq, .int (iI 0), .int (iI 0), .int (iI 0), .int (iI (-1)), .int (iI 0)]))]) hD hS hA [0] rfl
          refine zcW (va_runV (As := [.int (iI 0), .int (iI 0), .int (iI 0)]) (rest := []) S (c_Template_part l E _ te tb oq ho tq false true true) ⟨zcwB (n := 3) S zw_1148 zw_16 zw_1145 (by decide +kernel) rfl rfl ⟨Nat.le_of_ble_eq_true rfl, Nat.le_of_ble_eq_true rfl⟩, S.2.2.2.2 _ zw_1147, S.2.2.2.2 _ zs_34⟩ (zPreV hE (hP 0 _ rfl) rfl ⟨rfl, hPc, hDc.weaken (fun _ _ _ h => hA0 _ h), trivial⟩) rfl rfl hl.1 rfl (lv_room (Nat.le_of_ble_eq_true rfl)) d_Template_write_120 ⟨by (try dsimp only); omega, by (try dsimp only); omega⟩) hS (fun q _ h => hFc q h) hFc (fun v H locs hq hz1 hk1 hS => ?_)
          obtain ⟨rfl, hP1, hD1⟩ := hq
          obtain ⟨hP, hD⟩ := va_join (wr := []) (w1 := [(te, .inr (12, [.ref tb, .ref ho, .int (iI (bN false)), .int (iI (bN true)), .int (iI (bN true)), .ref tq, .int (iI 0), .ref oq, .int (iI 0), .int (iI 0), .int (iI 0), .int (iI (-1)), .int (iI 0)]))]) hP hD [0] [] rfl rfl (by decide) (by decide) hk1 hFc hP1 hD1
          have hP : va_P E.1 zcl [(te, .inr (12, [.ref tb, .ref ho, .int (iI (bN false)), .int (iI (bN true)), .int (iI (bN true)), .ref tq, .int (iI 0), .ref oq, .int (iI 0), .int (iI 0), .int (iI 0), .int (iI (-1)), .int (iI 0)]))] H := hP
          have hD : va_D A [(te, .inr (12, [.ref tb, .ref ho, .int (iI (bN false)), .int (iI (bN true)), .int (iI (bN true)), .ref tq, .int (iI 0), .ref oq, .int (iI 0), .int (iI 0), .int (iI 0), .int (iI (-1)), .int (iI 0)]))] := hD
          have hE := hE0.at hS hA0
          exact zwi S hr hlk hS (⟨rfl, false, true, true, hP, hD⟩) (by (try dsimp only); omega) (by (try dsimp only); omega) d_Template_write_123
        · skip
          refine zi_iconst hx hb d_Template_write_79 ?_
          refine lv_istore_n (lv' := [(3, .int (iI 0)), (0, .ref te), (1, .ref ho), (2, .int (iI k))]) hx hb d_Template_write_80 rfl hl (by decide) rfl (fun ls hl => ?_)
          refine lv_iload_n hx hb d_Template_write_81 rfl (lv_at hl 0 rfl) ?_
          refine lv_aload_n hx hb d_Template_write_82 rfl (lv_at hl 1 rfl) ?_
          refine zgf S hE (ci := 12) rfl i_Template (hP 0 _ rfl) 6 (by decide) zw_931 rfl d_Template_write_83 ?_
          refine zi_icmp_ge hx hb d_Template_write_86 rfl (by omega) (by omega) (fun h86 => ?_) (fun h => absurd h (by omega))
          refine zi_iconst hx hb d_Template_write_111 ?_
          exact zwi S hr hlk hS (⟨rfl, false, true, true, hP, hD⟩) (by (try dsimp only); omega) (by (try dsimp only); omega) d_Template_write_112
  · skip
    refine zi_iconst hx hb d_Template_write_14 ?_
    refine lv_goto hx hb d_Template_write_15 rfl ?_
    refine va_put (D := E.1) (ci := 12) (v := .int (iI (bN true))) (ty := .boolean) (C := "ReplacementWriterModel$Template") (T := F_Template) (N := 13) hx hb S.2.2.2.2 i_Template t_Template t_Template_ok n_Template S.2.2.2.1 hE.1 hP hD hS 0 rfl rfl 2 (by decide) (S.2.2.2.2 _ zw_926) (fun _ h9 => h9) rfl (by decide +kernel) (bN_nar _) (bN_fit _) (Nat.le_of_ble_eq_true rfl) d_Template_write_19 (fun H locs hP hD hS => ?_)
    have hP : va_P E.1 zcl [(te, .inr (12, [.ref tb, .ref ho, .int (iI (bN true)), .int (iI (bN false)), .int (iI (bN false)), .ref tq, .int (iI 0), .ref oq, .int (iI 0), .int (iI 0), .int (iI 0), .int (iI (-1)), .int (iI 0)]))] H := hP
    have hD : va_D A [(te, .inr (12, [.ref tb, .ref ho, .int (iI (bN true)), .int (iI (bN false)), .int (iI (bN false)), .ref tq, .int (iI 0), .ref oq, .int (iI 0), .int (iI 0), .int (iI 0), .int (iI (-1)), .int (iI 0)]))] := hD
    have hE := hE0.at hS hA0
    refine lv_aload_n hx hb d_Template_write_22 rfl (lv_at hl 0 rfl) ?_
    refine lv_iload_n hx hb d_Template_write_23 rfl (lv_at hl 2 rfl) ?_
    refine zi_sipush hx hb d_Template_write_24 (by decide) ?_
    refine zi_iand (r := (iI k &&& iI 1024).toInt) hx hb d_Template_write_27 (iI_of _) ?_
    refine zi_if_eq hx hb d_Template_write_28 rfl (iI_r _) (fun h28 => ?_) (fun h28 => ?_)
    · skip
      refine zi_iconst hx hb d_Template_write_35 ?_
      refine va_put (D := E.1) (ci := 12) (v := .int (iI (bN false))) (ty := .boolean) (C := "ReplacementWriterModel$Template") (T := F_Template) (N := 13) hx hb S.2.2.2.2 i_Template t_Template t_Template_ok n_Template S.2.2.2.1 hE.1 hP hD hS 0 rfl rfl 3 (by decide) (S.2.2.2.2 _ zw_927) (fun _ h9 => h9) rfl (by decide +kernel) (bN_nar _) (bN_fit _) (Nat.le_of_ble_eq_true rfl) d_Template_write_36 (fun H locs hP hD hS => ?_)
      have hP : va_P E.1 zcl [(te, .inr (12, [.ref tb, .ref ho, .int (iI (bN true)), .int (iI (bN false)), .int (iI (bN false)), .ref tq, .int (iI 0), .ref oq, .int (iI 0), .int (iI 0), .int (iI 0), .int (iI (-1)), .int (iI 0)]))] H := hP
      have hD : va_D A [(te, .inr (12, [.ref tb, .ref ho, .int (iI (bN true)), .int (iI (bN false)), .int (iI (bN false)), .ref tq, .int (iI 0), .ref oq, .int (iI 0), .int (iI 0), .int (iI 0), .int (iI (-1)), .int (iI 0)]))] := hD
      have hE := hE0.at hS hA0
      refine lv_aload_n hx hb d_Template_write_39 rfl (lv_at hl 0 rfl) ?_
      refine lv_iload_n hx hb d_Template_write_40 rfl (lv_at hl 2 rfl) ?_
      refine zi_sipush hx hb d_Template_write_41 (by decide) ?_
      refine zi_iand (r := (iI k &&& iI 2048).toInt) hx hb d_Template_write_44 (iI_of _) ?_
      refine zi_if_eq hx hb d_Template_write_45 rfl (iI_r _) (fun h45 => ?_) (fun h45 => ?_)
      · skip
        refine zi_iconst hx hb d_Template_write_52 ?_
        refine va_put (D := E.1) (ci := 12) (v := .int (iI (bN false))) (ty := .boolean) (C := "ReplacementWriterModel$Template") (T := F_Template) (N := 13) hx hb S.2.2.2.2 i_Template t_Template t_Template_ok n_Template S.2.2.2.1 hE.1 hP hD hS 0 rfl rfl 4 (by decide) (S.2.2.2.2 _ zw_928) (fun _ h9 => h9) rfl (by decide +kernel) (bN_nar _) (bN_fit _) (Nat.le_of_ble_eq_true rfl) d_Template_write_53 (fun H locs hP hD hS => ?_)
        have hP : va_P E.1 zcl [(te, .inr (12, [.ref tb, .ref ho, .int (iI (bN true)), .int (iI (bN false)), .int (iI (bN false)), .ref tq, .int (iI 0), .ref oq, .int (iI 0), .int (iI 0), .int (iI 0), .int (iI (-1)), .int (iI 0)]))] H := hP
        have hD : va_D A [(te, .inr (12, [.ref tb, .ref ho, .int (iI (bN true)), .int (iI (bN false)), .int (iI (bN false)), .ref tq, .int (iI 0), .ref oq, .int (iI 0), .int (iI 0), .int (iI 0), .int (iI (-1)), .int (iI 0)]))] := hD
        have hE := hE0.at hS hA0
        refine lv_aload_n hx hb d_Template_write_56 rfl (lv_at hl 0 rfl) ?_
        refine zi_iconst hx hb d_Template_write_57 ?_
        refine va_put (D := E.1) (ci := 12) (v := .int (iI 0)) (ty := .int) (C := "ReplacementWriterModel$Template") (T := F_Template) (N := 13) hx hb S.2.2.2.2 i_Template t_Template t_Template_ok n_Template S.2.2.2.1 hE.1 hP hD hS 0 rfl rfl 9 (by decide) (S.2.2.2.2 _ zw_937) (fun _ h9 => h9) rfl (by decide +kernel) rfl rfl (Nat.le_of_ble_eq_true rfl) d_Template_write_58 (fun H locs hP hD hS => ?_)
        have hP : va_P E.1 zcl [(te, .inr (12, [.ref tb, .ref ho, .int (iI (bN true)), .int (iI (bN false)), .int (iI (bN false)), .ref tq, .int (iI 0), .ref oq, .int (iI 0), .int (iI 0), .int (iI 0), .int (iI (-1)), .int (iI 0)]))] H := hP
        have hD : va_D A [(te, .inr (12, [.ref tb, .ref ho, .int (iI (bN true)), .int (iI (bN false)), .int (iI (bN false)), .ref tq, .int (iI 0), .ref oq, .int (iI 0), .int (iI 0), .int (iI 0), .int (iI (-1)), .int (iI 0)]))] := hD
        have hE := hE0.at hS hA0
        refine lv_aload_n hx hb d_Template_write_61 rfl (lv_at hl 0 rfl) ?_
        refine zi_iconst hx hb d_Template_write_62 ?_
        refine va_put (D := E.1) (ci := 12) (v := .int (iI 0)) (ty := .int) (C := "ReplacementWriterModel$Template") (T := F_Template) (N := 13) hx hb S.2.2.2.2 i_Template t_Template t_Template_ok n_Template S.2.2.2.1 hE.1 hP hD hS 0 rfl rfl 10 (by decide) (S.2.2.2.2 _ zw_938) (fun _ h9 => h9) rfl (by decide +kernel) rfl rfl (Nat.le_of_ble_eq_true rfl) d_Template_write_63 (fun H locs hP hD hS => ?_)
        have hP : va_P E.1 zcl [(te, .inr (12, [.ref tb, .ref ho, .int (iI (bN true)), .int (iI (bN false)), .int (iI (bN false)), .ref tq, .int (iI 0), .ref oq, .int (iI 0), .int (iI 0), .int (iI 0), .int (iI (-1)), .int (iI 0)]))] H := hP
        have hD : va_D A [(te, .inr (12, [.ref tb, .ref ho, .int (iI (bN true)), .int (iI (bN false)), .int (iI (bN false)), .ref tq, .int (iI 0), .ref oq, .int (iI 0), .int (iI 0), .int (iI 0), .int (iI (-1)), .int (iI 0)]))] := hD
        have hE := hE0.at hS hA0
        refine lv_aload_n hx hb d_Template_write_66 rfl (lv_at hl 0 rfl) ?_
        refine zi_iconst hx hb d_Template_write_67 ?_
        refine va_put (D := E.1) (ci := 12) (v := .int (iI (-1))) (ty := .int) (C := "ReplacementWriterModel$Template") (T := F_Template) (N := 13) hx hb S.2.2.2.2 i_Template t_Template t_Template_ok n_Template S.2.2.2.1 hE.1 hP hD hS 0 rfl rfl 11 (by decide) (S.2.2.2.2 _ zw_939) (fun _ h9 => h9) rfl (by decide +kernel) rfl rfl (Nat.le_of_ble_eq_true rfl) d_Template_write_68 (fun H locs hP hD hS => ?_)
        have hP : va_P E.1 zcl [(te, .inr (12, [.ref tb, .ref ho, .int (iI (bN true)), .int (iI (bN false)), .int (iI (bN false)), .ref tq, .int (iI 0), .ref oq, .int (iI 0), .int (iI 0), .int (iI 0), .int (iI (-1)), .int (iI 0)]))] H := hP
        have hD : va_D A [(te, .inr (12, [.ref tb, .ref ho, .int (iI (bN true)), .int (iI (bN false)), .int (iI (bN false)), .ref tq, .int (iI 0), .ref oq, .int (iI 0), .int (iI 0), .int (iI 0), .int (iI (-1)), .int (iI 0)]))] := hD
        have hE := hE0.at hS hA0
        refine lv_iload_n hx hb d_Template_write_71 rfl (lv_at hl 2 rfl) ?_
        refine zi_sipush hx hb d_Template_write_72 (by decide) ?_
        refine zi_iand (r := (iI k &&& iI 4096).toInt) hx hb d_Template_write_75 (iI_of _) ?_
        refine zi_if_eq hx hb d_Template_write_76 rfl (iI_r _) (fun h76 => ?_) (fun h76 => ?_)
        · skip
          refine lv_aload_n hx hb d_Template_write_113 rfl (lv_at hl 0 rfl) ?_
          refine zi_iconst hx hb d_Template_write_114 ?_
          refine lv_aload_n hx hb d_Template_write_115 rfl (lv_at hl 0 rfl) ?_
          refine zgf S hE (ci := 12) rfl i_Template (hP 0 _ rfl) 6 (by decide) zw_931 rfl d_Template_write_116 ?_
          refine zi_iconst hx hb d_Template_write_119 ?_
          have hPc := hP.sub (ws' := [(te, .inr (12, [.ref tb, .ref ho, .int (iI (bN true)), .int (iI (bN false)), .int (iI (bN false)), .ref tq, .int (iI 0), .ref oq, .int (iI 0), .int (iI 0), .int (iI 0), .int (iI (-1)), .int (iI 0)]))]) [0] rfl
          have hDc := hD.sub (ws' := [(te, .inr (12, [.ref tb, .ref ho, .int (iI (bN true)), .int (iI (bN false)), .int (iI (bN false)), .ref tq, .int (iI 0), .ref oq, .int (iI 0), .int (iI 0), .int (iI 0), .int (iI (-1)), .int (iI 0)]))]) [0] (by decide) rfl
          have hFc := va_free (wc := [(te, .inr (12, [.ref tb, .ref ho, .int (iI (bN true)), .int (iI (bN false)), .int (iI (bN false)), .ref tq, .int (iI 0), .ref oq, .int (iI 0), .int (iI 0), .int (iI 0), .int (iI (-1)), .int (iI 0)]))]) hD hS hA [0] rfl
          refine zcW (va_runV (As := [.int (iI 0), .int (iI 0), .int (iI 0)]) (rest := []) S (c_Template_part l E _ te tb oq ho tq true false false) ⟨zcwB (n := 3) S zw_1148 zw_16 zw_1145 (by decide +kernel) rfl rfl ⟨Nat.le_of_ble_eq_true rfl, Nat.le_of_ble_eq_true rfl⟩, S.2.2.2.2 _ zw_1147, S.2.2.2.2 _ zs_34⟩ (zPreV hE (hP 0 _ rfl) rfl ⟨rfl, hPc, hDc.weaken (fun _ _ _ h => hA0 _ h), trivial⟩) rfl rfl hl.1 rfl (lv_room (Nat.le_of_ble_eq_true rfl)) d_Template_write_120 ⟨by (try dsimp only); omega, by (try dsimp only); omega⟩) hS (fun q _ h => hFc q h) hFc (fun v H locs hq hz1 hk1 hS => ?_)
          obtain ⟨rfl, hP1, hD1⟩ := hq
          obtain ⟨hP, hD⟩ := va_join (wr := []) (w1 := [(te, .inr (12, [.ref tb, .ref ho, .int (iI (bN true)), .int (iI (bN false)), .int (iI (bN false)), .ref tq, .int (iI 0), .ref oq, .int (iI 0), .int (iI 0), .int (iI 0), .int (iI (-1)), .int (iI 0)]))]) hP hD [0] [] rfl rfl (by decide) (by decide) hk1 hFc hP1 hD1
          have hP : va_P E.1 zcl [(te, .inr (12, [.ref tb, .ref ho, .int (iI (bN true)), .int (iI (bN false)), .int (iI (bN false)), .ref tq, .int (iI 0), .ref oq, .int (iI 0), .int (iI 0), .int (iI 0), .int (iI (-1)), .int (iI 0)]))] H := hP
          have hD : va_D A [(te, .inr (12, [.ref tb, .ref ho, .int (iI (bN true)), .int (iI (bN false)), .int (iI (bN false)), .ref tq, .int (iI 0), .ref oq, .int (iI 0), .int (iI 0), .int (iI 0), .int (iI (-1)), .int (iI 0)]))] := hD
          have hE := hE0.at hS hA0
          exact zwi S hr hlk hS (⟨rfl, true, false, false, hP, hD⟩) (by (try dsimp only); omega) (by (try dsimp only); omega) d_Template_write_123
        · skip
          refine zi_iconst hx hb d_Template_write_79 ?_
          refine lv_istore_n (lv' := [(3, .int (iI 0)), (0, .ref te), (1, .ref ho), (2, .int (iI k))]) hx hb d_Template_write_80 rfl hl (by decide) rfl (fun ls hl => ?_)
          refine lv_iload_n hx hb d_Template_write_81 rfl (lv_at hl 0 rfl) ?_
          refine lv_aload_n hx hb d_Template_write_82 rfl (lv_at hl 1 rfl) ?_
          refine zgf S hE (ci := 12) rfl i_Template (hP 0 _ rfl) 6 (by decide) zw_931 rfl d_Template_write_83 ?_
          refine zi_icmp_ge hx hb d_Template_write_86 rfl (by omega) (by omega) (fun h86 => ?_) (fun h => absurd h (by omega))
          refine zi_iconst hx hb d_Template_write_111 ?_
          exact zwi S hr hlk hS (⟨rfl, true, false, false, hP, hD⟩) (by (try dsimp only); omega) (by (try dsimp only); omega) d_Template_write_112
      · skip
        refine zi_iconst hx hb d_Template_write_48 ?_
        refine lv_goto hx hb d_Template_write_49 rfl ?_
        refine va_put (D := E.1) (ci := 12) (v := .int (iI (bN true))) (ty := .boolean) (C := "ReplacementWriterModel$Template") (T := F_Template) (N := 13) hx hb S.2.2.2.2 i_Template t_Template t_Template_ok n_Template S.2.2.2.1 hE.1 hP hD hS 0 rfl rfl 4 (by decide) (S.2.2.2.2 _ zw_928) (fun _ h9 => h9) rfl (by decide +kernel) (bN_nar _) (bN_fit _) (Nat.le_of_ble_eq_true rfl) d_Template_write_53 (fun H locs hP hD hS => ?_)
        have hP : va_P E.1 zcl [(te, .inr (12, [.ref tb, .ref ho, .int (iI (bN true)), .int (iI (bN false)), .int (iI (bN true)), .ref tq, .int (iI 0), .ref oq, .int (iI 0), .int (iI 0), .int (iI 0), .int (iI (-1)), .int (iI 0)]))] H := hP
        have hD : va_D A [(te, .inr (12, [.ref tb, .ref ho, .int (iI (bN true)), .int (iI (bN false)), .int (iI (bN true)), .ref tq, .int (iI 0), .ref oq, .int (iI 0), .int (iI 0), .int (iI 0), .int (iI (-1)), .int (iI 0)]))] := hD
        have hE := hE0.at hS hA0
        refine lv_aload_n hx hb d_Template_write_56 rfl (lv_at hl 0 rfl) ?_
        refine zi_iconst hx hb d_Template_write_57 ?_
        refine va_put (D := E.1) (ci := 12) (v := .int (iI 0)) (ty := .int) (C := "ReplacementWriterModel$Template") (T := F_Template) (N := 13) hx hb S.2.2.2.2 i_Template t_Template t_Template_ok n_Template S.2.2.2.1 hE.1 hP hD hS 0 rfl rfl 9 (by decide) (S.2.2.2.2 _ zw_937) (fun _ h9 => h9) rfl (by decide +kernel) rfl rfl (Nat.le_of_ble_eq_true rfl) d_Template_write_58 (fun H locs hP hD hS => ?_)
        have hP : va_P E.1 zcl [(te, .inr (12, [.ref tb, .ref ho, .int (iI (bN true)), .int (iI (bN false)), .int (iI (bN true)), .ref tq, .int (iI 0), .ref oq, .int (iI 0), .int (iI 0), .int (iI 0), .int (iI (-1)), .int (iI 0)]))] H := hP
        have hD : va_D A [(te, .inr (12, [.ref tb, .ref ho, .int (iI (bN true)), .int (iI (bN false)), .int (iI (bN true)), .ref tq, .int (iI 0), .ref oq, .int (iI 0), .int (iI 0), .int (iI 0), .int (iI (-1)), .int (iI 0)]))] := hD
        have hE := hE0.at hS hA0
        refine lv_aload_n hx hb d_Template_write_61 rfl (lv_at hl 0 rfl) ?_
        refine zi_iconst hx hb d_Template_write_62 ?_
        refine va_put (D := E.1) (ci := 12) (v := .int (iI 0)) (ty := .int) (C := "ReplacementWriterModel$Template") (T := F_Template) (N := 13) hx hb S.2.2.2.2 i_Template t_Template t_Template_ok n_Template S.2.2.2.1 hE.1 hP hD hS 0 rfl rfl 10 (by decide) (S.2.2.2.2 _ zw_938) (fun _ h9 => h9) rfl (by decide +kernel) rfl rfl (Nat.le_of_ble_eq_true rfl) d_Template_write_63 (fun H locs hP hD hS => ?_)
        have hP : va_P E.1 zcl [(te, .inr (12, [.ref tb, .ref ho, .int (iI (bN true)), .int (iI (bN false)), .int (iI (bN true)), .ref tq, .int (iI 0), .ref oq, .int (iI 0), .int (iI 0), .int (iI 0), .int (iI (-1)), .int (iI 0)]))] H := hP
        have hD : va_D A [(te, .inr (12, [.ref tb, .ref ho, .int (iI (bN true)), .int (iI (bN false)), .int (iI (bN true)), .ref tq, .int (iI 0), .ref oq, .int (iI 0), .int (iI 0), .int (iI 0), .int (iI (-1)), .int (iI 0)]))] := hD
        have hE := hE0.at hS hA0
        refine lv_aload_n hx hb d_Template_write_66 rfl (lv_at hl 0 rfl) ?_
        refine zi_iconst hx hb d_Template_write_67 ?_
        refine va_put (D := E.1) (ci := 12) (v := .int (iI (-1))) (ty := .int) (C := "ReplacementWriterModel$Template") (T := F_Template) (N := 13) hx hb S.2.2.2.2 i_Template t_Template t_Template_ok n_Template S.2.2.2.1 hE.1 hP hD hS 0 rfl rfl 11 (by decide) (S.2.2.2.2 _ zw_939) (fun _ h9 => h9) rfl (by decide +kernel) rfl rfl (Nat.le_of_ble_eq_true rfl) d_Template_write_68 (fun H locs hP hD hS => ?_)
        have hP : va_P E.1 zcl [(te, .inr (12, [.ref tb, .ref ho, .int (iI (bN true)), .int (iI (bN false)), .int (iI (bN true)), .ref tq, .int (iI 0), .ref oq, .int (iI 0), .int (iI 0), .int (iI 0), .int (iI (-1)), .int (iI 0)]))] H := hP
        have hD : va_D A [(te, .inr (12, [.ref tb, .ref ho, .int (iI (bN true)), .int (iI (bN false)), .int (iI (bN true)), .ref tq, .int (iI 0), .ref oq, .int (iI 0), .int (iI 0), .int (iI 0), .int (iI (-1)), .int (iI 0)]))] := hD
        have hE := hE0.at hS hA0
        refine lv_iload_n hx hb d_Template_write_71 rfl (lv_at hl 2 rfl) ?_
        refine zi_sipush hx hb d_Template_write_72 (by decide) ?_
        refine zi_iand (r := (iI k &&& iI 4096).toInt) hx hb d_Template_write_75 (iI_of _) ?_
        refine zi_if_eq hx hb d_Template_write_76 rfl (iI_r _) (fun h76 => ?_) (fun h76 => ?_)
        · skip
          refine lv_aload_n hx hb d_Template_write_113 rfl (lv_at hl 0 rfl) ?_
          refine zi_iconst hx hb d_Template_write_114 ?_
          refine lv_aload_n hx hb d_Template_write_115 rfl (lv_at hl 0 rfl) ?_
          refine zgf S hE (ci := 12) rfl i_Template (hP 0 _ rfl) 6 (by decide) zw_931 rfl d_Template_write_116 ?_
          refine zi_iconst hx hb d_Template_write_119 ?_
          have hPc := hP.sub (ws' := [(te, .inr (12, [.ref tb, .ref ho, .int (iI (bN true)), .int (iI (bN false)), .int (iI (bN true)), .ref tq, .int (iI 0), .ref oq, .int (iI 0), .int (iI 0), .int (iI 0), .int (iI (-1)), .int (iI 0)]))]) [0] rfl
          have hDc := hD.sub (ws' := [(te, .inr (12, [.ref tb, .ref ho, .int (iI (bN true)), .int (iI (bN false)), .int (iI (bN true)), .ref tq, .int (iI 0), .ref oq, .int (iI 0), .int (iI 0), .int (iI 0), .int (iI (-1)), .int (iI 0)]))]) [0] (by decide) rfl
          have hFc := va_free (wc := [(te, .inr (12, [.ref tb, .ref ho, .int (iI (bN true)), .int (iI (bN false)), .int (iI (bN true)), .ref tq, .int (iI 0), .ref oq, .int (iI 0), .int (iI 0), .int (iI 0), .int (iI (-1)), .int (iI 0)]))]) hD hS hA [0] rfl
          refine zcW (va_runV (As := [.int (iI 0), .int (iI 0), .int (iI 0)]) (rest := []) S (c_Template_part l E _ te tb oq ho tq true false true) ⟨zcwB (n := 3) S zw_1148 zw_16 zw_1145 (by decide +kernel) rfl rfl ⟨Nat.le_of_ble_eq_true rfl, Nat.le_of_ble_eq_true rfl⟩, S.2.2.2.2 _ zw_1147, S.2.2.2.2 _ zs_34⟩ (zPreV hE (hP 0 _ rfl) rfl ⟨rfl, hPc, hDc.weaken (fun _ _ _ h => hA0 _ h), trivial⟩) rfl rfl hl.1 rfl (lv_room (Nat.le_of_ble_eq_true rfl)) d_Template_write_120 ⟨by (try dsimp only); omega, by (try dsimp only); omega⟩) hS (fun q _ h => hFc q h) hFc (fun v H locs hq hz1 hk1 hS => ?_)
          obtain ⟨rfl, hP1, hD1⟩ := hq
          obtain ⟨hP, hD⟩ := va_join (wr := []) (w1 := [(te, .inr (12, [.ref tb, .ref ho, .int (iI (bN true)), .int (iI (bN false)), .int (iI (bN true)), .ref tq, .int (iI 0), .ref oq, .int (iI 0), .int (iI 0), .int (iI 0), .int (iI (-1)), .int (iI 0)]))]) hP hD [0] [] rfl rfl (by decide) (by decide) hk1 hFc hP1 hD1
          have hP : va_P E.1 zcl [(te, .inr (12, [.ref tb, .ref ho, .int (iI (bN true)), .int (iI (bN false)), .int (iI (bN true)), .ref tq, .int (iI 0), .ref oq, .int (iI 0), .int (iI 0), .int (iI 0), .int (iI (-1)), .int (iI 0)]))] H := hP
          have hD : va_D A [(te, .inr (12, [.ref tb, .ref ho, .int (iI (bN true)), .int (iI (bN false)), .int (iI (bN true)), .ref tq, .int (iI 0), .ref oq, .int (iI 0), .int (iI 0), .int (iI 0), .int (iI (-1)), .int (iI 0)]))] := hD
          have hE := hE0.at hS hA0
          exact zwi S hr hlk hS (⟨rfl, true, false, true, hP, hD⟩) (by (try dsimp only); omega) (by (try dsimp only); omega) d_Template_write_123
        · skip
          refine zi_iconst hx hb d_Template_write_79 ?_
          refine lv_istore_n (lv' := [(3, .int (iI 0)), (0, .ref te), (1, .ref ho), (2, .int (iI k))]) hx hb d_Template_write_80 rfl hl (by decide) rfl (fun ls hl => ?_)
          refine lv_iload_n hx hb d_Template_write_81 rfl (lv_at hl 0 rfl) ?_
          refine lv_aload_n hx hb d_Template_write_82 rfl (lv_at hl 1 rfl) ?_
          refine zgf S hE (ci := 12) rfl i_Template (hP 0 _ rfl) 6 (by decide) zw_931 rfl d_Template_write_83 ?_
          refine zi_icmp_ge hx hb d_Template_write_86 rfl (by omega) (by omega) (fun h86 => ?_) (fun h => absurd h (by omega))
          refine zi_iconst hx hb d_Template_write_111 ?_
          exact zwi S hr hlk hS (⟨rfl, true, false, true, hP, hD⟩) (by (try dsimp only); omega) (by (try dsimp only); omega) d_Template_write_112
    · skip
      refine zi_iconst hx hb d_Template_write_31 ?_
      refine lv_goto hx hb d_Template_write_32 rfl ?_
      refine va_put (D := E.1) (ci := 12) (v := .int (iI (bN true))) (ty := .boolean) (C := "ReplacementWriterModel$Template") (T := F_Template) (N := 13) hx hb S.2.2.2.2 i_Template t_Template t_Template_ok n_Template S.2.2.2.1 hE.1 hP hD hS 0 rfl rfl 3 (by decide) (S.2.2.2.2 _ zw_927) (fun _ h9 => h9) rfl (by decide +kernel) (bN_nar _) (bN_fit _) (Nat.le_of_ble_eq_true rfl) d_Template_write_36 (fun H locs hP hD hS => ?_)
      have hP : va_P E.1 zcl [(te, .inr (12, [.ref tb, .ref ho, .int (iI (bN true)), .int (iI (bN true)), .int (iI (bN false)), .ref tq, .int (iI 0), .ref oq, .int (iI 0), .int (iI 0), .int (iI 0), .int (iI (-1)), .int (iI 0)]))] H := hP
      have hD : va_D A [(te, .inr (12, [.ref tb, .ref ho, .int (iI (bN true)), .int (iI (bN true)), .int (iI (bN false)), .ref tq, .int (iI 0), .ref oq, .int (iI 0), .int (iI 0), .int (iI 0), .int (iI (-1)), .int (iI 0)]))] := hD
      have hE := hE0.at hS hA0
      refine lv_aload_n hx hb d_Template_write_39 rfl (lv_at hl 0 rfl) ?_
      refine lv_iload_n hx hb d_Template_write_40 rfl (lv_at hl 2 rfl) ?_
      refine zi_sipush hx hb d_Template_write_41 (by decide) ?_
      refine zi_iand (r := (iI k &&& iI 2048).toInt) hx hb d_Template_write_44 (iI_of _) ?_
      refine zi_if_eq hx hb d_Template_write_45 rfl (iI_r _) (fun h45 => ?_) (fun h45 => ?_)
      · skip
        refine zi_iconst hx hb d_Template_write_52 ?_
        refine va_put (D := E.1) (ci := 12) (v := .int (iI (bN false))) (ty := .boolean) (C := "ReplacementWriterModel$Template") (T := F_Template) (N := 13) hx hb S.2.2.2.2 i_Template t_Template t_Template_ok n_Template S.2.2.2.1 hE.1 hP hD hS 0 rfl rfl 4 (by decide) (S.2.2.2.2 _ zw_928) (fun _ h9 => h9) rfl (by decide +kernel) (bN_nar _) (bN_fit _) (Nat.le_of_ble_eq_true rfl) d_Template_write_53 (fun H locs hP hD hS => ?_)
        have hP : va_P E.1 zcl [(te, .inr (12, [.ref tb, .ref ho, .int (iI (bN true)), .int (iI (bN true)), .int (iI (bN false)), .ref tq, .int (iI 0), .ref oq, .int (iI 0), .int (iI 0), .int (iI 0), .int (iI (-1)), .int (iI 0)]))] H := hP
        have hD : va_D A [(te, .inr (12, [.ref tb, .ref ho, .int (iI (bN true)), .int (iI (bN true)), .int (iI (bN false)), .ref tq, .int (iI 0), .ref oq, .int (iI 0), .int (iI 0), .int (iI 0), .int (iI (-1)), .int (iI 0)]))] := hD
        have hE := hE0.at hS hA0
        refine lv_aload_n hx hb d_Template_write_56 rfl (lv_at hl 0 rfl) ?_
        refine zi_iconst hx hb d_Template_write_57 ?_
        refine va_put (D := E.1) (ci := 12) (v := .int (iI 0)) (ty := .int) (C := "ReplacementWriterModel$Template") (T := F_Template) (N := 13) hx hb S.2.2.2.2 i_Template t_Template t_Template_ok n_Template S.2.2.2.1 hE.1 hP hD hS 0 rfl rfl 9 (by decide) (S.2.2.2.2 _ zw_937) (fun _ h9 => h9) rfl (by decide +kernel) rfl rfl (Nat.le_of_ble_eq_true rfl) d_Template_write_58 (fun H locs hP hD hS => ?_)
        have hP : va_P E.1 zcl [(te, .inr (12, [.ref tb, .ref ho, .int (iI (bN true)), .int (iI (bN true)), .int (iI (bN false)), .ref tq, .int (iI 0), .ref oq, .int (iI 0), .int (iI 0), .int (iI 0), .int (iI (-1)), .int (iI 0)]))] H := hP
        have hD : va_D A [(te, .inr (12, [.ref tb, .ref ho, .int (iI (bN true)), .int (iI (bN true)), .int (iI (bN false)), .ref tq, .int (iI 0), .ref oq, .int (iI 0), .int (iI 0), .int (iI 0), .int (iI (-1)), .int (iI 0)]))] := hD
        have hE := hE0.at hS hA0
        refine lv_aload_n hx hb d_Template_write_61 rfl (lv_at hl 0 rfl) ?_
        refine zi_iconst hx hb d_Template_write_62 ?_
        refine va_put (D := E.1) (ci := 12) (v := .int (iI 0)) (ty := .int) (C := "ReplacementWriterModel$Template") (T := F_Template) (N := 13) hx hb S.2.2.2.2 i_Template t_Template t_Template_ok n_Template S.2.2.2.1 hE.1 hP hD hS 0 rfl rfl 10 (by decide) (S.2.2.2.2 _ zw_938) (fun _ h9 => h9) rfl (by decide +kernel) rfl rfl (Nat.le_of_ble_eq_true rfl) d_Template_write_63 (fun H locs hP hD hS => ?_)
        have hP : va_P E.1 zcl [(te, .inr (12, [.ref tb, .ref ho, .int (iI (bN true)), .int (iI (bN true)), .int (iI (bN false)), .ref tq, .int (iI 0), .ref oq, .int (iI 0), .int (iI 0), .int (iI 0), .int (iI (-1)), .int (iI 0)]))] H := hP
        have hD : va_D A [(te, .inr (12, [.ref tb, .ref ho, .int (iI (bN true)), .int (iI (bN true)), .int (iI (bN false)), .ref tq, .int (iI 0), .ref oq, .int (iI 0), .int (iI 0), .int (iI 0), .int (iI (-1)), .int (iI 0)]))] := hD
        have hE := hE0.at hS hA0
        refine lv_aload_n hx hb d_Template_write_66 rfl (lv_at hl 0 rfl) ?_
        refine zi_iconst hx hb d_Template_write_67 ?_
        refine va_put (D := E.1) (ci := 12) (v := .int (iI (-1))) (ty := .int) (C := "ReplacementWriterModel$Template") (T := F_Template) (N := 13) hx hb S.2.2.2.2 i_Template t_Template t_Template_ok n_Template S.2.2.2.1 hE.1 hP hD hS 0 rfl rfl 11 (by decide) (S.2.2.2.2 _ zw_939) (fun _ h9 => h9) rfl (by decide +kernel) rfl rfl (Nat.le_of_ble_eq_true rfl) d_Template_write_68 (fun H locs hP hD hS => ?_)
        have hP : va_P E.1 zcl [(te, .inr (12, [.ref tb, .ref ho, .int (iI (bN true)), .int (iI (bN true)), .int (iI (bN false)), .ref tq, .int (iI 0), .ref oq, .int (iI 0), .int (iI 0), .int (iI 0), .int (iI (-1)), .int (iI 0)]))] H := hP
        have hD : va_D A [(te, .inr (12, [.ref tb, .ref ho, .int (iI (bN true)), .int (iI (bN true)), .int (iI (bN false)), .ref tq, .int (iI 0), .ref oq, .int (iI 0), .int (iI 0), .int (iI 0), .int (iI (-1)), .int (iI 0)]))] := hD
        have hE := hE0.at hS hA0
        refine lv_iload_n hx hb d_Template_write_71 rfl (lv_at hl 2 rfl) ?_
        refine zi_sipush hx hb d_Template_write_72 (by decide) ?_
        refine zi_iand (r := (iI k &&& iI 4096).toInt) hx hb d_Template_write_75 (iI_of _) ?_
        refine zi_if_eq hx hb d_Template_write_76 rfl (iI_r _) (fun h76 => ?_) (fun h76 => ?_)
        · skip
          refine lv_aload_n hx hb d_Template_write_113 rfl (lv_at hl 0 rfl) ?_
          refine zi_iconst hx hb d_Template_write_114 ?_
          refine lv_aload_n hx hb d_Template_write_115 rfl (lv_at hl 0 rfl) ?_
          refine zgf S hE (ci := 12) rfl i_Template (hP 0 _ rfl) 6 (by decide) zw_931 rfl d_Template_write_116 ?_
          refine zi_iconst hx hb d_Template_write_119 ?_
          have hPc := hP.sub (ws' := [(te, .inr (12, [.ref tb, .ref ho, .int (iI (bN true)), .int (iI (bN true)), .int (iI (bN false)), .ref tq, .int (iI 0), .ref oq, .int (iI 0), .int (iI 0), .int (iI 0), .int (iI (-1)), .int (iI 0)]))]) [0] rfl
          have hDc := hD.sub (ws' := [(te, .inr (12, [.ref tb, .ref ho, .int (iI (bN true)), .int (iI (bN true)), .int (iI (bN false)), .ref tq, .int (iI 0), .ref oq, .int (iI 0), .int (iI 0), .int (iI 0), .int (iI (-1)), .int (iI 0)]))]) [0] (by decide) rfl
          have hFc := va_free (wc := [(te, .inr (12, [.ref tb, .ref ho, .int (iI (bN true)), .int (iI (bN true)), .int (iI (bN false)), .ref tq, .int (iI 0), .ref oq, .int (iI 0), .int (iI 0), .int (iI 0), .int (iI (-1)), .int (iI 0)]))]) hD hS hA [0] rfl
          refine zcW (va_runV (As := [.int (iI 0), .int (iI 0), .int (iI 0)]) (rest := []) S (c_Template_part l E _ te tb oq ho tq true true false) ⟨zcwB (n := 3) S zw_1148 zw_16 zw_1145 (by decide +kernel) rfl rfl ⟨Nat.le_of_ble_eq_true rfl, Nat.le_of_ble_eq_true rfl⟩, S.2.2.2.2 _ zw_1147, S.2.2.2.2 _ zs_34⟩ (zPreV hE (hP 0 _ rfl) rfl ⟨rfl, hPc, hDc.weaken (fun _ _ _ h => hA0 _ h), trivial⟩) rfl rfl hl.1 rfl (lv_room (Nat.le_of_ble_eq_true rfl)) d_Template_write_120 ⟨by (try dsimp only); omega, by (try dsimp only); omega⟩) hS (fun q _ h => hFc q h) hFc (fun v H locs hq hz1 hk1 hS => ?_)
          obtain ⟨rfl, hP1, hD1⟩ := hq
          obtain ⟨hP, hD⟩ := va_join (wr := []) (w1 := [(te, .inr (12, [.ref tb, .ref ho, .int (iI (bN true)), .int (iI (bN true)), .int (iI (bN false)), .ref tq, .int (iI 0), .ref oq, .int (iI 0), .int (iI 0), .int (iI 0), .int (iI (-1)), .int (iI 0)]))]) hP hD [0] [] rfl rfl (by decide) (by decide) hk1 hFc hP1 hD1
          have hP : va_P E.1 zcl [(te, .inr (12, [.ref tb, .ref ho, .int (iI (bN true)), .int (iI (bN true)), .int (iI (bN false)), .ref tq, .int (iI 0), .ref oq, .int (iI 0), .int (iI 0), .int (iI 0), .int (iI (-1)), .int (iI 0)]))] H := hP
          have hD : va_D A [(te, .inr (12, [.ref tb, .ref ho, .int (iI (bN true)), .int (iI (bN true)), .int (iI (bN false)), .ref tq, .int (iI 0), .ref oq, .int (iI 0), .int (iI 0), .int (iI 0), .int (iI (-1)), .int (iI 0)]))] := hD
          have hE := hE0.at hS hA0
          exact zwi S hr hlk hS (⟨rfl, true, true, false, hP, hD⟩) (by (try dsimp only); omega) (by (try dsimp only); omega) d_Template_write_123
        · skip
          refine zi_iconst hx hb d_Template_write_79 ?_
          refine lv_istore_n (lv' := [(3, .int (iI 0)), (0, .ref te), (1, .ref ho), (2, .int (iI k))]) hx hb d_Template_write_80 rfl hl (by decide) rfl (fun ls hl => ?_)
          refine lv_iload_n hx hb d_Template_write_81 rfl (lv_at hl 0 rfl) ?_
          refine lv_aload_n hx hb d_Template_write_82 rfl (lv_at hl 1 rfl) ?_
          refine zgf S hE (ci := 12) rfl i_Template (hP 0 _ rfl) 6 (by decide) zw_931 rfl d_Template_write_83 ?_
          refine zi_icmp_ge hx hb d_Template_write_86 rfl (by omega) (by omega) (fun h86 => ?_) (fun h => absurd h (by omega))
          refine zi_iconst hx hb d_Template_write_111 ?_
          exact zwi S hr hlk hS (⟨rfl, true, true, false, hP, hD⟩) (by (try dsimp only); omega) (by (try dsimp only); omega) d_Template_write_112
      · skip
        refine zi_iconst hx hb d_Template_write_48 ?_
        refine lv_goto hx hb d_Template_write_49 rfl ?_
        refine va_put (D := E.1) (ci := 12) (v := .int (iI (bN true))) (ty := .boolean) (C := "ReplacementWriterModel$Template") (T := F_Template) (N := 13) hx hb S.2.2.2.2 i_Template t_Template t_Template_ok n_Template S.2.2.2.1 hE.1 hP hD hS 0 rfl rfl 4 (by decide) (S.2.2.2.2 _ zw_928) (fun _ h9 => h9) rfl (by decide +kernel) (bN_nar _) (bN_fit _) (Nat.le_of_ble_eq_true rfl) d_Template_write_53 (fun H locs hP hD hS => ?_)
        have hP : va_P E.1 zcl [(te, .inr (12, [.ref tb, .ref ho, .int (iI (bN true)), .int (iI (bN true)), .int (iI (bN true)), .ref tq, .int (iI 0), .ref oq, .int (iI 0), .int (iI 0), .int (iI 0), .int (iI (-1)), .int (iI 0)]))] H := hP
        have hD : va_D A [(te, .inr (12, [.ref tb, .ref ho, .int (iI (bN true)), .int (iI (bN true)), .int (iI (bN true)), .ref tq, .int (iI 0), .ref oq, .int (iI 0), .int (iI 0), .int (iI 0), .int (iI (-1)), .int (iI 0)]))] := hD
        have hE := hE0.at hS hA0
        refine lv_aload_n hx hb d_Template_write_56 rfl (lv_at hl 0 rfl) ?_
        refine zi_iconst hx hb d_Template_write_57 ?_
        refine va_put (D := E.1) (ci := 12) (v := .int (iI 0)) (ty := .int) (C := "ReplacementWriterModel$Template") (T := F_Template) (N := 13) hx hb S.2.2.2.2 i_Template t_Template t_Template_ok n_Template S.2.2.2.1 hE.1 hP hD hS 0 rfl rfl 9 (by decide) (S.2.2.2.2 _ zw_937) (fun _ h9 => h9) rfl (by decide +kernel) rfl rfl (Nat.le_of_ble_eq_true rfl) d_Template_write_58 (fun H locs hP hD hS => ?_)
        have hP : va_P E.1 zcl [(te, .inr (12, [.ref tb, .ref ho, .int (iI (bN true)), .int (iI (bN true)), .int (iI (bN true)), .ref tq, .int (iI 0), .ref oq, .int (iI 0), .int (iI 0), .int (iI 0), .int (iI (-1)), .int (iI 0)]))] H := hP
        have hD : va_D A [(te, .inr (12, [.ref tb, .ref ho, .int (iI (bN true)), .int (iI (bN true)), .int (iI (bN true)), .ref tq, .int (iI 0), .ref oq, .int (iI 0), .int (iI 0), .int (iI 0), .int (iI (-1)), .int (iI 0)]))] := hD
        have hE := hE0.at hS hA0
        refine lv_aload_n hx hb d_Template_write_61 rfl (lv_at hl 0 rfl) ?_
        refine zi_iconst hx hb d_Template_write_62 ?_
        refine va_put (D := E.1) (ci := 12) (v := .int (iI 0)) (ty := .int) (C := "ReplacementWriterModel$Template") (T := F_Template) (N := 13) hx hb S.2.2.2.2 i_Template t_Template t_Template_ok n_Template S.2.2.2.1 hE.1 hP hD hS 0 rfl rfl 10 (by decide) (S.2.2.2.2 _ zw_938) (fun _ h9 => h9) rfl (by decide +kernel) rfl rfl (Nat.le_of_ble_eq_true rfl) d_Template_write_63 (fun H locs hP hD hS => ?_)
        have hP : va_P E.1 zcl [(te, .inr (12, [.ref tb, .ref ho, .int (iI (bN true)), .int (iI (bN true)), .int (iI (bN true)), .ref tq, .int (iI 0), .ref oq, .int (iI 0), .int (iI 0), .int (iI 0), .int (iI (-1)), .int (iI 0)]))] H := hP
        have hD : va_D A [(te, .inr (12, [.ref tb, .ref ho, .int (iI (bN true)), .int (iI (bN true)), .int (iI (bN true)), .ref tq, .int (iI 0), .ref oq, .int (iI 0), .int (iI 0), .int (iI 0), .int (iI (-1)), .int (iI 0)]))] := hD
        have hE := hE0.at hS hA0
        refine lv_aload_n hx hb d_Template_write_66 rfl (lv_at hl 0 rfl) ?_
        refine zi_iconst hx hb d_Template_write_67 ?_
        refine va_put (D := E.1) (ci := 12) (v := .int (iI (-1))) (ty := .int) (C := "ReplacementWriterModel$Template") (T := F_Template) (N := 13) hx hb S.2.2.2.2 i_Template t_Template t_Template_ok n_Template S.2.2.2.1 hE.1 hP hD hS 0 rfl rfl 11 (by decide) (S.2.2.2.2 _ zw_939) (fun _ h9 => h9) rfl (by decide +kernel) rfl rfl (Nat.le_of_ble_eq_true rfl) d_Template_write_68 (fun H locs hP hD hS => ?_)
        have hP : va_P E.1 zcl [(te, .inr (12, [.ref tb, .ref ho, .int (iI (bN true)), .int (iI (bN true)), .int (iI (bN true)), .ref tq, .int (iI 0), .ref oq, .int (iI 0), .int (iI 0), .int (iI 0), .int (iI (-1)), .int (iI 0)]))] H := hP
        have hD : va_D A [(te, .inr (12, [.ref tb, .ref ho, .int (iI (bN true)), .int (iI (bN true)), .int (iI (bN true)), .ref tq, .int (iI 0), .ref oq, .int (iI 0), .int (iI 0), .int (iI 0), .int (iI (-1)), .int (iI 0)]))] := hD
        have hE := hE0.at hS hA0
        refine lv_iload_n hx hb d_Template_write_71 rfl (lv_at hl 2 rfl) ?_
        refine zi_sipush hx hb d_Template_write_72 (by decide) ?_
        refine zi_iand (r := (iI k &&& iI 4096).toInt) hx hb d_Template_write_75 (iI_of _) ?_
        refine zi_if_eq hx hb d_Template_write_76 rfl (iI_r _) (fun h76 => ?_) (fun h76 => ?_)
        · skip
          refine lv_aload_n hx hb d_Template_write_113 rfl (lv_at hl 0 rfl) ?_
          refine zi_iconst hx hb d_Template_write_114 ?_
          refine lv_aload_n hx hb d_Template_write_115 rfl (lv_at hl 0 rfl) ?_
          refine zgf S hE (ci := 12) rfl i_Template (hP 0 _ rfl) 6 (by decide) zw_931 rfl d_Template_write_116 ?_
          refine zi_iconst hx hb d_Template_write_119 ?_
          have hPc := hP.sub (ws' := [(te, .inr (12, [.ref tb, .ref ho, .int (iI (bN true)), .int (iI (bN true)), .int (iI (bN true)), .ref tq, .int (iI 0), .ref oq, .int (iI 0), .int (iI 0), .int (iI 0), .int (iI (-1)), .int (iI 0)]))]) [0] rfl
          have hDc := hD.sub (ws' := [(te, .inr (12, [.ref tb, .ref ho, .int (iI (bN true)), .int (iI (bN true)), .int (iI (bN true)), .ref tq, .int (iI 0), .ref oq, .int (iI 0), .int (iI 0), .int (iI 0), .int (iI (-1)), .int (iI 0)]))]) [0] (by decide) rfl
          have hFc := va_free (wc := [(te, .inr (12, [.ref tb, .ref ho, .int (iI (bN true)), .int (iI (bN true)), .int (iI (bN true)), .ref tq, .int (iI 0), .ref oq, .int (iI 0), .int (iI 0), .int (iI 0), .int (iI (-1)), .int (iI 0)]))]) hD hS hA [0] rfl
          refine zcW (va_runV (As := [.int (iI 0), .int (iI 0), .int (iI 0)]) (rest := []) S (c_Template_part l E _ te tb oq ho tq true true true) ⟨zcwB (n := 3) S zw_1148 zw_16 zw_1145 (by decide +kernel) rfl rfl ⟨Nat.le_of_ble_eq_true rfl, Nat.le_of_ble_eq_true rfl⟩, S.2.2.2.2 _ zw_1147, S.2.2.2.2 _ zs_34⟩ (zPreV hE (hP 0 _ rfl) rfl ⟨rfl, hPc, hDc.weaken (fun _ _ _ h => hA0 _ h), trivial⟩) rfl rfl hl.1 rfl (lv_room (Nat.le_of_ble_eq_true rfl)) d_Template_write_120 ⟨by (try dsimp only); omega, by (try dsimp only); omega⟩) hS (fun q _ h => hFc q h) hFc (fun v H locs hq hz1 hk1 hS => ?_)
          obtain ⟨rfl, hP1, hD1⟩ := hq
          obtain ⟨hP, hD⟩ := va_join (wr := []) (w1 := [(te, .inr (12, [.ref tb, .ref ho, .int (iI (bN true)), .int (iI (bN true)), .int (iI (bN true)), .ref tq, .int (iI 0), .ref oq, .int (iI 0), .int (iI 0), .int (iI 0), .int (iI (-1)), .int (iI 0)]))]) hP hD [0] [] rfl rfl (by decide) (by decide) hk1 hFc hP1 hD1
          have hP : va_P E.1 zcl [(te, .inr (12, [.ref tb, .ref ho, .int (iI (bN true)), .int (iI (bN true)), .int (iI (bN true)), .ref tq, .int (iI 0), .ref oq, .int (iI 0), .int (iI 0), .int (iI 0), .int (iI (-1)), .int (iI 0)]))] H := hP
          have hD : va_D A [(te, .inr (12, [.ref tb, .ref ho, .int (iI (bN true)), .int (iI (bN true)), .int (iI (bN true)), .ref tq, .int (iI 0), .ref oq, .int (iI 0), .int (iI 0), .int (iI 0), .int (iI (-1)), .int (iI 0)]))] := hD
          have hE := hE0.at hS hA0
          exact zwi S hr hlk hS (⟨rfl, true, true, true, hP, hD⟩) (by (try dsimp only); omega) (by (try dsimp only); omega) d_Template_write_123
        · skip
          refine zi_iconst hx hb d_Template_write_79 ?_
          refine lv_istore_n (lv' := [(3, .int (iI 0)), (0, .ref te), (1, .ref ho), (2, .int (iI k))]) hx hb d_Template_write_80 rfl hl (by decide) rfl (fun ls hl => ?_)
          refine lv_iload_n hx hb d_Template_write_81 rfl (lv_at hl 0 rfl) ?_
          refine lv_aload_n hx hb d_Template_write_82 rfl (lv_at hl 1 rfl) ?_
          refine zgf S hE (ci := 12) rfl i_Template (hP 0 _ rfl) 6 (by decide) zw_931 rfl d_Template_write_83 ?_
          refine zi_icmp_ge hx hb d_Template_write_86 rfl (by omega) (by omega) (fun h86 => ?_) (fun h => absurd h (by omega))
          refine zi_iconst hx hb d_Template_write_111 ?_
          exact zwi S hr hlk hS (⟨rfl, true, true, true, hP, hD⟩) (by (try dsimp only); omega) (by (try dsimp only); omega) d_Template_write_112

set_option maxRecDepth 100000 in
set_option maxHeartbeats 4000000 in
theorem c_Mod_write (l : Launch) (E : zP) (sz : Nat) (mo tb te ho xq cq pq : Nat) (oq tq : Nat) (k T : Int) (hT : T = if iI k &&& iI (-7681) = iI 0 then 0 else 1) : Met l y_Mod_write (.code y_Mod_write b_Mod_write 2 ( some FieldType.int ) :: zw) { frames := 2, cells := (0), slots := (0), locals := 48 } (zPc E [.ref mo, .int (iI k)] (fun H => H.size = sz ∧ va_P E.1 zcl [(mo, .inr (10, [.ref tb, .ref te, .ref ho, .ref xq, .int (iI 0), .int (iI 0), .int (iI 0), .int (iI (bN false)), .ref cq, .ref pq, .int (iI 0), .int (iI (-1))])), (te, .inr (12, [.ref tb, .null, .int (iI (bN false)), .int (iI (bN false)), .int (iI (bN false)), .ref tq, .int (iI 0), .ref oq, .int (iI 0), .int (iI 0), .int (iI 0), .int (iI (-1)), .int (iI 0)]))] H ∧ va_D (zOld E) [(mo, .inr (10, [.ref tb, .ref te, .ref ho, .ref xq, .int (iI 0), .int (iI 0), .int (iI 0), .int (iI (bN false)), .ref cq, .ref pq, .int (iI 0), .int (iI (-1))])), (te, .inr (12, [.ref tb, .null, .int (iI (bN false)), .int (iI (bN false)), .int (iI (bN false)), .ref tq, .int (iI 0), .ref oq, .int (iI 0), .int (iI 0), .int (iI 0), .int (iI (-1)), .int (iI 0)]))] ∧ (True))) (zW (fun v H => v = some (.int (iI 0)) ∧ zTh E mo T H) (va_A [(mo, .inr (10, [.ref tb, .ref te, .ref ho, .ref xq, .int (iI 0), .int (iI 0), .int (iI 0), .int (iI (bN false)), .ref cq, .ref pq, .int (iI 0), .int (iI (-1))])), (te, .inr (12, [.ref tb, .null, .int (iI (bN false)), .int (iI (bN false)), .int (iI (bN false)), .ref tq, .int (iI 0), .ref oq, .int (iI 0), .int (iI 0), .int (iI 0), .int (iI (-1)), .int (iI 0)]))] sz)) (0) (0) (va_A [(mo, .inr (10, [.ref tb, .ref te, .ref ho, .ref xq, .int (iI 0), .int (iI 0), .int (iI 0), .int (iI (bN false)), .ref cq, .ref pq, .int (iI 0), .int (iI (-1))])), (te, .inr (12, [.ref tb, .null, .int (iI (bN false)), .int (iI (bN false)), .int (iI (bN false)), .ref tq, .int (iI 0), .ref oq, .int (iI 0), .int (iI 0), .int (iI 0), .int (iI (-1)), .int (iI 0)]))] sz) := by
  refine zMet (by decide) (Nat.le_of_ble_eq_true rfl) ?_
  intro p e s m below meth c ls S hr hlk hnm hE ⟨hsz, hP, hDo, hX⟩ hl
  have hx := S.1
  have hb := S.2.1
  have hE0 := hE
  have hl : lv_has ls 2 [(0, .ref mo), (1, .int (iI k))] := hl
  subst hsz
  have hD := hDo.self (sz := s.heap.size)
  generalize hAe : va_A [(mo, .inr (10, [.ref tb, .ref te, .ref ho, .ref xq, .int (iI 0), .int (iI 0), .int (iI 0), .int (iI (bN false)), .ref cq, .ref pq, .int (iI 0), .int (iI (-1))])), (te, .inr (12, [.ref tb, .null, .int (iI (bN false)), .int (iI (bN false)), .int (iI (bN false)), .ref tq, .int (iI 0), .ref oq, .int (iI 0), .int (iI 0), .int (iI 0), .int (iI (-1)), .int (iI 0)]))] s.heap.size = A at hD ⊢
  have hA : ∀ q : Nat, s.heap.size ≤ q → A q := fun q h => by rw [← hAe]; exact Or.inr h
  have hA0 := zA0 hE hDo hAe
  have hS : va_S A s.heap s.heap [] := va_S.rf
  refine lv_aload_n hx hb d_Mod_write_0 rfl (lv_at hl 0 rfl) ?_
  refine zi_iconst hx hb d_Mod_write_1 ?_
  refine va_put (D := E.1) (ci := 10) (v := .int (iI 0)) (ty := .int) (C := "ReplacementWriterModel") (T := F_Mod) (N := 12) hx hb S.2.2.2.2 i_Mod t_Mod t_Mod_ok n_Mod S.2.2.2.1 hE.1 hP hD hS 0 rfl rfl 5 (by decide) (S.2.2.2.2 _ zw_1012) (fun _ h9 => h9) rfl (by decide +kernel) rfl rfl (Nat.le_of_ble_eq_true rfl) d_Mod_write_2 (fun H locs hP hD hS => ?_)
  have hP : va_P E.1 zcl [(mo, .inr (10, [.ref tb, .ref te, .ref ho, .ref xq, .int (iI 0), .int (iI 0), .int (iI 0), .int (iI (bN false)), .ref cq, .ref pq, .int (iI 0), .int (iI (-1))])), (te, .inr (12, [.ref tb, .null, .int (iI (bN false)), .int (iI (bN false)), .int (iI (bN false)), .ref tq, .int (iI 0), .ref oq, .int (iI 0), .int (iI 0), .int (iI 0), .int (iI (-1)), .int (iI 0)]))] H := hP
  have hD : va_D A [(mo, .inr (10, [.ref tb, .ref te, .ref ho, .ref xq, .int (iI 0), .int (iI 0), .int (iI 0), .int (iI (bN false)), .ref cq, .ref pq, .int (iI 0), .int (iI (-1))])), (te, .inr (12, [.ref tb, .null, .int (iI (bN false)), .int (iI (bN false)), .int (iI (bN false)), .ref tq, .int (iI 0), .ref oq, .int (iI 0), .int (iI 0), .int (iI 0), .int (iI (-1)), .int (iI 0)]))] := hD
  have hE := hE0.at hS hA0
  refine lv_aload_n hx hb d_Mod_write_5 rfl (lv_at hl 0 rfl) ?_
  refine zi_iconst hx hb d_Mod_write_6 ?_
  refine lv_iload_n hx hb d_Mod_write_7 rfl (lv_at hl 1 rfl) ?_
  refine zi_sipush hx hb d_Mod_write_8 (by decide) ?_
  refine zi_iand (r := (iI k &&& iI (-7681)).toInt) hx hb d_Mod_write_11 (iI_of _) ?_
  refine zi_if_eq hx hb d_Mod_write_12 rfl (iI_r _) (fun h12 => ?_) (fun h12 => ?_)
  · skip
    refine zi_iconst hx hb d_Mod_write_19 ?_
    have hPc := hP.sub (ws' := [(mo, .inr (10, [.ref tb, .ref te, .ref ho, .ref xq, .int (iI 0), .int (iI 0), .int (iI 0), .int (iI (bN false)), .ref cq, .ref pq, .int (iI 0), .int (iI (-1))]))]) [0] rfl
    have hDc := hD.sub (ws' := [(mo, .inr (10, [.ref tb, .ref te, .ref ho, .ref xq, .int (iI 0), .int (iI 0), .int (iI 0), .int (iI (bN false)), .ref cq, .ref pq, .int (iI 0), .int (iI (-1))]))]) [0] (by decide) rfl
    have hFc := va_free (wc := [(mo, .inr (10, [.ref tb, .ref te, .ref ho, .ref xq, .int (iI 0), .int (iI 0), .int (iI 0), .int (iI (bN false)), .ref cq, .ref pq, .int (iI 0), .int (iI (-1))]))]) hD hS hA [0] rfl
    refine zcW (va_runV (As := [.int (iI 1), .int (iI (bN false))]) (rest := []) S (c_Mod_refuse l E _ mo tb te ho xq cq pq 0 0 0 0 (-1) 1 false) ⟨zcwB (n := 2) S zw_1056 zw_14 zw_1053 (by decide +kernel) rfl rfl ⟨Nat.le_of_ble_eq_true rfl, Nat.le_of_ble_eq_true rfl⟩, S.2.2.2.2 _ zw_1055, S.2.2.2.2 _ zs_30⟩ (zPreV hE (hP 0 _ rfl) rfl ⟨rfl, hPc, hDc.weaken (fun _ _ _ h => hA0 _ h), trivial⟩) rfl rfl hl.1 rfl (lv_room (Nat.le_of_ble_eq_true rfl)) d_Mod_write_20 ⟨by (try dsimp only); omega, by (try dsimp only); omega⟩) hS (fun q _ h => hFc q h) hFc (fun v H locs hq hz1 hk1 hS => ?_)
    obtain ⟨rfl, hP1, hD1⟩ := hq
    obtain ⟨hP, hD⟩ := va_join (wr := [(te, .inr (12, [.ref tb, .null, .int (iI (bN false)), .int (iI (bN false)), .int (iI (bN false)), .ref tq, .int (iI 0), .ref oq, .int (iI 0), .int (iI 0), .int (iI 0), .int (iI (-1)), .int (iI 0)]))]) (w1 := [(mo, .inr (10, [.ref tb, .ref te, .ref ho, .ref xq, .int (iI 0), .int (iI 0), .int (iI 0), .int (iI (bN false)), .ref cq, .ref pq, .int (iI 0), .int (iI (-1))]))]) hP hD [0] [1] rfl rfl (by decide) (by decide) hk1 hFc hP1 hD1
    have hP : va_P E.1 zcl [(te, .inr (12, [.ref tb, .null, .int (iI (bN false)), .int (iI (bN false)), .int (iI (bN false)), .ref tq, .int (iI 0), .ref oq, .int (iI 0), .int (iI 0), .int (iI 0), .int (iI (-1)), .int (iI 0)])), (mo, .inr (10, [.ref tb, .ref te, .ref ho, .ref xq, .int (iI 0), .int (iI 0), .int (iI 0), .int (iI (bN false)), .ref cq, .ref pq, .int (iI 0), .int (iI (-1))]))] H := hP
    have hD : va_D A [(te, .inr (12, [.ref tb, .null, .int (iI (bN false)), .int (iI (bN false)), .int (iI (bN false)), .ref tq, .int (iI 0), .ref oq, .int (iI 0), .int (iI 0), .int (iI 0), .int (iI (-1)), .int (iI 0)])), (mo, .inr (10, [.ref tb, .ref te, .ref ho, .ref xq, .int (iI 0), .int (iI 0), .int (iI 0), .int (iI (bN false)), .ref cq, .ref pq, .int (iI 0), .int (iI (-1))]))] := hD
    have hE := hE0.at hS hA0
    refine W.eq (g2 := F0 m 23 ls ([.int (iI 0)])) rfl ?_
    refine zi_if_eq hx hb d_Mod_write_23 rfl (by omega) (fun h23 => ?_) (fun h23 => absurd h23 (by omega))
    refine lv_aload_n hx hb d_Mod_write_28 rfl (lv_at hl 0 rfl) ?_
    refine zgf S hE (ci := 10) rfl i_Mod (hP 1 _ rfl) 1 (by decide) zw_1008 rfl d_Mod_write_29 ?_
    refine zi_iconst hx hb d_Mod_write_32 ?_
    refine va_put (D := E.1) (ci := 12) (v := .int (iI 0)) (ty := .int) (C := "ReplacementWriterModel$Template") (T := F_Template) (N := 13) hx hb S.2.2.2.2 i_Template t_Template t_Template_ok n_Template S.2.2.2.1 hE.1 hP hD hS 0 rfl rfl 8 (by decide) (S.2.2.2.2 _ zw_936) (fun _ h9 => h9) rfl (by decide +kernel) rfl rfl (Nat.le_of_ble_eq_true rfl) d_Mod_write_33 (fun H locs hP hD hS => ?_)
    have hP : va_P E.1 zcl [(te, .inr (12, [.ref tb, .null, .int (iI (bN false)), .int (iI (bN false)), .int (iI (bN false)), .ref tq, .int (iI 0), .ref oq, .int (iI 0), .int (iI 0), .int (iI 0), .int (iI (-1)), .int (iI 0)])), (mo, .inr (10, [.ref tb, .ref te, .ref ho, .ref xq, .int (iI 0), .int (iI 0), .int (iI 0), .int (iI (bN false)), .ref cq, .ref pq, .int (iI 0), .int (iI (-1))]))] H := hP
    have hD : va_D A [(te, .inr (12, [.ref tb, .null, .int (iI (bN false)), .int (iI (bN false)), .int (iI (bN false)), .ref tq, .int (iI 0), .ref oq, .int (iI 0), .int (iI 0), .int (iI 0), .int (iI (-1)), .int (iI 0)])), (mo, .inr (10, [.ref tb, .ref te, .ref ho, .ref xq, .int (iI 0), .int (iI 0), .int (iI 0), .int (iI (bN false)), .ref cq, .ref pq, .int (iI 0), .int (iI (-1))]))] := hD
    have hE := hE0.at hS hA0
    refine lv_aload_n hx hb d_Mod_write_36 rfl (lv_at hl 0 rfl) ?_
    refine lv_aload_n hx hb d_Mod_write_37 rfl (lv_at hl 0 rfl) ?_
    have hPc := hP.sub (ws' := [(mo, .inr (10, [.ref tb, .ref te, .ref ho, .ref xq, .int (iI 0), .int (iI 0), .int (iI 0), .int (iI (bN false)), .ref cq, .ref pq, .int (iI 0), .int (iI (-1))]))]) [1] rfl
    have hDc := hD.sub (ws' := [(mo, .inr (10, [.ref tb, .ref te, .ref ho, .ref xq, .int (iI 0), .int (iI 0), .int (iI 0), .int (iI (bN false)), .ref cq, .ref pq, .int (iI 0), .int (iI (-1))]))]) [1] (by decide) rfl
    have hFc := va_free (wc := [(mo, .inr (10, [.ref tb, .ref te, .ref ho, .ref xq, .int (iI 0), .int (iI 0), .int (iI 0), .int (iI (bN false)), .ref cq, .ref pq, .int (iI 0), .int (iI (-1))]))]) hD hS hA [1] rfl
    refine zcW (va_runV (As := []) (rest := [.ref mo]) S (c_Mod_characters l E _ mo tb te ho xq cq pq 0) ⟨zcwB (n := 0) S zw_1073 zw_14 zw_1070 (by decide +kernel) rfl rfl ⟨Nat.le_of_ble_eq_true rfl, Nat.le_of_ble_eq_true rfl⟩, S.2.2.2.2 _ zw_1072, S.2.2.2.2 _ zs_31⟩ (zPreV hE (hP 1 _ rfl) rfl ⟨rfl, hPc, hDc.weaken (fun _ _ _ h => hA0 _ h), trivial⟩) rfl rfl hl.1 rfl (lv_room (Nat.le_of_ble_eq_true rfl)) d_Mod_write_38 ⟨by (try dsimp only); omega, by (try dsimp only); omega⟩) hS (fun q _ h => hFc q h) hFc (fun v H locs hq hz1 hk1 hS => ?_)
    obtain ⟨rfl, hP1, hD1⟩ := hq
    obtain ⟨hP, hD⟩ := va_join (wr := [(te, .inr (12, [.ref tb, .null, .int (iI (bN false)), .int (iI (bN false)), .int (iI (bN false)), .ref tq, .int (iI 0), .ref oq, .int (iI 0), .int (iI 0), .int (iI 0), .int (iI (-1)), .int (iI 0)]))]) (w1 := [(mo, .inr (10, [.ref tb, .ref te, .ref ho, .ref xq, .int (iI 0), .int (iI 0), .int (iI 0), .int (iI (bN false)), .ref cq, .ref pq, .int (iI 0), .int (iI (-1))]))]) hP hD [1] [0] rfl rfl (by decide) (by decide) hk1 hFc hP1 hD1
    have hP : va_P E.1 zcl [(te, .inr (12, [.ref tb, .null, .int (iI (bN false)), .int (iI (bN false)), .int (iI (bN false)), .ref tq, .int (iI 0), .ref oq, .int (iI 0), .int (iI 0), .int (iI 0), .int (iI (-1)), .int (iI 0)])), (mo, .inr (10, [.ref tb, .ref te, .ref ho, .ref xq, .int (iI 0), .int (iI 0), .int (iI 0), .int (iI (bN false)), .ref cq, .ref pq, .int (iI 0), .int (iI (-1))]))] H := hP
    have hD : va_D A [(te, .inr (12, [.ref tb, .null, .int (iI (bN false)), .int (iI (bN false)), .int (iI (bN false)), .ref tq, .int (iI 0), .ref oq, .int (iI 0), .int (iI 0), .int (iI 0), .int (iI (-1)), .int (iI 0)])), (mo, .inr (10, [.ref tb, .ref te, .ref ho, .ref xq, .int (iI 0), .int (iI 0), .int (iI 0), .int (iI (bN false)), .ref cq, .ref pq, .int (iI 0), .int (iI (-1))]))] := hD
    have hE := hE0.at hS hA0
    refine va_put (D := E.1) (ci := 10) (v := .int (iI (-1))) (ty := .int) (C := "ReplacementWriterModel") (T := F_Mod) (N := 12) hx hb S.2.2.2.2 i_Mod t_Mod t_Mod_ok n_Mod S.2.2.2.1 hE.1 hP hD hS 1 rfl rfl 11 (by decide) (S.2.2.2.2 _ zw_1018) (fun _ h9 => h9) rfl (by decide +kernel) rfl rfl (Nat.le_of_ble_eq_true rfl) d_Mod_write_41 (fun H locs hP hD hS => ?_)
    have hP : va_P E.1 zcl [(te, .inr (12, [.ref tb, .null, .int (iI (bN false)), .int (iI (bN false)), .int (iI (bN false)), .ref tq, .int (iI 0), .ref oq, .int (iI 0), .int (iI 0), .int (iI 0), .int (iI (-1)), .int (iI 0)])), (mo, .inr (10, [.ref tb, .ref te, .ref ho, .ref xq, .int (iI 0), .int (iI 0), .int (iI 0), .int (iI (bN false)), .ref cq, .ref pq, .int (iI 0), .int (iI (-1))]))] H := hP
    have hD : va_D A [(te, .inr (12, [.ref tb, .null, .int (iI (bN false)), .int (iI (bN false)), .int (iI (bN false)), .ref tq, .int (iI 0), .ref oq, .int (iI 0), .int (iI 0), .int (iI 0), .int (iI (-1)), .int (iI 0)])), (mo, .inr (10, [.ref tb, .ref te, .ref ho, .ref xq, .int (iI 0), .int (iI 0), .int (iI 0), .int (iI (bN false)), .ref cq, .ref pq, .int (iI 0), .int (iI (-1))]))] := hD
    have hE := hE0.at hS hA0
    refine lv_aload_n hx hb d_Mod_write_44 rfl (lv_at hl 0 rfl) ?_
    refine zi_bipush hx hb d_Mod_write_45 (by decide) ?_
    refine va_put (D := E.1) (ci := 10) (v := .int (iI (-3))) (ty := .int) (C := "ReplacementWriterModel") (T := F_Mod) (N := 12) hx hb S.2.2.2.2 i_Mod t_Mod t_Mod_ok n_Mod S.2.2.2.1 hE.1 hP hD hS 1 rfl rfl 6 (by decide) (S.2.2.2.2 _ zw_1013) (fun _ h9 => h9) rfl (by decide +kernel) rfl rfl (Nat.le_of_ble_eq_true rfl) d_Mod_write_47 (fun H locs hP hD hS => ?_)
    have hP : va_P E.1 zcl [(te, .inr (12, [.ref tb, .null, .int (iI (bN false)), .int (iI (bN false)), .int (iI (bN false)), .ref tq, .int (iI 0), .ref oq, .int (iI 0), .int (iI 0), .int (iI 0), .int (iI (-1)), .int (iI 0)])), (mo, .inr (10, [.ref tb, .ref te, .ref ho, .ref xq, .int (iI 0), .int (iI 0), .int (iI (-3)), .int (iI (bN false)), .ref cq, .ref pq, .int (iI 0), .int (iI (-1))]))] H := hP
    have hD : va_D A [(te, .inr (12, [.ref tb, .null, .int (iI (bN false)), .int (iI (bN false)), .int (iI (bN false)), .ref tq, .int (iI 0), .ref oq, .int (iI 0), .int (iI 0), .int (iI 0), .int (iI (-1)), .int (iI 0)])), (mo, .inr (10, [.ref tb, .ref te, .ref ho, .ref xq, .int (iI 0), .int (iI 0), .int (iI (-3)), .int (iI (bN false)), .ref cq, .ref pq, .int (iI 0), .int (iI (-1))]))] := hD
    have hE := hE0.at hS hA0
    refine lv_aload_n hx hb d_Mod_write_50 rfl (lv_at hl 0 rfl) ?_
    refine zgf S hE (ci := 10) rfl i_Mod (hP 1 _ rfl) 11 (by decide) zw_1018 rfl d_Mod_write_51 ?_
    refine zi_if_ge hx hb d_Mod_write_54 rfl (by omega) (fun h54 => absurd h54 (by omega)) (fun h54 => ?_)
    refine lv_aload_n hx hb d_Mod_write_57 rfl (lv_at hl 0 rfl) ?_
    refine zgf S hE (ci := 10) rfl i_Mod (hP 1 _ rfl) 1 (by decide) zw_1008 rfl d_Mod_write_58 ?_
    refine lv_aload_n hx hb d_Mod_write_61 rfl (lv_at hl 0 rfl) ?_
    refine zgf S hE (ci := 10) rfl i_Mod (hP 1 _ rfl) 8 (by decide) zw_1015 rfl d_Mod_write_62 ?_
    refine va_put (D := E.1) (ci := 12) (v := .ref cq) (ty := .array .int) (C := "ReplacementWriterModel$Template") (T := F_Template) (N := 13) hx hb S.2.2.2.2 i_Template t_Template t_Template_ok n_Template S.2.2.2.1 hE.1 hP hD hS 0 rfl rfl 5 (by decide) (S.2.2.2.2 _ zw_930) (fun _ h9 => h9) rfl (by decide +kernel) rfl rfl (Nat.le_of_ble_eq_true rfl) d_Mod_write_65 (fun H locs hP hD hS => ?_)
    have hP : va_P E.1 zcl [(te, .inr (12, [.ref tb, .null, .int (iI (bN false)), .int (iI (bN false)), .int (iI (bN false)), .ref cq, .int (iI 0), .ref oq, .int (iI 0), .int (iI 0), .int (iI 0), .int (iI (-1)), .int (iI 0)])), (mo, .inr (10, [.ref tb, .ref te, .ref ho, .ref xq, .int (iI 0), .int (iI 0), .int (iI (-3)), .int (iI (bN false)), .ref cq, .ref pq, .int (iI 0), .int (iI (-1))]))] H := hP
    have hD : va_D A [(te, .inr (12, [.ref tb, .null, .int (iI (bN false)), .int (iI (bN false)), .int (iI (bN false)), .ref cq, .int (iI 0), .ref oq, .int (iI 0), .int (iI 0), .int (iI 0), .int (iI (-1)), .int (iI 0)])), (mo, .inr (10, [.ref tb, .ref te, .ref ho, .ref xq, .int (iI 0), .int (iI 0), .int (iI (-3)), .int (iI (bN false)), .ref cq, .ref pq, .int (iI 0), .int (iI (-1))]))] := hD
    have hE := hE0.at hS hA0
    refine lv_aload_n hx hb d_Mod_write_68 rfl (lv_at hl 0 rfl) ?_
    refine zgf S hE (ci := 10) rfl i_Mod (hP 1 _ rfl) 1 (by decide) zw_1008 rfl d_Mod_write_69 ?_
    refine lv_aload_n hx hb d_Mod_write_72 rfl (lv_at hl 0 rfl) ?_
    refine zgf S hE (ci := 10) rfl i_Mod (hP 1 _ rfl) 10 (by decide) zw_1017 rfl d_Mod_write_73 ?_
    refine va_put (D := E.1) (ci := 12) (v := .int (iI 0)) (ty := .int) (C := "ReplacementWriterModel$Template") (T := F_Template) (N := 13) hx hb S.2.2.2.2 i_Template t_Template t_Template_ok n_Template S.2.2.2.1 hE.1 hP hD hS 0 rfl rfl 6 (by decide) (S.2.2.2.2 _ zw_932) (fun _ h9 => h9) rfl (by decide +kernel) rfl rfl (Nat.le_of_ble_eq_true rfl) d_Mod_write_76 (fun H locs hP hD hS => ?_)
    have hP : va_P E.1 zcl [(te, .inr (12, [.ref tb, .null, .int (iI (bN false)), .int (iI (bN false)), .int (iI (bN false)), .ref cq, .int (iI 0), .ref oq, .int (iI 0), .int (iI 0), .int (iI 0), .int (iI (-1)), .int (iI 0)])), (mo, .inr (10, [.ref tb, .ref te, .ref ho, .ref xq, .int (iI 0), .int (iI 0), .int (iI (-3)), .int (iI (bN false)), .ref cq, .ref pq, .int (iI 0), .int (iI (-1))]))] H := hP
    have hD : va_D A [(te, .inr (12, [.ref tb, .null, .int (iI (bN false)), .int (iI (bN false)), .int (iI (bN false)), .ref cq, .int (iI 0), .ref oq, .int (iI 0), .int (iI 0), .int (iI 0), .int (iI (-1)), .int (iI 0)])), (mo, .inr (10, [.ref tb, .ref te, .ref ho, .ref xq, .int (iI 0), .int (iI 0), .int (iI (-3)), .int (iI (bN false)), .ref cq, .ref pq, .int (iI 0), .int (iI (-1))]))] := hD
    have hE := hE0.at hS hA0
    refine lv_aload_n hx hb d_Mod_write_79 rfl (lv_at hl 0 rfl) ?_
    refine lv_aload_n hx hb d_Mod_write_80 rfl (lv_at hl 0 rfl) ?_
    refine zgf S hE (ci := 10) rfl i_Mod (hP 1 _ rfl) 1 (by decide) zw_1008 rfl d_Mod_write_81 ?_
    refine lv_aload_n hx hb d_Mod_write_84 rfl (lv_at hl 0 rfl) ?_
    refine zgf S hE (ci := 10) rfl i_Mod (hP 1 _ rfl) 2 (by decide) zw_1009 rfl d_Mod_write_85 ?_
    refine lv_iload_n hx hb d_Mod_write_88 rfl (lv_at hl 1 rfl) ?_
    have hPc := hP.sub (ws' := [(te, .inr (12, [.ref tb, .null, .int (iI (bN false)), .int (iI (bN false)), .int (iI (bN false)), .ref cq, .int (iI 0), .ref oq, .int (iI 0), .int (iI 0), .int (iI 0), .int (iI (-1)), .int (iI 0)]))]) [0] rfl
    have hDc := hD.sub (ws' := [(te, .inr (12, [.ref tb, .null, .int (iI (bN false)), .int (iI (bN false)), .int (iI (bN false)), .ref cq, .int (iI 0), .ref oq, .int (iI 0), .int (iI 0), .int (iI 0), .int (iI (-1)), .int (iI 0)]))]) [0] (by decide) rfl
    have hFc := va_free (wc := [(te, .inr (12, [.ref tb, .null, .int (iI (bN false)), .int (iI (bN false)), .int (iI (bN false)), .ref cq, .int (iI 0), .ref oq, .int (iI 0), .int (iI 0), .int (iI 0), .int (iI (-1)), .int (iI 0)]))]) hD hS hA [0] rfl
    refine zcW (va_runV (As := [.ref ho, .int (iI k)]) (rest := [.ref mo]) S (c_Template_write l E _ te tb oq ho cq k) ⟨zcwB (n := 2) S zw_1133 zw_16 zw_1130 (by decide +kernel) rfl rfl ⟨Nat.le_of_ble_eq_true rfl, Nat.le_of_ble_eq_true rfl⟩, S.2.2.2.2 _ zw_1131, S.2.2.2.2 _ zw_1132⟩ (zPreV hE (hP 0 _ rfl) rfl ⟨rfl, hPc, hDc.weaken (fun _ _ _ h => hA0 _ h), trivial⟩) rfl rfl hl.1 rfl (lv_room (Nat.le_of_ble_eq_true rfl)) d_Mod_write_89 ⟨by (try dsimp only); omega, by (try dsimp only); omega⟩) hS (fun q _ h => hFc q h) hFc (fun v H locs hq hz1 hk1 hS => ?_)
    obtain ⟨rfl, r1, r2, r3, hP1, hD1⟩ := hq
    obtain ⟨hP, hD⟩ := va_join (wr := [(mo, .inr (10, [.ref tb, .ref te, .ref ho, .ref xq, .int (iI 0), .int (iI 0), .int (iI (-3)), .int (iI (bN false)), .ref cq, .ref pq, .int (iI 0), .int (iI (-1))]))]) (w1 := [(te, .inr (12, [.ref tb, .ref ho, .int (iI (bN r1)), .int (iI (bN r2)), .int (iI (bN r3)), .ref cq, .int (iI 0), .ref oq, .int (iI 0), .int (iI 0), .int (iI 0), .int (iI (-1)), .int (iI 0)]))]) hP hD [0] [1] rfl rfl (by decide) (by decide) hk1 hFc hP1 hD1
    have hP : va_P E.1 zcl [(mo, .inr (10, [.ref tb, .ref te, .ref ho, .ref xq, .int (iI 0), .int (iI 0), .int (iI (-3)), .int (iI (bN false)), .ref cq, .ref pq, .int (iI 0), .int (iI (-1))])), (te, .inr (12, [.ref tb, .ref ho, .int (iI (bN r1)), .int (iI (bN r2)), .int (iI (bN r3)), .ref cq, .int (iI 0), .ref oq, .int (iI 0), .int (iI 0), .int (iI 0), .int (iI (-1)), .int (iI 0)]))] H := hP
    have hD : va_D A [(mo, .inr (10, [.ref tb, .ref te, .ref ho, .ref xq, .int (iI 0), .int (iI 0), .int (iI (-3)), .int (iI (bN false)), .ref cq, .ref pq, .int (iI 0), .int (iI (-1))])), (te, .inr (12, [.ref tb, .ref ho, .int (iI (bN r1)), .int (iI (bN r2)), .int (iI (bN r3)), .ref cq, .int (iI 0), .ref oq, .int (iI 0), .int (iI 0), .int (iI 0), .int (iI (-1)), .int (iI 0)]))] := hD
    have hE := hE0.at hS hA0
    refine va_put (D := E.1) (ci := 10) (v := .int (iI 0)) (ty := .int) (C := "ReplacementWriterModel") (T := F_Mod) (N := 12) hx hb S.2.2.2.2 i_Mod t_Mod t_Mod_ok n_Mod S.2.2.2.1 hE.1 hP hD hS 0 rfl rfl 6 (by decide) (S.2.2.2.2 _ zw_1013) (fun _ h9 => h9) rfl (by decide +kernel) rfl rfl (Nat.le_of_ble_eq_true rfl) d_Mod_write_92 (fun H locs hP hD hS => ?_)
    have hP : va_P E.1 zcl [(mo, .inr (10, [.ref tb, .ref te, .ref ho, .ref xq, .int (iI 0), .int (iI 0), .int (iI 0), .int (iI (bN false)), .ref cq, .ref pq, .int (iI 0), .int (iI (-1))])), (te, .inr (12, [.ref tb, .ref ho, .int (iI (bN r1)), .int (iI (bN r2)), .int (iI (bN r3)), .ref cq, .int (iI 0), .ref oq, .int (iI 0), .int (iI 0), .int (iI 0), .int (iI (-1)), .int (iI 0)]))] H := hP
    have hD : va_D A [(mo, .inr (10, [.ref tb, .ref te, .ref ho, .ref xq, .int (iI 0), .int (iI 0), .int (iI 0), .int (iI (bN false)), .ref cq, .ref pq, .int (iI 0), .int (iI (-1))])), (te, .inr (12, [.ref tb, .ref ho, .int (iI (bN r1)), .int (iI (bN r2)), .int (iI (bN r3)), .ref cq, .int (iI 0), .ref oq, .int (iI 0), .int (iI 0), .int (iI 0), .int (iI (-1)), .int (iI 0)]))] := hD
    have hE := hE0.at hS hA0
    refine lv_aload_n hx hb d_Mod_write_95 rfl (lv_at hl 0 rfl) ?_
    refine lv_aload_n hx hb d_Mod_write_96 rfl (lv_at hl 0 rfl) ?_
    refine zgf S hE (ci := 10) rfl i_Mod (hP 0 _ rfl) 1 (by decide) zw_1008 rfl d_Mod_write_97 ?_
    refine zgf S hE (ci := 12) rfl i_Template (hP 1 _ rfl) 11 (by decide) zw_940 rfl d_Mod_write_100 ?_
    refine zi_if_ge hx hb d_Mod_write_103 rfl (by omega) (fun h103 => absurd h103 (by omega)) (fun h103 => ?_)
    refine zi_iconst hx hb d_Mod_write_106 ?_
    refine lv_goto hx hb d_Mod_write_107 rfl ?_
    refine va_put (D := E.1) (ci := 10) (v := .int (iI (-1))) (ty := .int) (C := "ReplacementWriterModel") (T := F_Mod) (N := 12) hx hb S.2.2.2.2 i_Mod t_Mod t_Mod_ok n_Mod S.2.2.2.1 hE.1 hP hD hS 0 rfl rfl 11 (by decide) (S.2.2.2.2 _ zw_1018) (fun _ h9 => h9) rfl (by decide +kernel) rfl rfl (Nat.le_of_ble_eq_true rfl) d_Mod_write_122 (fun H locs hP hD hS => ?_)
    have hP : va_P E.1 zcl [(mo, .inr (10, [.ref tb, .ref te, .ref ho, .ref xq, .int (iI 0), .int (iI 0), .int (iI 0), .int (iI (bN false)), .ref cq, .ref pq, .int (iI 0), .int (iI (-1))])), (te, .inr (12, [.ref tb, .ref ho, .int (iI (bN r1)), .int (iI (bN r2)), .int (iI (bN r3)), .ref cq, .int (iI 0), .ref oq, .int (iI 0), .int (iI 0), .int (iI 0), .int (iI (-1)), .int (iI 0)]))] H := hP
    have hD : va_D A [(mo, .inr (10, [.ref tb, .ref te, .ref ho, .ref xq, .int (iI 0), .int (iI 0), .int (iI 0), .int (iI (bN false)), .ref cq, .ref pq, .int (iI 0), .int (iI (-1))])), (te, .inr (12, [.ref tb, .ref ho, .int (iI (bN r1)), .int (iI (bN r2)), .int (iI (bN r3)), .ref cq, .int (iI 0), .ref oq, .int (iI 0), .int (iI 0), .int (iI 0), .int (iI (-1)), .int (iI 0)]))] := hD
    have hE := hE0.at hS hA0
    refine lv_aload_n hx hb d_Mod_write_125 rfl (lv_at hl 0 rfl) ?_
    refine zgf S hE (ci := 10) rfl i_Mod (hP 0 _ rfl) 6 (by decide) zw_1013 rfl d_Mod_write_126 ?_
    refine zi_if_eq hx hb d_Mod_write_129 rfl (by omega) (fun h129 => ?_) (fun h129 => absurd h129 (by omega))
    refine lv_aload_n hx hb d_Mod_write_140 rfl (lv_at hl 0 rfl) ?_
    refine zgf S hE (ci := 10) rfl i_Mod (hP 0 _ rfl) 6 (by decide) zw_1013 rfl d_Mod_write_141 ?_
    refine zi_if_eq hx hb d_Mod_write_144 rfl (by omega) (fun h144 => ?_) (fun h144 => absurd h144 (by omega))
    refine lv_aload_n hx hb d_Mod_write_154 rfl (lv_at hl 0 rfl) ?_
    refine zgf S hE (ci := 10) rfl i_Mod (hP 0 _ rfl) 1 (by decide) zw_1008 rfl d_Mod_write_155 ?_
    refine zgf S hE (ci := 12) rfl i_Template (hP 1 _ rfl) 8 (by decide) zw_936 rfl d_Mod_write_158 ?_
    exact zwi S hr hlk hS (⟨rfl, by rw [show T = 0 by rw [hT]; first | exact if_pos (by rw [iI_of (iI k &&& iI (-7681)), h12]) | exact if_neg (fun q => h12 (by rw [q]; rfl))]; exact ⟨_, _, _, _, _, _, _, _, _, _, _, (hP 0 _ rfl)⟩⟩) (by (try dsimp only); omega) (by (try dsimp only); omega) d_Mod_write_161
  · skip
    refine zi_iconst hx hb d_Mod_write_15 ?_
    refine lv_goto hx hb d_Mod_write_16 rfl ?_
    have hPc := hP.sub (ws' := [(mo, .inr (10, [.ref tb, .ref te, .ref ho, .ref xq, .int (iI 0), .int (iI 0), .int (iI 0), .int (iI (bN false)), .ref cq, .ref pq, .int (iI 0), .int (iI (-1))]))]) [0] rfl
    have hDc := hD.sub (ws' := [(mo, .inr (10, [.ref tb, .ref te, .ref ho, .ref xq, .int (iI 0), .int (iI 0), .int (iI 0), .int (iI (bN false)), .ref cq, .ref pq, .int (iI 0), .int (iI (-1))]))]) [0] (by decide) rfl
    have hFc := va_free (wc := [(mo, .inr (10, [.ref tb, .ref te, .ref ho, .ref xq, .int (iI 0), .int (iI 0), .int (iI 0), .int (iI (bN false)), .ref cq, .ref pq, .int (iI 0), .int (iI (-1))]))]) hD hS hA [0] rfl
    refine zcW (va_runV (As := [.int (iI 1), .int (iI (bN true))]) (rest := []) S (c_Mod_refuse l E _ mo tb te ho xq cq pq 0 0 0 0 (-1) 1 true) ⟨zcwB (n := 2) S zw_1056 zw_14 zw_1053 (by decide +kernel) rfl rfl ⟨Nat.le_of_ble_eq_true rfl, Nat.le_of_ble_eq_true rfl⟩, S.2.2.2.2 _ zw_1055, S.2.2.2.2 _ zs_30⟩ (zPreV hE (hP 0 _ rfl) rfl ⟨rfl, hPc, hDc.weaken (fun _ _ _ h => hA0 _ h), trivial⟩) rfl rfl hl.1 rfl (lv_room (Nat.le_of_ble_eq_true rfl)) d_Mod_write_20 ⟨by (try dsimp only); omega, by (try dsimp only); omega⟩) hS (fun q _ h => hFc q h) hFc (fun v H locs hq hz1 hk1 hS => ?_)
    obtain ⟨rfl, hP1, hD1⟩ := hq
    obtain ⟨hP, hD⟩ := va_join (wr := [(te, .inr (12, [.ref tb, .null, .int (iI (bN false)), .int (iI (bN false)), .int (iI (bN false)), .ref tq, .int (iI 0), .ref oq, .int (iI 0), .int (iI 0), .int (iI 0), .int (iI (-1)), .int (iI 0)]))]) (w1 := [(mo, .inr (10, [.ref tb, .ref te, .ref ho, .ref xq, .int (iI 0), .int (iI 1), .int (iI 0), .int (iI (bN false)), .ref cq, .ref pq, .int (iI 0), .int (iI (-1))]))]) hP hD [0] [1] rfl rfl (by decide) (by decide) hk1 hFc hP1 hD1
    have hP : va_P E.1 zcl [(te, .inr (12, [.ref tb, .null, .int (iI (bN false)), .int (iI (bN false)), .int (iI (bN false)), .ref tq, .int (iI 0), .ref oq, .int (iI 0), .int (iI 0), .int (iI 0), .int (iI (-1)), .int (iI 0)])), (mo, .inr (10, [.ref tb, .ref te, .ref ho, .ref xq, .int (iI 0), .int (iI 1), .int (iI 0), .int (iI (bN false)), .ref cq, .ref pq, .int (iI 0), .int (iI (-1))]))] H := hP
    have hD : va_D A [(te, .inr (12, [.ref tb, .null, .int (iI (bN false)), .int (iI (bN false)), .int (iI (bN false)), .ref tq, .int (iI 0), .ref oq, .int (iI 0), .int (iI 0), .int (iI 0), .int (iI (-1)), .int (iI 0)])), (mo, .inr (10, [.ref tb, .ref te, .ref ho, .ref xq, .int (iI 0), .int (iI 1), .int (iI 0), .int (iI (bN false)), .ref cq, .ref pq, .int (iI 0), .int (iI (-1))]))] := hD
    have hE := hE0.at hS hA0
    refine W.eq (g2 := F0 m 23 ls ([.int (iI 1)])) rfl ?_
    refine zi_if_eq hx hb d_Mod_write_23 rfl (by omega) (fun h23 => absurd h23 (by omega)) (fun h23 => ?_)
    refine zi_iconst hx hb d_Mod_write_26 ?_
    exact zwi S hr hlk hS (⟨rfl, by rw [show T = 1 by rw [hT]; first | exact if_pos (by rw [iI_of (iI k &&& iI (-7681)), h12]) | exact if_neg (fun q => h12 (by rw [q]; rfl))]; exact ⟨_, _, _, _, _, _, _, _, _, _, _, (hP 1 _ rfl)⟩⟩) (by (try dsimp only); omega) (by (try dsimp only); omega) d_Mod_write_27

set_option maxRecDepth 100000 in
set_option maxHeartbeats 4000000 in
theorem c_Mod_result (l : Launch) (E : zP) (sz : Nat) (mo tb te ho xq cq pq : Nat) (oq tq : Nat) (k : Int) (hk : r32 k) : Met l y_Mod_result (.code y_Mod_result b_Mod_result 2 ( some FieldType.int ) :: zw) { frames := 1, cells := (0), slots := (0), locals := 22 } (zPc E [.ref mo, .int (iI k)] (fun H => H.size = sz ∧ va_P E.1 zcl [(mo, .inr (10, [.ref tb, .ref te, .ref ho, .ref xq, .int (iI 0), .int (iI 0), .int (iI 0), .int (iI (bN false)), .ref cq, .ref pq, .int (iI 0), .int (iI (-1))])), (te, .inr (12, [.ref tb, .null, .int (iI (bN false)), .int (iI (bN false)), .int (iI (bN false)), .ref tq, .int (iI 0), .ref oq, .int (iI 0), .int (iI 0), .int (iI 0), .int (iI (-1)), .int (iI 0)]))] H ∧ va_D (zOld E) [(mo, .inr (10, [.ref tb, .ref te, .ref ho, .ref xq, .int (iI 0), .int (iI 0), .int (iI 0), .int (iI (bN false)), .ref cq, .ref pq, .int (iI 0), .int (iI (-1))])), (te, .inr (12, [.ref tb, .null, .int (iI (bN false)), .int (iI (bN false)), .int (iI (bN false)), .ref tq, .int (iI 0), .ref oq, .int (iI 0), .int (iI 0), .int (iI 0), .int (iI (-1)), .int (iI 0)]))] ∧ (True))) (zW (fun v H => v = some (.int (iI 0)) ∧ zTh E mo 1 H) (va_A [(mo, .inr (10, [.ref tb, .ref te, .ref ho, .ref xq, .int (iI 0), .int (iI 0), .int (iI 0), .int (iI (bN false)), .ref cq, .ref pq, .int (iI 0), .int (iI (-1))])), (te, .inr (12, [.ref tb, .null, .int (iI (bN false)), .int (iI (bN false)), .int (iI (bN false)), .ref tq, .int (iI 0), .ref oq, .int (iI 0), .int (iI 0), .int (iI 0), .int (iI (-1)), .int (iI 0)]))] sz)) (0) (0) (va_A [(mo, .inr (10, [.ref tb, .ref te, .ref ho, .ref xq, .int (iI 0), .int (iI 0), .int (iI 0), .int (iI (bN false)), .ref cq, .ref pq, .int (iI 0), .int (iI (-1))])), (te, .inr (12, [.ref tb, .null, .int (iI (bN false)), .int (iI (bN false)), .int (iI (bN false)), .ref tq, .int (iI 0), .ref oq, .int (iI 0), .int (iI 0), .int (iI 0), .int (iI (-1)), .int (iI 0)]))] sz) := by
  refine zMet (by decide) (Nat.le_of_ble_eq_true rfl) ?_
  intro p e s m below meth c ls S hr hlk hnm hE ⟨hsz, hP, hDo, hX⟩ hl
  have hx := S.1
  have hb := S.2.1
  have hE0 := hE
  have hl : lv_has ls 2 [(0, .ref mo), (1, .int (iI k))] := hl
  subst hsz
  have hD := hDo.self (sz := s.heap.size)
  generalize hAe : va_A [(mo, .inr (10, [.ref tb, .ref te, .ref ho, .ref xq, .int (iI 0), .int (iI 0), .int (iI 0), .int (iI (bN false)), .ref cq, .ref pq, .int (iI 0), .int (iI (-1))])), (te, .inr (12, [.ref tb, .null, .int (iI (bN false)), .int (iI (bN false)), .int (iI (bN false)), .ref tq, .int (iI 0), .ref oq, .int (iI 0), .int (iI 0), .int (iI 0), .int (iI (-1)), .int (iI 0)]))] s.heap.size = A at hD ⊢
  have hA : ∀ q : Nat, s.heap.size ≤ q → A q := fun q h => by rw [← hAe]; exact Or.inr h
  have hA0 := zA0 hE hDo hAe
  have hS : va_S A s.heap s.heap [] := va_S.rf
  obtain ⟨hka, hkb⟩ := hk
  refine lv_aload_n hx hb d_Mod_result_0 rfl (lv_at hl 0 rfl) ?_
  refine zi_iconst hx hb d_Mod_result_1 ?_
  refine va_put (D := E.1) (ci := 10) (v := .int (iI 0)) (ty := .int) (C := "ReplacementWriterModel") (T := F_Mod) (N := 12) hx hb S.2.2.2.2 i_Mod t_Mod t_Mod_ok n_Mod S.2.2.2.1 hE.1 hP hD hS 0 rfl rfl 5 (by decide) (S.2.2.2.2 _ zw_1012) (fun _ h9 => h9) rfl (by decide +kernel) rfl rfl (Nat.le_of_ble_eq_true rfl) d_Mod_result_2 (fun H locs hP hD hS => ?_)
  have hP : va_P E.1 zcl [(mo, .inr (10, [.ref tb, .ref te, .ref ho, .ref xq, .int (iI 0), .int (iI 0), .int (iI 0), .int (iI (bN false)), .ref cq, .ref pq, .int (iI 0), .int (iI (-1))])), (te, .inr (12, [.ref tb, .null, .int (iI (bN false)), .int (iI (bN false)), .int (iI (bN false)), .ref tq, .int (iI 0), .ref oq, .int (iI 0), .int (iI 0), .int (iI 0), .int (iI (-1)), .int (iI 0)]))] H := hP
  have hD : va_D A [(mo, .inr (10, [.ref tb, .ref te, .ref ho, .ref xq, .int (iI 0), .int (iI 0), .int (iI 0), .int (iI (bN false)), .ref cq, .ref pq, .int (iI 0), .int (iI (-1))])), (te, .inr (12, [.ref tb, .null, .int (iI (bN false)), .int (iI (bN false)), .int (iI (bN false)), .ref tq, .int (iI 0), .ref oq, .int (iI 0), .int (iI 0), .int (iI 0), .int (iI (-1)), .int (iI 0)]))] := hD
  have hE := hE0.at hS hA0
  refine lv_aload_n hx hb d_Mod_result_5 rfl (lv_at hl 0 rfl) ?_
  refine zi_iconst hx hb d_Mod_result_6 ?_
  refine lv_iload_n hx hb d_Mod_result_7 rfl (lv_at hl 1 rfl) ?_
  refine zi_if_lt hx hb d_Mod_result_8 rfl (by omega) (fun h8 => ?_) (fun h8 => ?_)
  · refine zi_iconst hx hb d_Mod_result_22 ?_
    refine lv_goto hx hb d_Mod_result_23 rfl ?_
    have hPc := hP.sub (ws' := [(mo, .inr (10, [.ref tb, .ref te, .ref ho, .ref xq, .int (iI 0), .int (iI 0), .int (iI 0), .int (iI (bN false)), .ref cq, .ref pq, .int (iI 0), .int (iI (-1))]))]) [0] rfl
    have hDc := hD.sub (ws' := [(mo, .inr (10, [.ref tb, .ref te, .ref ho, .ref xq, .int (iI 0), .int (iI 0), .int (iI 0), .int (iI (bN false)), .ref cq, .ref pq, .int (iI 0), .int (iI (-1))]))]) [0] (by decide) rfl
    have hFc := va_free (wc := [(mo, .inr (10, [.ref tb, .ref te, .ref ho, .ref xq, .int (iI 0), .int (iI 0), .int (iI 0), .int (iI (bN false)), .ref cq, .ref pq, .int (iI 0), .int (iI (-1))]))]) hD hS hA [0] rfl
    refine zcW (va_runV (As := [.int (iI 1), .int (iI (bN true))]) (rest := []) S (c_Mod_refuse l E _ mo tb te ho xq cq pq 0 0 0 0 (-1) 1 true) ⟨zcwB (n := 2) S zw_1056 zw_14 zw_1053 (by decide +kernel) rfl rfl ⟨Nat.le_of_ble_eq_true rfl, Nat.le_of_ble_eq_true rfl⟩, S.2.2.2.2 _ zw_1055, S.2.2.2.2 _ zs_30⟩ (zPreV hE (hP 0 _ rfl) rfl ⟨rfl, hPc, hDc.weaken (fun _ _ _ h => hA0 _ h), trivial⟩) rfl rfl hl.1 rfl (lv_room (Nat.le_of_ble_eq_true rfl)) d_Mod_result_27 ⟨by (try dsimp only); omega, by (try dsimp only); omega⟩) hS (fun q _ h => hFc q h) hFc (fun v H locs hq hz1 hk1 hS => ?_)
    obtain ⟨rfl, hP1, hD1⟩ := hq
    obtain ⟨hP, hD⟩ := va_join (wr := [(te, .inr (12, [.ref tb, .null, .int (iI (bN false)), .int (iI (bN false)), .int (iI (bN false)), .ref tq, .int (iI 0), .ref oq, .int (iI 0), .int (iI 0), .int (iI 0), .int (iI (-1)), .int (iI 0)]))]) (w1 := [(mo, .inr (10, [.ref tb, .ref te, .ref ho, .ref xq, .int (iI 0), .int (iI 1), .int (iI 0), .int (iI (bN false)), .ref cq, .ref pq, .int (iI 0), .int (iI (-1))]))]) hP hD [0] [1] rfl rfl (by decide) (by decide) hk1 hFc hP1 hD1
    have hP : va_P E.1 zcl [(te, .inr (12, [.ref tb, .null, .int (iI (bN false)), .int (iI (bN false)), .int (iI (bN false)), .ref tq, .int (iI 0), .ref oq, .int (iI 0), .int (iI 0), .int (iI 0), .int (iI (-1)), .int (iI 0)])), (mo, .inr (10, [.ref tb, .ref te, .ref ho, .ref xq, .int (iI 0), .int (iI 1), .int (iI 0), .int (iI (bN false)), .ref cq, .ref pq, .int (iI 0), .int (iI (-1))]))] H := hP
    have hD : va_D A [(te, .inr (12, [.ref tb, .null, .int (iI (bN false)), .int (iI (bN false)), .int (iI (bN false)), .ref tq, .int (iI 0), .ref oq, .int (iI 0), .int (iI 0), .int (iI 0), .int (iI (-1)), .int (iI 0)])), (mo, .inr (10, [.ref tb, .ref te, .ref ho, .ref xq, .int (iI 0), .int (iI 1), .int (iI 0), .int (iI (bN false)), .ref cq, .ref pq, .int (iI 0), .int (iI (-1))]))] := hD
    have hE := hE0.at hS hA0
    refine W.eq (g2 := F0 m 30 ls ([.int (iI 1)])) rfl ?_
    refine zi_if_eq hx hb d_Mod_result_30 rfl (by omega) (fun h30 => absurd h30 (by omega)) (fun h30 => ?_)
    refine zi_iconst hx hb d_Mod_result_33 ?_
    exact zwi S hr hlk hS (⟨rfl, ⟨_, _, _, _, _, _, _, _, _, _, _, (hP 1 _ rfl)⟩⟩) (by (try dsimp only); omega) (by (try dsimp only); omega) d_Mod_result_34
  · refine lv_iload_n hx hb d_Mod_result_11 rfl (lv_at hl 1 rfl) ?_
    refine lv_aload_n hx hb d_Mod_result_12 rfl (lv_at hl 0 rfl) ?_
    refine zgf S hE (ci := 10) rfl i_Mod (hP 0 _ rfl) 1 (by decide) zw_1008 rfl d_Mod_result_13 ?_
    refine zgf S hE (ci := 12) rfl i_Template (hP 1 _ rfl) 8 (by decide) zw_936 rfl d_Mod_result_16 ?_
    refine zi_icmp_lt hx hb d_Mod_result_19 rfl (by omega) (by omega) (fun h19 => ?_) (fun h19 => ?_)
    · omega
    · refine zi_iconst hx hb d_Mod_result_22 ?_
      refine lv_goto hx hb d_Mod_result_23 rfl ?_
      have hPc := hP.sub (ws' := [(mo, .inr (10, [.ref tb, .ref te, .ref ho, .ref xq, .int (iI 0), .int (iI 0), .int (iI 0), .int (iI (bN false)), .ref cq, .ref pq, .int (iI 0), .int (iI (-1))]))]) [0] rfl
      have hDc := hD.sub (ws' := [(mo, .inr (10, [.ref tb, .ref te, .ref ho, .ref xq, .int (iI 0), .int (iI 0), .int (iI 0), .int (iI (bN false)), .ref cq, .ref pq, .int (iI 0), .int (iI (-1))]))]) [0] (by decide) rfl
      have hFc := va_free (wc := [(mo, .inr (10, [.ref tb, .ref te, .ref ho, .ref xq, .int (iI 0), .int (iI 0), .int (iI 0), .int (iI (bN false)), .ref cq, .ref pq, .int (iI 0), .int (iI (-1))]))]) hD hS hA [0] rfl
      refine zcW (va_runV (As := [.int (iI 1), .int (iI (bN true))]) (rest := []) S (c_Mod_refuse l E _ mo tb te ho xq cq pq 0 0 0 0 (-1) 1 true) ⟨zcwB (n := 2) S zw_1056 zw_14 zw_1053 (by decide +kernel) rfl rfl ⟨Nat.le_of_ble_eq_true rfl, Nat.le_of_ble_eq_true rfl⟩, S.2.2.2.2 _ zw_1055, S.2.2.2.2 _ zs_30⟩ (zPreV hE (hP 0 _ rfl) rfl ⟨rfl, hPc, hDc.weaken (fun _ _ _ h => hA0 _ h), trivial⟩) rfl rfl hl.1 rfl (lv_room (Nat.le_of_ble_eq_true rfl)) d_Mod_result_27 ⟨by (try dsimp only); omega, by (try dsimp only); omega⟩) hS (fun q _ h => hFc q h) hFc (fun v H locs hq hz1 hk1 hS => ?_)
      obtain ⟨rfl, hP1, hD1⟩ := hq
      obtain ⟨hP, hD⟩ := va_join (wr := [(te, .inr (12, [.ref tb, .null, .int (iI (bN false)), .int (iI (bN false)), .int (iI (bN false)), .ref tq, .int (iI 0), .ref oq, .int (iI 0), .int (iI 0), .int (iI 0), .int (iI (-1)), .int (iI 0)]))]) (w1 := [(mo, .inr (10, [.ref tb, .ref te, .ref ho, .ref xq, .int (iI 0), .int (iI 1), .int (iI 0), .int (iI (bN false)), .ref cq, .ref pq, .int (iI 0), .int (iI (-1))]))]) hP hD [0] [1] rfl rfl (by decide) (by decide) hk1 hFc hP1 hD1
      have hP : va_P E.1 zcl [(te, .inr (12, [.ref tb, .null, .int (iI (bN false)), .int (iI (bN false)), .int (iI (bN false)), .ref tq, .int (iI 0), .ref oq, .int (iI 0), .int (iI 0), .int (iI 0), .int (iI (-1)), .int (iI 0)])), (mo, .inr (10, [.ref tb, .ref te, .ref ho, .ref xq, .int (iI 0), .int (iI 1), .int (iI 0), .int (iI (bN false)), .ref cq, .ref pq, .int (iI 0), .int (iI (-1))]))] H := hP
      have hD : va_D A [(te, .inr (12, [.ref tb, .null, .int (iI (bN false)), .int (iI (bN false)), .int (iI (bN false)), .ref tq, .int (iI 0), .ref oq, .int (iI 0), .int (iI 0), .int (iI 0), .int (iI (-1)), .int (iI 0)])), (mo, .inr (10, [.ref tb, .ref te, .ref ho, .ref xq, .int (iI 0), .int (iI 1), .int (iI 0), .int (iI (bN false)), .ref cq, .ref pq, .int (iI 0), .int (iI (-1))]))] := hD
      have hE := hE0.at hS hA0
      refine W.eq (g2 := F0 m 30 ls ([.int (iI 1)])) rfl ?_
      refine zi_if_eq hx hb d_Mod_result_30 rfl (by omega) (fun h30 => absurd h30 (by omega)) (fun h30 => ?_)
      refine zi_iconst hx hb d_Mod_result_33 ?_
      exact zwi S hr hlk hS (⟨rfl, ⟨_, _, _, _, _, _, _, _, _, _, _, (hP 1 _ rfl)⟩⟩) (by (try dsimp only); omega) (by (try dsimp only); omega) d_Mod_result_34

set_option maxRecDepth 100000 in
set_option maxHeartbeats 4000000 in
theorem c_Mod_fault (l : Launch) (E : zP) (sz : Nat) (mo tb te ho xq cq pq : Nat) (k T R : Int) (hk : r32 k) (hT : T = if k = 0 ∨ k = 1 then 0 else 1) (hR : R = if k = 1 then -1 else 0) : Met l y_Mod_fault (.code y_Mod_fault b_Mod_fault 2 ( some FieldType.int ) :: zw) { frames := 1, cells := (0), slots := (0), locals := 22 } (zPc E [.ref mo, .int (iI k)] (fun H => H.size = sz ∧ va_P E.1 zcl [(mo, .inr (10, [.ref tb, .ref te, .ref ho, .ref xq, .int (iI 0), .int (iI 0), .int (iI 0), .int (iI (bN false)), .ref cq, .ref pq, .int (iI 0), .int (iI (-1))]))] H ∧ va_D (zOld E) [(mo, .inr (10, [.ref tb, .ref te, .ref ho, .ref xq, .int (iI 0), .int (iI 0), .int (iI 0), .int (iI (bN false)), .ref cq, .ref pq, .int (iI 0), .int (iI (-1))]))] ∧ (True))) (zW (fun v H => v = some (.int (iI R)) ∧ zTh E mo T H) (va_A [(mo, .inr (10, [.ref tb, .ref te, .ref ho, .ref xq, .int (iI 0), .int (iI 0), .int (iI 0), .int (iI (bN false)), .ref cq, .ref pq, .int (iI 0), .int (iI (-1))]))] sz)) (0) (0) (va_A [(mo, .inr (10, [.ref tb, .ref te, .ref ho, .ref xq, .int (iI 0), .int (iI 0), .int (iI 0), .int (iI (bN false)), .ref cq, .ref pq, .int (iI 0), .int (iI (-1))]))] sz) := by
  refine zMet (by decide) (Nat.le_of_ble_eq_true rfl) ?_
  intro p e s m below meth c ls S hr hlk hnm hE ⟨hsz, hP, hDo, hX⟩ hl
  have hx := S.1
  have hb := S.2.1
  have hE0 := hE
  have hl : lv_has ls 2 [(0, .ref mo), (1, .int (iI k))] := hl
  subst hsz
  have hD := hDo.self (sz := s.heap.size)
  generalize hAe : va_A [(mo, .inr (10, [.ref tb, .ref te, .ref ho, .ref xq, .int (iI 0), .int (iI 0), .int (iI 0), .int (iI (bN false)), .ref cq, .ref pq, .int (iI 0), .int (iI (-1))]))] s.heap.size = A at hD ⊢
  have hA : ∀ q : Nat, s.heap.size ≤ q → A q := fun q h => by rw [← hAe]; exact Or.inr h
  have hA0 := zA0 hE hDo hAe
  have hS : va_S A s.heap s.heap [] := va_S.rf
  obtain ⟨hka, hkb⟩ := hk
  refine lv_aload_n hx hb d_Mod_fault_0 rfl (lv_at hl 0 rfl) ?_
  refine zi_iconst hx hb d_Mod_fault_1 ?_
  refine va_put (D := E.1) (ci := 10) (v := .int (iI 0)) (ty := .int) (C := "ReplacementWriterModel") (T := F_Mod) (N := 12) hx hb S.2.2.2.2 i_Mod t_Mod t_Mod_ok n_Mod S.2.2.2.1 hE.1 hP hD hS 0 rfl rfl 5 (by decide) (S.2.2.2.2 _ zw_1012) (fun _ h9 => h9) rfl (by decide +kernel) rfl rfl (Nat.le_of_ble_eq_true rfl) d_Mod_fault_2 (fun H locs hP hD hS => ?_)
  have hP : va_P E.1 zcl [(mo, .inr (10, [.ref tb, .ref te, .ref ho, .ref xq, .int (iI 0), .int (iI 0), .int (iI 0), .int (iI (bN false)), .ref cq, .ref pq, .int (iI 0), .int (iI (-1))]))] H := hP
  have hD : va_D A [(mo, .inr (10, [.ref tb, .ref te, .ref ho, .ref xq, .int (iI 0), .int (iI 0), .int (iI 0), .int (iI (bN false)), .ref cq, .ref pq, .int (iI 0), .int (iI (-1))]))] := hD
  have hE := hE0.at hS hA0
  refine lv_aload_n hx hb d_Mod_fault_5 rfl (lv_at hl 0 rfl) ?_
  refine zi_iconst hx hb d_Mod_fault_6 ?_
  refine lv_iload_n hx hb d_Mod_fault_7 rfl (lv_at hl 1 rfl) ?_
  refine zi_if_lt hx hb d_Mod_fault_8 rfl (by omega) (fun h8 => ?_) (fun h8 => ?_)
  · refine zi_iconst hx hb d_Mod_fault_16 ?_
    refine lv_goto hx hb d_Mod_fault_17 rfl ?_
    have hPc := hP.sub (ws' := [(mo, .inr (10, [.ref tb, .ref te, .ref ho, .ref xq, .int (iI 0), .int (iI 0), .int (iI 0), .int (iI (bN false)), .ref cq, .ref pq, .int (iI 0), .int (iI (-1))]))]) [0] rfl
    have hDc := hD.sub (ws' := [(mo, .inr (10, [.ref tb, .ref te, .ref ho, .ref xq, .int (iI 0), .int (iI 0), .int (iI 0), .int (iI (bN false)), .ref cq, .ref pq, .int (iI 0), .int (iI (-1))]))]) [0] (by decide) rfl
    have hFc := va_free (wc := [(mo, .inr (10, [.ref tb, .ref te, .ref ho, .ref xq, .int (iI 0), .int (iI 0), .int (iI 0), .int (iI (bN false)), .ref cq, .ref pq, .int (iI 0), .int (iI (-1))]))]) hD hS hA [0] rfl
    refine zcW (va_runV (As := [.int (iI 1), .int (iI (bN true))]) (rest := []) S (c_Mod_refuse l E _ mo tb te ho xq cq pq 0 0 0 0 (-1) 1 true) ⟨zcwB (n := 2) S zw_1056 zw_14 zw_1053 (by decide +kernel) rfl rfl ⟨Nat.le_of_ble_eq_true rfl, Nat.le_of_ble_eq_true rfl⟩, S.2.2.2.2 _ zw_1055, S.2.2.2.2 _ zs_30⟩ (zPreV hE (hP 0 _ rfl) rfl ⟨rfl, hPc, hDc.weaken (fun _ _ _ h => hA0 _ h), trivial⟩) rfl rfl hl.1 rfl (lv_room (Nat.le_of_ble_eq_true rfl)) d_Mod_fault_21 ⟨by (try dsimp only); omega, by (try dsimp only); omega⟩) hS (fun q _ h => hFc q h) hFc (fun v H locs hq hz1 hk1 hS => ?_)
    obtain ⟨rfl, hP1, hD1⟩ := hq
    obtain ⟨hP, hD⟩ := va_join (wr := []) (w1 := [(mo, .inr (10, [.ref tb, .ref te, .ref ho, .ref xq, .int (iI 0), .int (iI 1), .int (iI 0), .int (iI (bN false)), .ref cq, .ref pq, .int (iI 0), .int (iI (-1))]))]) hP hD [0] [] rfl rfl (by decide) (by decide) hk1 hFc hP1 hD1
    have hP : va_P E.1 zcl [(mo, .inr (10, [.ref tb, .ref te, .ref ho, .ref xq, .int (iI 0), .int (iI 1), .int (iI 0), .int (iI (bN false)), .ref cq, .ref pq, .int (iI 0), .int (iI (-1))]))] H := hP
    have hD : va_D A [(mo, .inr (10, [.ref tb, .ref te, .ref ho, .ref xq, .int (iI 0), .int (iI 1), .int (iI 0), .int (iI (bN false)), .ref cq, .ref pq, .int (iI 0), .int (iI (-1))]))] := hD
    have hE := hE0.at hS hA0
    refine W.eq (g2 := F0 m 24 ls ([.int (iI 1)])) rfl ?_
    refine zi_if_eq hx hb d_Mod_fault_24 rfl (by omega) (fun h24 => absurd h24 (by omega)) (fun h24 => ?_)
    refine zi_iconst hx hb d_Mod_fault_27 ?_
    exact zwi S hr hlk hS (⟨by rw [hR]; first | rfl | rw [if_pos (by omega)] | rw [if_neg (by omega)], by rw [show T = 1 by rw [hT]; first | exact if_pos (by omega) | exact if_neg (by omega)]; exact ⟨_, _, _, _, _, _, _, _, _, _, _, (hP 0 _ rfl)⟩⟩) (by (try dsimp only); omega) (by (try dsimp only); omega) d_Mod_fault_28
  · refine lv_iload_n hx hb d_Mod_fault_11 rfl (lv_at hl 1 rfl) ?_
    refine zi_iconst hx hb d_Mod_fault_12 ?_
    refine zi_icmp_le hx hb d_Mod_fault_13 rfl (by omega) (by omega) (fun h13 => ?_) (fun h13 => ?_)
    · refine zi_iconst hx hb d_Mod_fault_20 ?_
      have hPc := hP.sub (ws' := [(mo, .inr (10, [.ref tb, .ref te, .ref ho, .ref xq, .int (iI 0), .int (iI 0), .int (iI 0), .int (iI (bN false)), .ref cq, .ref pq, .int (iI 0), .int (iI (-1))]))]) [0] rfl
      have hDc := hD.sub (ws' := [(mo, .inr (10, [.ref tb, .ref te, .ref ho, .ref xq, .int (iI 0), .int (iI 0), .int (iI 0), .int (iI (bN false)), .ref cq, .ref pq, .int (iI 0), .int (iI (-1))]))]) [0] (by decide) rfl
      have hFc := va_free (wc := [(mo, .inr (10, [.ref tb, .ref te, .ref ho, .ref xq, .int (iI 0), .int (iI 0), .int (iI 0), .int (iI (bN false)), .ref cq, .ref pq, .int (iI 0), .int (iI (-1))]))]) hD hS hA [0] rfl
      refine zcW (va_runV (As := [.int (iI 1), .int (iI (bN false))]) (rest := []) S (c_Mod_refuse l E _ mo tb te ho xq cq pq 0 0 0 0 (-1) 1 false) ⟨zcwB (n := 2) S zw_1056 zw_14 zw_1053 (by decide +kernel) rfl rfl ⟨Nat.le_of_ble_eq_true rfl, Nat.le_of_ble_eq_true rfl⟩, S.2.2.2.2 _ zw_1055, S.2.2.2.2 _ zs_30⟩ (zPreV hE (hP 0 _ rfl) rfl ⟨rfl, hPc, hDc.weaken (fun _ _ _ h => hA0 _ h), trivial⟩) rfl rfl hl.1 rfl (lv_room (Nat.le_of_ble_eq_true rfl)) d_Mod_fault_21 ⟨by (try dsimp only); omega, by (try dsimp only); omega⟩) hS (fun q _ h => hFc q h) hFc (fun v H locs hq hz1 hk1 hS => ?_)
      obtain ⟨rfl, hP1, hD1⟩ := hq
      obtain ⟨hP, hD⟩ := va_join (wr := []) (w1 := [(mo, .inr (10, [.ref tb, .ref te, .ref ho, .ref xq, .int (iI 0), .int (iI 0), .int (iI 0), .int (iI (bN false)), .ref cq, .ref pq, .int (iI 0), .int (iI (-1))]))]) hP hD [0] [] rfl rfl (by decide) (by decide) hk1 hFc hP1 hD1
      have hP : va_P E.1 zcl [(mo, .inr (10, [.ref tb, .ref te, .ref ho, .ref xq, .int (iI 0), .int (iI 0), .int (iI 0), .int (iI (bN false)), .ref cq, .ref pq, .int (iI 0), .int (iI (-1))]))] H := hP
      have hD : va_D A [(mo, .inr (10, [.ref tb, .ref te, .ref ho, .ref xq, .int (iI 0), .int (iI 0), .int (iI 0), .int (iI (bN false)), .ref cq, .ref pq, .int (iI 0), .int (iI (-1))]))] := hD
      have hE := hE0.at hS hA0
      refine W.eq (g2 := F0 m 24 ls ([.int (iI 0)])) rfl ?_
      refine zi_if_eq hx hb d_Mod_fault_24 rfl (by omega) (fun h24 => ?_) (fun h24 => absurd h24 (by omega))
      refine lv_iload_n hx hb d_Mod_fault_29 rfl (lv_at hl 1 rfl) ?_
      refine zi_if_ne hx hb d_Mod_fault_30 rfl (by omega) (fun h30 => ?_) (fun h30 => ?_)
      · refine lv_aload_n hx hb d_Mod_fault_40 rfl (lv_at hl 0 rfl) ?_
        refine zgf S hE (ci := 10) rfl i_Mod (hP 0 _ rfl) 11 (by decide) zw_1018 rfl d_Mod_fault_41 ?_
        exact zwi S hr hlk hS (⟨by rw [hR]; first | rfl | rw [if_pos (by omega)] | rw [if_neg (by omega)], by rw [show T = 0 by rw [hT]; first | exact if_pos (by omega) | exact if_neg (by omega)]; exact ⟨_, _, _, _, _, _, _, _, _, _, _, (hP 0 _ rfl)⟩⟩) (by (try dsimp only); omega) (by (try dsimp only); omega) d_Mod_fault_44
      · refine lv_aload_n hx hb d_Mod_fault_33 rfl (lv_at hl 0 rfl) ?_
        refine zgf S hE (ci := 10) rfl i_Mod (hP 0 _ rfl) 6 (by decide) zw_1013 rfl d_Mod_fault_34 ?_
        refine lv_goto hx hb d_Mod_fault_37 rfl ?_
        exact zwi S hr hlk hS (⟨by rw [hR]; first | rfl | rw [if_pos (by omega)] | rw [if_neg (by omega)], by rw [show T = 0 by rw [hT]; first | exact if_pos (by omega) | exact if_neg (by omega)]; exact ⟨_, _, _, _, _, _, _, _, _, _, _, (hP 0 _ rfl)⟩⟩) (by (try dsimp only); omega) (by (try dsimp only); omega) d_Mod_fault_44
    · refine zi_iconst hx hb d_Mod_fault_16 ?_
      refine lv_goto hx hb d_Mod_fault_17 rfl ?_
      have hPc := hP.sub (ws' := [(mo, .inr (10, [.ref tb, .ref te, .ref ho, .ref xq, .int (iI 0), .int (iI 0), .int (iI 0), .int (iI (bN false)), .ref cq, .ref pq, .int (iI 0), .int (iI (-1))]))]) [0] rfl
      have hDc := hD.sub (ws' := [(mo, .inr (10, [.ref tb, .ref te, .ref ho, .ref xq, .int (iI 0), .int (iI 0), .int (iI 0), .int (iI (bN false)), .ref cq, .ref pq, .int (iI 0), .int (iI (-1))]))]) [0] (by decide) rfl
      have hFc := va_free (wc := [(mo, .inr (10, [.ref tb, .ref te, .ref ho, .ref xq, .int (iI 0), .int (iI 0), .int (iI 0), .int (iI (bN false)), .ref cq, .ref pq, .int (iI 0), .int (iI (-1))]))]) hD hS hA [0] rfl
      refine zcW (va_runV (As := [.int (iI 1), .int (iI (bN true))]) (rest := []) S (c_Mod_refuse l E _ mo tb te ho xq cq pq 0 0 0 0 (-1) 1 true) ⟨zcwB (n := 2) S zw_1056 zw_14 zw_1053 (by decide +kernel) rfl rfl ⟨Nat.le_of_ble_eq_true rfl, Nat.le_of_ble_eq_true rfl⟩, S.2.2.2.2 _ zw_1055, S.2.2.2.2 _ zs_30⟩ (zPreV hE (hP 0 _ rfl) rfl ⟨rfl, hPc, hDc.weaken (fun _ _ _ h => hA0 _ h), trivial⟩) rfl rfl hl.1 rfl (lv_room (Nat.le_of_ble_eq_true rfl)) d_Mod_fault_21 ⟨by (try dsimp only); omega, by (try dsimp only); omega⟩) hS (fun q _ h => hFc q h) hFc (fun v H locs hq hz1 hk1 hS => ?_)
      obtain ⟨rfl, hP1, hD1⟩ := hq
      obtain ⟨hP, hD⟩ := va_join (wr := []) (w1 := [(mo, .inr (10, [.ref tb, .ref te, .ref ho, .ref xq, .int (iI 0), .int (iI 1), .int (iI 0), .int (iI (bN false)), .ref cq, .ref pq, .int (iI 0), .int (iI (-1))]))]) hP hD [0] [] rfl rfl (by decide) (by decide) hk1 hFc hP1 hD1
      have hP : va_P E.1 zcl [(mo, .inr (10, [.ref tb, .ref te, .ref ho, .ref xq, .int (iI 0), .int (iI 1), .int (iI 0), .int (iI (bN false)), .ref cq, .ref pq, .int (iI 0), .int (iI (-1))]))] H := hP
      have hD : va_D A [(mo, .inr (10, [.ref tb, .ref te, .ref ho, .ref xq, .int (iI 0), .int (iI 1), .int (iI 0), .int (iI (bN false)), .ref cq, .ref pq, .int (iI 0), .int (iI (-1))]))] := hD
      have hE := hE0.at hS hA0
      refine W.eq (g2 := F0 m 24 ls ([.int (iI 1)])) rfl ?_
      refine zi_if_eq hx hb d_Mod_fault_24 rfl (by omega) (fun h24 => absurd h24 (by omega)) (fun h24 => ?_)
      refine zi_iconst hx hb d_Mod_fault_27 ?_
      exact zwi S hr hlk hS (⟨by rw [hR]; first | rfl | rw [if_pos (by omega)] | rw [if_neg (by omega)], by rw [show T = 1 by rw [hT]; first | exact if_pos (by omega) | exact if_neg (by omega)]; exact ⟨_, _, _, _, _, _, _, _, _, _, _, (hP 0 _ rfl)⟩⟩) (by (try dsimp only); omega) (by (try dsimp only); omega) d_Mod_fault_28

set_option maxRecDepth 100000 in
set_option maxHeartbeats 4000000 in
theorem c_ArrayList_size0 (l : Launch) (E : zP) (nl ea : Nat) (n md : Int) : Met l y_ArrayList_size (.code y_ArrayList_size b_ArrayList_size 1 ( some FieldType.int ) :: zw) { frames := 0, cells := 0, slots := 0, locals := 0 } (zPc E [.ref nl] (zO E 9 nl [.ref ea, .int (iI n), .int (iI md)])) (zR (some (.int (iI n)))) 0 0 (fun _ => False) := by
  refine zMetF (by decide +kernel) (Nat.le_of_ble_eq_true rfl) ?_
  intro p e s m below meth c ls S hr hlk hnm hE hX hl
  have hx := S.1
  have hb := S.2.1
  have hl : lv_has ls 1 [(0, .ref nl)] := hl
  refine lv_aload_n hx hb d_ArrayList_size_0 rfl (lv_at hl 0 rfl) ?_
  refine zgf S hE (ci := 9) rfl i_ArrayList hX 1 (by decide) zw_88 rfl d_ArrayList_size_1 ?_
  exact zretI S hr hlk d_ArrayList_size_4 (rfl)

set_option maxRecDepth 100000 in
set_option maxHeartbeats 4000000 in
theorem c_Mod_count (l : Launch) (E : zP) (sz : Nat) (mo tb te ho xq cq pq : Nat) (hq nl ul mk : Nat) (oq tq : Nat) (k : Int) (hk : r32 k) : Met l y_Mod_count (.code y_Mod_count b_Mod_count 2 ( some FieldType.int ) :: zw) { frames := 1, cells := (0), slots := (0), locals := 20 } (zPc E [.ref mo, .int (iI k)] (fun H => H.size = sz ∧ va_P E.1 zcl [(mo, .inr (10, [.ref tb, .ref te, .ref ho, .ref xq, .int (iI 0), .int (iI 0), .int (iI 0), .int (iI (bN false)), .ref cq, .ref pq, .int (iI 0), .int (iI (-1))])), (ho, .inr (13, [.int (iI 0), .ref hq, .ref nl, .ref ul, .ref mk])), (te, .inr (12, [.ref tb, .null, .int (iI (bN false)), .int (iI (bN false)), .int (iI (bN false)), .ref tq, .int (iI 0), .ref oq, .int (iI 0), .int (iI 0), .int (iI 0), .int (iI (-1)), .int (iI 0)])), (nl, .inr (9, [.ref (E.2.2.1 4), .int (iI 0), .int (iI 0)]))] H ∧ va_D (zOld E) [(mo, .inr (10, [.ref tb, .ref te, .ref ho, .ref xq, .int (iI 0), .int (iI 0), .int (iI 0), .int (iI (bN false)), .ref cq, .ref pq, .int (iI 0), .int (iI (-1))])), (ho, .inr (13, [.int (iI 0), .ref hq, .ref nl, .ref ul, .ref mk])), (te, .inr (12, [.ref tb, .null, .int (iI (bN false)), .int (iI (bN false)), .int (iI (bN false)), .ref tq, .int (iI 0), .ref oq, .int (iI 0), .int (iI 0), .int (iI 0), .int (iI (-1)), .int (iI 0)])), (nl, .inr (9, [.ref (E.2.2.1 4), .int (iI 0), .int (iI 0)]))] ∧ (True))) (zW (fun v H => v = some (.int (iI (sp_count k 0 0 0 0)))) (va_A [(mo, .inr (10, [.ref tb, .ref te, .ref ho, .ref xq, .int (iI 0), .int (iI 0), .int (iI 0), .int (iI (bN false)), .ref cq, .ref pq, .int (iI 0), .int (iI (-1))])), (ho, .inr (13, [.int (iI 0), .ref hq, .ref nl, .ref ul, .ref mk])), (te, .inr (12, [.ref tb, .null, .int (iI (bN false)), .int (iI (bN false)), .int (iI (bN false)), .ref tq, .int (iI 0), .ref oq, .int (iI 0), .int (iI 0), .int (iI 0), .int (iI (-1)), .int (iI 0)])), (nl, .inr (9, [.ref (E.2.2.1 4), .int (iI 0), .int (iI 0)]))] sz)) (0) (0) (va_A [(mo, .inr (10, [.ref tb, .ref te, .ref ho, .ref xq, .int (iI 0), .int (iI 0), .int (iI 0), .int (iI (bN false)), .ref cq, .ref pq, .int (iI 0), .int (iI (-1))])), (ho, .inr (13, [.int (iI 0), .ref hq, .ref nl, .ref ul, .ref mk])), (te, .inr (12, [.ref tb, .null, .int (iI (bN false)), .int (iI (bN false)), .int (iI (bN false)), .ref tq, .int (iI 0), .ref oq, .int (iI 0), .int (iI 0), .int (iI 0), .int (iI (-1)), .int (iI 0)])), (nl, .inr (9, [.ref (E.2.2.1 4), .int (iI 0), .int (iI 0)]))] sz) := by
  refine zMet (by decide) (Nat.le_of_ble_eq_true rfl) ?_
  intro p e s m below meth c ls S hr hlk hnm hE ⟨hsz, hP, hDo, hX⟩ hl
  have hx := S.1
  have hb := S.2.1
  have hE0 := hE
  have hl : lv_has ls 2 [(0, .ref mo), (1, .int (iI k))] := hl
  subst hsz
  have hD := hDo.self (sz := s.heap.size)
  generalize hAe : va_A [(mo, .inr (10, [.ref tb, .ref te, .ref ho, .ref xq, .int (iI 0), .int (iI 0), .int (iI 0), .int (iI (bN false)), .ref cq, .ref pq, .int (iI 0), .int (iI (-1))])), (ho, .inr (13, [.int (iI 0), .ref hq, .ref nl, .ref ul, .ref mk])), (te, .inr (12, [.ref tb, .null, .int (iI (bN false)), .int (iI (bN false)), .int (iI (bN false)), .ref tq, .int (iI 0), .ref oq, .int (iI 0), .int (iI 0), .int (iI 0), .int (iI (-1)), .int (iI 0)])), (nl, .inr (9, [.ref (E.2.2.1 4), .int (iI 0), .int (iI 0)]))] s.heap.size = A at hD ⊢
  have hA : ∀ q : Nat, s.heap.size ≤ q → A q := fun q h => by rw [← hAe]; exact Or.inr h
  have hA0 := zA0 hE hDo hAe
  have hS : va_S A s.heap s.heap [] := va_S.rf
  obtain ⟨hka, hkb⟩ := hk
  refine lv_aload_n hx hb d_Mod_count_0 rfl (lv_at hl 0 rfl) ?_
  refine zi_iconst hx hb d_Mod_count_1 ?_
  refine va_put (D := E.1) (ci := 10) (v := .int (iI 0)) (ty := .int) (C := "ReplacementWriterModel") (T := F_Mod) (N := 12) hx hb S.2.2.2.2 i_Mod t_Mod t_Mod_ok n_Mod S.2.2.2.1 hE.1 hP hD hS 0 rfl rfl 5 (by decide) (S.2.2.2.2 _ zw_1012) (fun _ h9 => h9) rfl (by decide +kernel) rfl rfl (Nat.le_of_ble_eq_true rfl) d_Mod_count_2 (fun H locs hP hD hS => ?_)
  have hP : va_P E.1 zcl [(mo, .inr (10, [.ref tb, .ref te, .ref ho, .ref xq, .int (iI 0), .int (iI 0), .int (iI 0), .int (iI (bN false)), .ref cq, .ref pq, .int (iI 0), .int (iI (-1))])), (ho, .inr (13, [.int (iI 0), .ref hq, .ref nl, .ref ul, .ref mk])), (te, .inr (12, [.ref tb, .null, .int (iI (bN false)), .int (iI (bN false)), .int (iI (bN false)), .ref tq, .int (iI 0), .ref oq, .int (iI 0), .int (iI 0), .int (iI 0), .int (iI (-1)), .int (iI 0)])), (nl, .inr (9, [.ref (E.2.2.1 4), .int (iI 0), .int (iI 0)]))] H := hP
  have hD : va_D A [(mo, .inr (10, [.ref tb, .ref te, .ref ho, .ref xq, .int (iI 0), .int (iI 0), .int (iI 0), .int (iI (bN false)), .ref cq, .ref pq, .int (iI 0), .int (iI (-1))])), (ho, .inr (13, [.int (iI 0), .ref hq, .ref nl, .ref ul, .ref mk])), (te, .inr (12, [.ref tb, .null, .int (iI (bN false)), .int (iI (bN false)), .int (iI (bN false)), .ref tq, .int (iI 0), .ref oq, .int (iI 0), .int (iI 0), .int (iI 0), .int (iI (-1)), .int (iI 0)])), (nl, .inr (9, [.ref (E.2.2.1 4), .int (iI 0), .int (iI 0)]))] := hD
  have hE := hE0.at hS hA0
  refine lv_iload_n hx hb d_Mod_count_5 rfl (lv_at hl 1 rfl) ?_
  by_cases e0 : k = 0
  · refine W.eq (g2 := F0 m 6 ls [.int (iI 0)]) (by rw [e0]) ?_
    refine lv_tableIn (off := 30) (tgt := 36) hx hb d_Mod_count_6 (by decide) (by decide) rfl rfl ?_
    refine lv_aload_n hx hb d_Mod_count_36 rfl (lv_at hl 0 rfl) ?_
    refine zgf S hE (ci := 10) rfl i_Mod (hP 0 _ rfl) 4 (by decide) zw_1011 rfl d_Mod_count_37 ?_
    exact zwi S hr hlk hS (congrArg (fun z => some (Value.int (iI z))) (by unfold sp_count; simp [*])) (by (try dsimp only); omega) (by (try dsimp only); omega) d_Mod_count_40
  by_cases e1 : k = 1
  · refine W.eq (g2 := F0 m 6 ls [.int (iI 1)]) (by rw [e1]) ?_
    refine lv_tableIn (off := 35) (tgt := 41) hx hb d_Mod_count_6 (by decide) (by decide) rfl rfl ?_
    refine lv_aload_n hx hb d_Mod_count_41 rfl (lv_at hl 0 rfl) ?_
    refine zgf S hE (ci := 10) rfl i_Mod (hP 0 _ rfl) 1 (by decide) zw_1008 rfl d_Mod_count_42 ?_
    refine zgf S hE (ci := 12) rfl i_Template (hP 2 _ rfl) 8 (by decide) zw_936 rfl d_Mod_count_45 ?_
    exact zwi S hr hlk hS (congrArg (fun z => some (Value.int (iI z))) (by unfold sp_count; simp [*])) (by (try dsimp only); omega) (by (try dsimp only); omega) d_Mod_count_48
  by_cases e2 : k = 2
  · refine W.eq (g2 := F0 m 6 ls [.int (iI 2)]) (by rw [e2]) ?_
    refine lv_tableIn (off := 43) (tgt := 49) hx hb d_Mod_count_6 (by decide) (by decide) rfl rfl ?_
    refine lv_aload_n hx hb d_Mod_count_49 rfl (lv_at hl 0 rfl) ?_
    refine zgf S hE (ci := 10) rfl i_Mod (hP 0 _ rfl) 2 (by decide) zw_1009 rfl d_Mod_count_50 ?_
    refine zgf S hE (ci := 13) rfl i_Holder (hP 1 _ rfl) 0 (by decide) zw_980 rfl d_Mod_count_53 ?_
    exact zwi S hr hlk hS (congrArg (fun z => some (Value.int (iI z))) (by unfold sp_count; simp [*])) (by (try dsimp only); omega) (by (try dsimp only); omega) d_Mod_count_56
  by_cases e3 : k = 3
  · refine W.eq (g2 := F0 m 6 ls [.int (iI 3)]) (by rw [e3]) ?_
    refine lv_tableIn (off := 51) (tgt := 57) hx hb d_Mod_count_6 (by decide) (by decide) rfl rfl ?_
    refine lv_aload_n hx hb d_Mod_count_57 rfl (lv_at hl 0 rfl) ?_
    refine zgf S hE (ci := 10) rfl i_Mod (hP 0 _ rfl) 2 (by decide) zw_1009 rfl d_Mod_count_58 ?_
    refine zgf S hE (ci := 13) rfl i_Holder (hP 1 _ rfl) 2 (by decide) zw_984 rfl d_Mod_count_61 ?_
    refine zcR (va_runV (As := []) (rest := []) S (c_ArrayList_size0 l E nl (E.2.2.1 4) 0 0) ⟨zcwB (n := 0) S zw_534 zw_6 zw_1121 (by decide +kernel) rfl rfl ⟨Nat.le_of_ble_eq_true rfl, Nat.le_of_ble_eq_true rfl⟩, S.2.2.2.2 _ zw_532, S.2.2.2.2 _ zw_533⟩ (zPreV hE (hP 3 _ rfl) rfl (hP 3 _ rfl)) rfl rfl hl.1 rfl (lv_room (Nat.le_of_ble_eq_true rfl)) d_Mod_count_64 ⟨by (try dsimp only); omega, by (try dsimp only); omega⟩) ?_
    exact zwi S hr hlk hS (congrArg (fun z => some (Value.int (iI z))) (by unfold sp_count; simp [*])) (by (try dsimp only); omega) (by (try dsimp only); omega) d_Mod_count_67
  refine lv_tableOut (tgt := 68) hx hb d_Mod_count_6 (by rw [iI_toInt ⟨by omega, by omega⟩]; omega) rfl ?_
  refine zi_iconst hx hb d_Mod_count_68 ?_
  exact zwi S hr hlk hS (congrArg (fun z => some (Value.int (iI z))) (by unfold sp_count; simp [*])) (by (try dsimp only); omega) (by (try dsimp only); omega) d_Mod_count_69

set_option maxRecDepth 100000 in
set_option maxHeartbeats 4000000 in
theorem c_Mod_feed (l : Launch) (E : zP) (sz : Nat) (mo tb te ho xq cq pq : Nat) (fx0 : Nat → Int32) (v1 v2 v3 v4 v5 : Int32) : Met l y_Mod_feed (.code y_Mod_feed b_Mod_feed 8 ( some FieldType.int ) :: zw) { frames := 1, cells := (1), slots := (5), locals := 22 } (zPc E [.ref mo, .int v1, .int v2, .int v3, .int v4, .int v5] (fun H => H.size = sz ∧ va_P E.1 zcl [(mo, .inr (10, [.ref tb, .ref te, .ref ho, .ref xq, .int (iI 0), .int (iI 0), .int (iI 0), .int (iI (bN false)), .ref cq, .ref pq, .int (iI 0), .int (iI (-1))])), (xq, .inl (E.2.1 0, 65536, .inl fx0))] H ∧ va_D (zOld E) [(mo, .inr (10, [.ref tb, .ref te, .ref ho, .ref xq, .int (iI 0), .int (iI 0), .int (iI 0), .int (iI (bN false)), .ref cq, .ref pq, .int (iI 0), .int (iI (-1))])), (xq, .inl (E.2.1 0, 65536, .inl fx0))] ∧ (True))) (zW (fun v H => v = some (.int (iI 20)) ∧ zTh E mo 0 H) (va_A [(mo, .inr (10, [.ref tb, .ref te, .ref ho, .ref xq, .int (iI 0), .int (iI 0), .int (iI 0), .int (iI (bN false)), .ref cq, .ref pq, .int (iI 0), .int (iI (-1))])), (xq, .inl (E.2.1 0, 65536, .inl fx0))] sz)) (1) (5) (va_A [(mo, .inr (10, [.ref tb, .ref te, .ref ho, .ref xq, .int (iI 0), .int (iI 0), .int (iI 0), .int (iI (bN false)), .ref cq, .ref pq, .int (iI 0), .int (iI (-1))])), (xq, .inl (E.2.1 0, 65536, .inl fx0))] sz) := by
  refine zMet (by decide) (Nat.le_of_ble_eq_true rfl) ?_
  intro p e s m below meth c ls S hr hlk hnm hE ⟨hsz, hP, hDo, hX⟩ hl
  have hx := S.1
  have hb := S.2.1
  have hE0 := hE
  have hl : lv_has ls 8 [(0, .ref mo), (1, .int v1), (2, .int v2), (3, .int v3), (4, .int v4), (5, .int v5)] := hl
  subst hsz
  have hD := hDo.self (sz := s.heap.size)
  generalize hAe : va_A [(mo, .inr (10, [.ref tb, .ref te, .ref ho, .ref xq, .int (iI 0), .int (iI 0), .int (iI 0), .int (iI (bN false)), .ref cq, .ref pq, .int (iI 0), .int (iI (-1))])), (xq, .inl (E.2.1 0, 65536, .inl fx0))] s.heap.size = A at hD ⊢
  have hA : ∀ q : Nat, s.heap.size ≤ q → A q := fun q h => by rw [← hAe]; exact Or.inr h
  have hA0 := zA0 hE hDo hAe
  have hS : va_S A s.heap s.heap [] := va_S.rf
  refine lv_aload_n hx hb d_Mod_feed_0 rfl (lv_at hl 0 rfl) ?_
  refine zi_iconst hx hb d_Mod_feed_1 ?_
  refine va_put (D := E.1) (ci := 10) (v := .int (iI 0)) (ty := .int) (C := "ReplacementWriterModel") (T := F_Mod) (N := 12) hx hb S.2.2.2.2 i_Mod t_Mod t_Mod_ok n_Mod S.2.2.2.1 hE.1 hP hD hS 0 rfl rfl 5 (by decide) (S.2.2.2.2 _ zw_1012) (fun _ h9 => h9) rfl (by decide +kernel) rfl rfl (Nat.le_of_ble_eq_true rfl) d_Mod_feed_2 (fun H locs hP hD hS => ?_)
  have hP : va_P E.1 zcl [(mo, .inr (10, [.ref tb, .ref te, .ref ho, .ref xq, .int (iI 0), .int (iI 0), .int (iI 0), .int (iI (bN false)), .ref cq, .ref pq, .int (iI 0), .int (iI (-1))])), (xq, .inl (E.2.1 0, 65536, .inl fx0))] H := hP
  have hD : va_D A [(mo, .inr (10, [.ref tb, .ref te, .ref ho, .ref xq, .int (iI 0), .int (iI 0), .int (iI 0), .int (iI (bN false)), .ref cq, .ref pq, .int (iI 0), .int (iI (-1))])), (xq, .inl (E.2.1 0, 65536, .inl fx0))] := hD
  have hE := hE0.at hS hA0
  refine lv_aload_n hx hb d_Mod_feed_5 rfl (lv_at hl 0 rfl) ?_
  refine zi_iconst hx hb d_Mod_feed_6 ?_
  refine lv_aload_n hx hb d_Mod_feed_7 rfl (lv_at hl 0 rfl) ?_
  refine zgf S hE (ci := 10) rfl i_Mod (hP 0 _ rfl) 4 (by decide) zw_1011 rfl d_Mod_feed_8 ?_
  refine zldc (n := 65516) S zw_1052 (by decide) d_Mod_feed_11 ?_
  refine zi_icmp_le hx hb d_Mod_feed_13 rfl (by omega) (by omega) (fun h13 => ?_) (fun h => absurd h (by omega))
  refine zi_iconst hx hb d_Mod_feed_20 ?_
  have hPc := hP.sub (ws' := [(mo, .inr (10, [.ref tb, .ref te, .ref ho, .ref xq, .int (iI 0), .int (iI 0), .int (iI 0), .int (iI (bN false)), .ref cq, .ref pq, .int (iI 0), .int (iI (-1))]))]) [0] rfl
  have hDc := hD.sub (ws' := [(mo, .inr (10, [.ref tb, .ref te, .ref ho, .ref xq, .int (iI 0), .int (iI 0), .int (iI 0), .int (iI (bN false)), .ref cq, .ref pq, .int (iI 0), .int (iI (-1))]))]) [0] (by decide) rfl
  have hFc := va_free (wc := [(mo, .inr (10, [.ref tb, .ref te, .ref ho, .ref xq, .int (iI 0), .int (iI 0), .int (iI 0), .int (iI (bN false)), .ref cq, .ref pq, .int (iI 0), .int (iI (-1))]))]) hD hS hA [0] rfl
  refine zcW (va_runV (As := [.int (iI 1), .int (iI (bN false))]) (rest := []) S (c_Mod_refuse l E _ mo tb te ho xq cq pq 0 0 0 0 (-1) 1 false) ⟨zcwB (n := 2) S zw_1056 zw_14 zw_1053 (by decide +kernel) rfl rfl ⟨Nat.le_of_ble_eq_true rfl, Nat.le_of_ble_eq_true rfl⟩, S.2.2.2.2 _ zw_1055, S.2.2.2.2 _ zs_30⟩ (zPreV hE (hP 0 _ rfl) rfl ⟨rfl, hPc, hDc.weaken (fun _ _ _ h => hA0 _ h), trivial⟩) rfl rfl hl.1 rfl (lv_room (Nat.le_of_ble_eq_true rfl)) d_Mod_feed_21 ⟨by (try dsimp only); omega, by (try dsimp only); omega⟩) hS (fun q _ h => hFc q h) hFc (fun v H locs hq hz1 hk1 hS => ?_)
  obtain ⟨rfl, hP1, hD1⟩ := hq
  obtain ⟨hP, hD⟩ := va_join (wr := [(xq, .inl (E.2.1 0, 65536, .inl fx0))]) (w1 := [(mo, .inr (10, [.ref tb, .ref te, .ref ho, .ref xq, .int (iI 0), .int (iI 0), .int (iI 0), .int (iI (bN false)), .ref cq, .ref pq, .int (iI 0), .int (iI (-1))]))]) hP hD [0] [1] rfl rfl (by decide) (by decide) hk1 hFc hP1 hD1
  have hP : va_P E.1 zcl [(xq, .inl (E.2.1 0, 65536, .inl fx0)), (mo, .inr (10, [.ref tb, .ref te, .ref ho, .ref xq, .int (iI 0), .int (iI 0), .int (iI 0), .int (iI (bN false)), .ref cq, .ref pq, .int (iI 0), .int (iI (-1))]))] H := hP
  have hD : va_D A [(xq, .inl (E.2.1 0, 65536, .inl fx0)), (mo, .inr (10, [.ref tb, .ref te, .ref ho, .ref xq, .int (iI 0), .int (iI 0), .int (iI 0), .int (iI (bN false)), .ref cq, .ref pq, .int (iI 0), .int (iI (-1))]))] := hD
  have hE := hE0.at hS hA0
  refine W.eq (g2 := F0 m 24 ls ([.int (iI 0)])) rfl ?_
  refine zi_if_eq hx hb d_Mod_feed_24 rfl (by omega) (fun h24 => ?_) (fun h24 => absurd h24 (by omega))
  refine zi_iconst hx hb d_Mod_feed_29 ?_
  refine znewa (atype := .int) (k := 2) (N := 5) (a0 := (5, .inl (fun _ => 0))) S hE zw_917 rfl (zfc2 hE) hP hD hS hA (fun _ => rfl) (by omega) (by omega) (by omega) (by show _ * 4 ≤ _; omega) (by (try dsimp only); omega) (by (try dsimp only); omega) d_Mod_feed_30 (fun q5 H hP hD hS => ?_)
  have hP : va_P E.1 zcl [(xq, .inl (E.2.1 0, 65536, .inl fx0)), (mo, .inr (10, [.ref tb, .ref te, .ref ho, .ref xq, .int (iI 0), .int (iI 0), .int (iI 0), .int (iI (bN false)), .ref cq, .ref pq, .int (iI 0), .int (iI (-1))])), (q5, .inl (E.2.1 2, 5, .inl (fun _ => 0)))] H := hP
  have hD : va_D A [(xq, .inl (E.2.1 0, 65536, .inl fx0)), (mo, .inr (10, [.ref tb, .ref te, .ref ho, .ref xq, .int (iI 0), .int (iI 0), .int (iI 0), .int (iI (bN false)), .ref cq, .ref pq, .int (iI 0), .int (iI (-1))])), (q5, .inl (E.2.1 2, 5, .inl (fun _ => 0)))] := hD
  have hE := hE0.at hS hA0
  refine lv_dup hx hb d_Mod_feed_32 rfl ?_
  refine zi_iconst hx hb d_Mod_feed_33 ?_
  refine lv_iload_n hx hb d_Mod_feed_34 rfl (lv_at hl 1 rfl) ?_
  refine ziast hx hb hE hP hD hS 2 rfl (by omega) (by omega) (by omega) d_Mod_feed_35 (fun H locs hP hD hS => ?_)
  have hP : va_P E.1 zcl [(xq, .inl (E.2.1 0, 65536, .inl fx0)), (mo, .inr (10, [.ref tb, .ref te, .ref ho, .ref xq, .int (iI 0), .int (iI 0), .int (iI 0), .int (iI (bN false)), .ref cq, .ref pq, .int (iI 0), .int (iI (-1))])), (q5, .inl (E.2.1 2, 5, .inl (upd (fun _ => 0) (Int.toNat 0) v1)))] H := hP
  have hD : va_D A [(xq, .inl (E.2.1 0, 65536, .inl fx0)), (mo, .inr (10, [.ref tb, .ref te, .ref ho, .ref xq, .int (iI 0), .int (iI 0), .int (iI 0), .int (iI (bN false)), .ref cq, .ref pq, .int (iI 0), .int (iI (-1))])), (q5, .inl (E.2.1 2, 5, .inl (upd (fun _ => 0) (Int.toNat 0) v1)))] := hD
  have hE := hE0.at hS hA0
  refine lv_dup hx hb d_Mod_feed_36 rfl ?_
  refine zi_iconst hx hb d_Mod_feed_37 ?_
  refine lv_iload_n hx hb d_Mod_feed_38 rfl (lv_at hl 2 rfl) ?_
  refine ziast hx hb hE hP hD hS 2 rfl (by omega) (by omega) (by omega) d_Mod_feed_39 (fun H locs hP hD hS => ?_)
  have hP : va_P E.1 zcl [(xq, .inl (E.2.1 0, 65536, .inl fx0)), (mo, .inr (10, [.ref tb, .ref te, .ref ho, .ref xq, .int (iI 0), .int (iI 0), .int (iI 0), .int (iI (bN false)), .ref cq, .ref pq, .int (iI 0), .int (iI (-1))])), (q5, .inl (E.2.1 2, 5, .inl (upd (upd (fun _ => 0) (Int.toNat 0) v1) (Int.toNat 1) v2)))] H := hP
  have hD : va_D A [(xq, .inl (E.2.1 0, 65536, .inl fx0)), (mo, .inr (10, [.ref tb, .ref te, .ref ho, .ref xq, .int (iI 0), .int (iI 0), .int (iI 0), .int (iI (bN false)), .ref cq, .ref pq, .int (iI 0), .int (iI (-1))])), (q5, .inl (E.2.1 2, 5, .inl (upd (upd (fun _ => 0) (Int.toNat 0) v1) (Int.toNat 1) v2)))] := hD
  have hE := hE0.at hS hA0
  refine lv_dup hx hb d_Mod_feed_40 rfl ?_
  refine zi_iconst hx hb d_Mod_feed_41 ?_
  refine lv_iload_n hx hb d_Mod_feed_42 rfl (lv_at hl 3 rfl) ?_
  refine ziast hx hb hE hP hD hS 2 rfl (by omega) (by omega) (by omega) d_Mod_feed_43 (fun H locs hP hD hS => ?_)
  have hP : va_P E.1 zcl [(xq, .inl (E.2.1 0, 65536, .inl fx0)), (mo, .inr (10, [.ref tb, .ref te, .ref ho, .ref xq, .int (iI 0), .int (iI 0), .int (iI 0), .int (iI (bN false)), .ref cq, .ref pq, .int (iI 0), .int (iI (-1))])), (q5, .inl (E.2.1 2, 5, .inl (upd (upd (upd (fun _ => 0) (Int.toNat 0) v1) (Int.toNat 1) v2) (Int.toNat 2) v3)))] H := hP
  have hD : va_D A [(xq, .inl (E.2.1 0, 65536, .inl fx0)), (mo, .inr (10, [.ref tb, .ref te, .ref ho, .ref xq, .int (iI 0), .int (iI 0), .int (iI 0), .int (iI (bN false)), .ref cq, .ref pq, .int (iI 0), .int (iI (-1))])), (q5, .inl (E.2.1 2, 5, .inl (upd (upd (upd (fun _ => 0) (Int.toNat 0) v1) (Int.toNat 1) v2) (Int.toNat 2) v3)))] := hD
  have hE := hE0.at hS hA0
  refine lv_dup hx hb d_Mod_feed_44 rfl ?_
  refine zi_iconst hx hb d_Mod_feed_45 ?_
  refine lv_iload hx hb d_Mod_feed_46 (lv_at hl 4 rfl) ?_
  refine ziast hx hb hE hP hD hS 2 rfl (by omega) (by omega) (by omega) d_Mod_feed_48 (fun H locs hP hD hS => ?_)
  have hP : va_P E.1 zcl [(xq, .inl (E.2.1 0, 65536, .inl fx0)), (mo, .inr (10, [.ref tb, .ref te, .ref ho, .ref xq, .int (iI 0), .int (iI 0), .int (iI 0), .int (iI (bN false)), .ref cq, .ref pq, .int (iI 0), .int (iI (-1))])), (q5, .inl (E.2.1 2, 5, .inl (upd (upd (upd (upd (fun _ => 0) (Int.toNat 0) v1) (Int.toNat 1) v2) (Int.toNat 2) v3) (Int.toNat 3) v4)))] H := hP
  have hD : va_D A [(xq, .inl (E.2.1 0, 65536, .inl fx0)), (mo, .inr (10, [.ref tb, .ref te, .ref ho, .ref xq, .int (iI 0), .int (iI 0), .int (iI 0), .int (iI (bN false)), .ref cq, .ref pq, .int (iI 0), .int (iI (-1))])), (q5, .inl (E.2.1 2, 5, .inl (upd (upd (upd (upd (fun _ => 0) (Int.toNat 0) v1) (Int.toNat 1) v2) (Int.toNat 2) v3) (Int.toNat 3) v4)))] := hD
  have hE := hE0.at hS hA0
  refine lv_dup hx hb d_Mod_feed_49 rfl ?_
  refine zi_iconst hx hb d_Mod_feed_50 ?_
  refine lv_iload hx hb d_Mod_feed_51 (lv_at hl 5 rfl) ?_
  refine ziast hx hb hE hP hD hS 2 rfl (by omega) (by omega) (by omega) d_Mod_feed_53 (fun H locs hP hD hS => ?_)
  have hP : va_P E.1 zcl [(xq, .inl (E.2.1 0, 65536, .inl fx0)), (mo, .inr (10, [.ref tb, .ref te, .ref ho, .ref xq, .int (iI 0), .int (iI 0), .int (iI 0), .int (iI (bN false)), .ref cq, .ref pq, .int (iI 0), .int (iI (-1))])), (q5, .inl (E.2.1 2, 5, .inl (upd (upd (upd (upd (upd (fun _ => 0) (Int.toNat 0) v1) (Int.toNat 1) v2) (Int.toNat 2) v3) (Int.toNat 3) v4) (Int.toNat 4) v5)))] H := hP
  have hD : va_D A [(xq, .inl (E.2.1 0, 65536, .inl fx0)), (mo, .inr (10, [.ref tb, .ref te, .ref ho, .ref xq, .int (iI 0), .int (iI 0), .int (iI 0), .int (iI (bN false)), .ref cq, .ref pq, .int (iI 0), .int (iI (-1))])), (q5, .inl (E.2.1 2, 5, .inl (upd (upd (upd (upd (upd (fun _ => 0) (Int.toNat 0) v1) (Int.toNat 1) v2) (Int.toNat 2) v3) (Int.toNat 3) v4) (Int.toNat 4) v5)))] := hD
  have hE := hE0.at hS hA0
  refine lv_astore (lv' := [(6, .ref q5), (0, .ref mo), (1, .int v1), (2, .int v2), (3, .int v3), (4, .int v4), (5, .int v5)]) hx hb d_Mod_feed_54 hl (by decide) rfl (fun ls hl => ?_)
  refine zi_iconst hx hb d_Mod_feed_56 ?_
  refine lv_istore (lv' := [(7, .int (iI 0)), (6, .ref q5), (0, .ref mo), (1, .int v1), (2, .int v2), (3, .int v3), (4, .int v4), (5, .int v5)]) hx hb d_Mod_feed_57 hl (by decide) rfl (fun ls hl => ?_)
  obtain ⟨f5, ef5⟩ : ∃ x : Nat → Int32, x = upd (upd (upd (upd (upd (fun _ => 0) (Int.toNat 0) v1) (Int.toNat 1) v2) (Int.toNat 2) v3) (Int.toNat 3) v4) (Int.toNat 4) v5 := ⟨_, rfl⟩
  rw [← ef5] at hP hD
  clear ef5
  have hP := hP.sub (ws' := [(mo, .inr (10, [.ref tb, .ref te, .ref ho, .ref xq, .int (iI 0), .int (iI 0), .int (iI 0), .int (iI (bN false)), .ref cq, .ref pq, .int (iI 0), .int (iI (-1))])), (xq, .inl (E.2.1 0, 65536, .inl fx0)), (q5, .inl (E.2.1 2, 5, .inl f5))]) [1, 0, 2] rfl
  have hD := hD.sub (ws' := [(mo, .inr (10, [.ref tb, .ref te, .ref ho, .ref xq, .int (iI 0), .int (iI 0), .int (iI 0), .int (iI (bN false)), .ref cq, .ref pq, .int (iI 0), .int (iI (-1))])), (xq, .inl (E.2.1 0, 65536, .inl fx0)), (q5, .inl (E.2.1 2, 5, .inl f5))]) [1, 0, 2] (by decide) rfl
  refine zloop (fun (x : Nat × (Nat → Int32)) H locs ls cells slots => match x with | (j, fx) => cells = 1 ∧ slots = 5 ∧ lv_has ls 8 [(7, .int (iI ((j : Nat) : Int))), (6, .ref q5), (0, .ref mo), (1, .int v1), (2, .int v2), (3, .int v3), (4, .int v4), (5, .int v5)] ∧ va_P E.1 zcl [(mo, .inr (10, [.ref tb, .ref te, .ref ho, .ref xq, .int (iI ((j : Nat) : Int)), .int (iI 0), .int (iI 0), .int (iI (bN false)), .ref cq, .ref pq, .int (iI 0), .int (iI (-1))])), (xq, .inl (E.2.1 0, 65536, .inl fx)), (q5, .inl (E.2.1 2, 5, .inl f5))] H ∧ va_D A [(mo, .inr (10, [.ref tb, .ref te, .ref ho, .ref xq, .int (iI ((j : Nat) : Int)), .int (iI 0), .int (iI 0), .int (iI (bN false)), .ref cq, .ref pq, .int (iI 0), .int (iI (-1))])), (xq, .inl (E.2.1 0, 65536, .inl fx)), (q5, .inl (E.2.1 2, 5, .inl f5))] ∧ va_S A s.heap H locs ∧ (j ≤ 20)) (fun x => match x with | (j, fx) => 20 - j) ?_ (0, fx0) ⟨by simp, by simp, hl, hP, hD, hS, by decide⟩
  clear hl hP hD hS
  rintro ⟨j, fx⟩ H locs ls cells slots ⟨rfl, rfl, hl, hP, hD, hS, hj9⟩ ih
  have hE := hE0.at hS hA0
  refine lv_iload hx hb d_Mod_feed_59 (lv_at hl 0 rfl) ?_
  refine zi_bipush hx hb d_Mod_feed_61 (by decide) ?_
  refine zi_icmp_ge hx hb d_Mod_feed_63 rfl (by omega) (by omega) (fun h63 => ?_) (fun h63 => ?_)
  · refine lv_aload_n hx hb d_Mod_feed_107 rfl (lv_at hl 2 rfl) ?_
    refine zgf S hE (ci := 10) rfl i_Mod (hP 0 _ rfl) 4 (by decide) zw_1011 rfl d_Mod_feed_108 ?_
    exact zwi S hr hlk hS (⟨by rw [show j = 20 by omega]; rfl, ⟨_, _, _, _, _, _, _, _, _, _, _, (hP 0 _ rfl)⟩⟩) (by (try dsimp only); omega) (by (try dsimp only); omega) d_Mod_feed_111
  · refine lv_aload_n hx hb d_Mod_feed_66 rfl (lv_at hl 2 rfl) ?_
    refine zgf S hE (ci := 10) rfl i_Mod (hP 0 _ rfl) 3 (by decide) zw_1010 rfl d_Mod_feed_67 ?_
    refine lv_aload_n hx hb d_Mod_feed_70 rfl (lv_at hl 2 rfl) ?_
    refine lv_dup hx hb d_Mod_feed_71 rfl ?_
    refine zgf S hE (ci := 10) rfl i_Mod (hP 0 _ rfl) 4 (by decide) zw_1011 rfl d_Mod_feed_72 ?_
    refine lv_dup_x1 hx hb d_Mod_feed_75 rfl rfl ?_
    refine zi_iconst hx hb d_Mod_feed_76 ?_
    refine zi_iadd hx hb d_Mod_feed_77 ?_
    refine va_put (D := E.1) (ci := 10) (v := .int (iI (((j : Nat) : Int) + 1))) (ty := .int) (C := "ReplacementWriterModel") (T := F_Mod) (N := 12) hx hb S.2.2.2.2 i_Mod t_Mod t_Mod_ok n_Mod S.2.2.2.1 hE.1 hP hD hS 0 rfl rfl 4 (by decide) (S.2.2.2.2 _ zw_1011) (fun _ h9 => h9) rfl (by decide +kernel) rfl rfl (Nat.le_of_ble_eq_true rfl) d_Mod_feed_78 (fun H locs hP hD hS => ?_)
    have hP : va_P E.1 zcl [(mo, .inr (10, [.ref tb, .ref te, .ref ho, .ref xq, .int (iI (((j : Nat) : Int) + 1)), .int (iI 0), .int (iI 0), .int (iI (bN false)), .ref cq, .ref pq, .int (iI 0), .int (iI (-1))])), (xq, .inl (E.2.1 0, 65536, .inl fx)), (q5, .inl (E.2.1 2, 5, .inl f5))] H := hP
    have hD : va_D A [(mo, .inr (10, [.ref tb, .ref te, .ref ho, .ref xq, .int (iI (((j : Nat) : Int) + 1)), .int (iI 0), .int (iI 0), .int (iI (bN false)), .ref cq, .ref pq, .int (iI 0), .int (iI (-1))])), (xq, .inl (E.2.1 0, 65536, .inl fx)), (q5, .inl (E.2.1 2, 5, .inl f5))] := hD
    have hE := hE0.at hS hA0
    refine lv_aload hx hb d_Mod_feed_81 (lv_at hl 1 rfl) ?_
    refine lv_iload hx hb d_Mod_feed_83 (lv_at hl 0 rfl) ?_
    refine zi_iconst hx hb d_Mod_feed_85 ?_
    refine lv_idiv hx hb d_Mod_feed_86 (by decide) ?_
    rw [zidiv4 (by omega)]
    refine ziald hx hb hE (hP 2 _ rfl) (by omega) (by omega) (by omega) d_Mod_feed_87 ?_
    generalize f5 (Int.toNat ((j / 4 : Nat) : Int)) = r6
    refine zi_bipush hx hb d_Mod_feed_88 (by decide) ?_
    refine zi_bipush hx hb d_Mod_feed_90 (by decide) ?_
    refine lv_iload hx hb d_Mod_feed_92 (lv_at hl 0 rfl) ?_
    refine zi_iconst hx hb d_Mod_feed_94 ?_
    refine lv_irem hx hb d_Mod_feed_95 (by decide) ?_
    generalize iI ((j : Nat) : Int) - iI ((j : Nat) : Int) / iI 4 * iI 4 = r9
    refine lv_imul hx hb d_Mod_feed_96 ?_
    generalize iI 8 * r9 = r8
    refine lv_isub hx hb d_Mod_feed_97 ?_
    generalize iI 24 - r8 = r7
    refine lv_iushr hx hb d_Mod_feed_98 rfl ?_
    generalize (r6.toUInt32 >>> (r7.toUInt32 &&& Int32.toUInt32 31)).toInt32 = r5
    refine lv_i2b hx hb d_Mod_feed_99 rfl ?_
    refine zbast hx hb hE hP hD hS 1 rfl (by omega) (by omega) (by omega) d_Mod_feed_100 (fun H locs hP hD hS => ?_)
    have hP : va_P E.1 zcl [(mo, .inr (10, [.ref tb, .ref te, .ref ho, .ref xq, .int (iI (((j : Nat) : Int) + 1)), .int (iI 0), .int (iI 0), .int (iI (bN false)), .ref cq, .ref pq, .int (iI 0), .int (iI (-1))])), (xq, .inl (E.2.1 0, 65536, .inl (upd fx (Int.toNat ((j : Nat) : Int)) (vp_nar .byte ((r5).toInt8.toInt32))))), (q5, .inl (E.2.1 2, 5, .inl f5))] H := hP
    have hD : va_D A [(mo, .inr (10, [.ref tb, .ref te, .ref ho, .ref xq, .int (iI (((j : Nat) : Int) + 1)), .int (iI 0), .int (iI 0), .int (iI (bN false)), .ref cq, .ref pq, .int (iI 0), .int (iI (-1))])), (xq, .inl (E.2.1 0, 65536, .inl (upd fx (Int.toNat ((j : Nat) : Int)) (vp_nar .byte ((r5).toInt8.toInt32))))), (q5, .inl (E.2.1 2, 5, .inl f5))] := hD
    have hE := hE0.at hS hA0
    refine lv_iinc (k := 0) (v := (iI (((j : Nat) : Int) + 1))) (lv' := [(7, .int (iI (((j : Nat) : Int) + 1))), (6, .ref q5), (0, .ref mo), (1, .int v1), (2, .int v2), (3, .int v3), (4, .int v4), (5, .int v5)]) hx hb d_Mod_feed_101 hl rfl (iI_add _ _) (by decide) rfl (fun ls hl => ?_)
    refine lv_goto hx hb d_Mod_feed_104 rfl ?_
    refine W.widen (k := 1) (n := 5) (by (try dsimp only); omega) (by (try dsimp only); omega) ?_
    exact ih (j + 1, upd fx (Int.toNat ((j : Nat) : Int)) (vp_nar .byte ((r5).toInt8.toInt32))) H locs ls _ _ (show 20 - (j + 1) < 20 - j from by omega) ⟨rfl, rfl, lv_sub hl [0, 1, 2, 3, 4, 5, 6, 7] rfl, hP.sub (ws' := [(mo, .inr (10, [.ref tb, .ref te, .ref ho, .ref xq, .int (iI (((j : Nat) : Int) + 1)), .int (iI 0), .int (iI 0), .int (iI (bN false)), .ref cq, .ref pq, .int (iI 0), .int (iI (-1))])), (xq, .inl (E.2.1 0, 65536, .inl (upd fx (Int.toNat ((j : Nat) : Int)) (vp_nar .byte ((r5).toInt8.toInt32))))), (q5, .inl (E.2.1 2, 5, .inl f5))]) [0, 1, 2] rfl, hD.sub (ws' := [(mo, .inr (10, [.ref tb, .ref te, .ref ho, .ref xq, .int (iI (((j : Nat) : Int) + 1)), .int (iI 0), .int (iI 0), .int (iI (bN false)), .ref cq, .ref pq, .int (iI 0), .int (iI (-1))])), (xq, .inl (E.2.1 0, 65536, .inl (upd fx (Int.toNat ((j : Nat) : Int)) (vp_nar .byte ((r5).toInt8.toInt32))))), (q5, .inl (E.2.1 2, 5, .inl f5))]) [0, 1, 2] (by decide) rfl, hS, by omega⟩
