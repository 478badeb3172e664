set_option maxHeartbeats 6000000 in
set_option maxRecDepth 100000 in
theorem c_X0_append (l : Launch) (D : zD) (hbu hs : Nat) (S : Nat → Int) (hokb : OkB S) (x : Int) (hxb : 0 ≤ x ∧ x ≤ 65535) : zM l yX0_append wsX0_append (zR 1) zE0 D [.ref hbu, .int (zI (x))] (wBu D hbu hs S) (zQv D (fun W1 => W1 = (wBu D hbu hs (sBuM S x)))) := by
  refine zM.of (cc := cX0_append) (maxL := 2) (ret := none) (by decide) rfl (Nat.le_of_ble_eq_true rfl) ?_
  intro p e s m below meth c A hx hb hml hown hts hr hlocks hE hnm w ls hl
  have hown : s.vm.findClass RX0 = some m.cls := hown
  have hl : lv_has ls 2 [(0, .ref hbu), (1, .int (zI (x)))] := hl
  have f_15 : (Cond.fieldLink RX0 15 "RelaxedSteps$Bundle" "count" "I").before _ s = true := hts _ (by decide +kernel)
  have f_9 : (Cond.fieldLink RX0 9 "RelaxedSteps$Bundle" "sets" "[I").before _ s = true := hts _ (by decide +kernel)
  have inX0 : ∀ w ∈ u_ws RX0 TX0 2, w ∈ wsX0_append := by decide +kernel
  rw [← sBu_eq hokb x]
  have hokb2 := (OkB_out hokb x).1
  have ho1 := hokb2.1
  have ho2 : 0 ≤ sOut S x 78 ∧ sOut S x 78 ≤ 65535 := hokb2.2.1 0 (by omega)
  have w : zW D A s.heap s [(hbu, .inr (0, [.ref hs, .int (zI (S 77))])), (hs, .inl (D.2 0, 8, .inl (fSt S)))] s.heap [] := w
  refine lv_aload_n hx hb dX0_append_0 rfl (lv_at hl 0 rfl) ?_
  refine lv_iload_n hx hb dX0_append_1 rfl (lv_at hl 1 rfl) ?_
  refine z_V_v (As := [.int (zI (x))]) (rest := []) (Wr := []) ⟨hx, hb, hml, hown, hts⟩ (c_X0_takeOut l D hbu hs S hokb x (by omega)) (cwV 1 hts gX0_append_X0_takeOut rfl rfl rfl (by decide +kernel) ⟨Nat.le_of_ble_eq_true rfl, Nat.le_of_ble_eq_true rfl⟩) w (q0 := 0) rfl rfl rfl [0, 1] rfl (by decide) [] rfl (by decide) (by decide) rfl hl.1 rfl (lv_room (Nat.le_of_ble_eq_true rfl)) dX0_append_2 ⟨Nat.zero_le _, Nat.zero_le _⟩ (fun W1 H locs hp w => ?_)
  subst hp
  have w : zW D A s.heap s [(hbu, .inr (0, [.ref hs, .int (zI ((sOut S x) 77))])), (hs, .inl (D.2 0, 8, .inl (fSt (sOut S x))))] H locs := w.sub [0, 1] (by decide) rfl
  refine lv_aload_n hx hb dX0_append_5 rfl (lv_at hl 0 rfl) ?_
  refine z_get hx hb hown hts w inX0 0 1 rfl rfl (by decide) f_15 rfl rfl dX0_append_6 ?_
  refine lv_bipush (v := zI 8) hx hb dX0_append_9 (by decide +kernel) ?_
  refine z_icmp_lt (tgt := 24) hx hb (by omega) (by omega) dX0_append_11 (by decide) (fun c11 => ?_) (fun c11 => ?_)
  · skip
    refine lv_aload_n hx hb dX0_append_24 rfl (lv_at hl 0 rfl) ?_
    refine z_get hx hb hown hts w inX0 0 0 rfl rfl (by decide) f_9 rfl rfl dX0_append_25 ?_
    refine lv_aload_n hx hb dX0_append_28 rfl (lv_at hl 0 rfl) ?_
    refine z_get hx hb hown hts w inX0 0 1 rfl rfl (by decide) f_15 rfl rfl dX0_append_29 ?_
    refine lv_iload_n hx hb dX0_append_32 rfl (lv_at hl 1 rfl) ?_
    have hzz := zk_eq hokb2
    refine z_iast hx hb w 1 rfl (zk (sOut S x)) (by omega) (by decide) (zk_eq hokb2) dX0_append_33 (fSt (zu (sOut S x) (78 + zk (sOut S x)) x)) (fun i hi => fSt_zu hi) (fun H locs w => ?_)
    have w : zW D A s.heap s [(hbu, .inr (0, [.ref hs, .int (zI ((sOut S x) 77))])), (hs, .inl (D.2 0, 8, .inl (fSt (zu (sOut S x) (78 + zk (sOut S x)) x))))] H locs := w
    refine lv_aload_n hx hb dX0_append_34 rfl (lv_at hl 0 rfl) ?_
    refine lv_dup hx hb dX0_append_35 rfl ?_
    refine z_get hx hb hown hts w inX0 0 1 rfl rfl (by decide) f_15 rfl rfl dX0_append_36 ?_
    refine lv_iconst (v := zI 1) hx hb dX0_append_39 rfl ?_
    refine z_iadd hx hb dX0_append_40 ?_
    refine z_put hx hb hown hts w inX0 tyX0 tyX0_ok nmX0 0 1 rfl rfl (by decide) f_15 rfl rfl (ty := .int) rfl rfl rfl (Nat.le_of_ble_eq_true rfl) dX0_append_41 (fun H locs w => ?_)
    have w : zW D A s.heap s [(hbu, .inr (0, [.ref hs, .int (zI (((sOut S x) 77) + 1))])), (hs, .inl (D.2 0, 8, .inl (fSt (zu (sOut S x) (78 + zk (sOut S x)) x))))] H locs := w
    exact z_vret hx hb hr hlocks w dX0_append_44 (by unfold sBuC; first | (rw [if_pos (by omega)]; unfold sPut wBu; rw [fSt_zu77]; rfl) | (rw [if_neg (by omega)]; unfold sPut wBu; rw [fSt_zu77]; rfl))
  · skip
    have ho7 := sOut_7 hokb x (by omega)
    have ho8 := (OkB_out hokb2 (sOut S x 78)).1.1
    refine lv_aload_n hx hb dX0_append_14 rfl (lv_at hl 0 rfl) ?_
    refine lv_aload_n hx hb dX0_append_15 rfl (lv_at hl 0 rfl) ?_
    refine z_get hx hb hown hts w inX0 0 0 rfl rfl (by decide) f_9 rfl rfl dX0_append_16 ?_
    refine lv_iconst (v := zI 0) hx hb dX0_append_19 rfl ?_
    refine z_iald hx hb w 1 rfl 0 (by omega) (by decide) rfl (v := (zI ((sOut S x) 78))) (if_pos (by omega)) dX0_append_20 ?_
    refine z_V_v (As := [.int (zI ((sOut S x) 78))]) (rest := []) (Wr := []) ⟨hx, hb, hml, hown, hts⟩ (c_X0_takeOut l D hbu hs (sOut S x) hokb2 ((sOut S x) 78) (by omega)) (cwV 1 hts gX0_append_X0_takeOut rfl rfl rfl (by decide +kernel) ⟨Nat.le_of_ble_eq_true rfl, Nat.le_of_ble_eq_true rfl⟩) w (q0 := 0) rfl rfl rfl [0, 1] rfl (by decide) [] rfl (by decide) (by decide) rfl hl.1 rfl (lv_room (Nat.le_of_ble_eq_true rfl)) dX0_append_21 ⟨Nat.zero_le _, Nat.zero_le _⟩ (fun W1 H locs hp w => ?_)
    subst hp
    have w : zW D A s.heap s [(hbu, .inr (0, [.ref hs, .int (zI ((sOut (sOut S x) ((sOut S x) 78)) 77))])), (hs, .inl (D.2 0, 8, .inl (fSt (sOut (sOut S x) ((sOut S x) 78)))))] H locs := w.sub [0, 1] (by decide) rfl
    refine lv_aload_n hx hb dX0_append_24 rfl (lv_at hl 0 rfl) ?_
    refine z_get hx hb hown hts w inX0 0 0 rfl rfl (by decide) f_9 rfl rfl dX0_append_25 ?_
    refine lv_aload_n hx hb dX0_append_28 rfl (lv_at hl 0 rfl) ?_
    refine z_get hx hb hown hts w inX0 0 1 rfl rfl (by decide) f_15 rfl rfl dX0_append_29 ?_
    refine lv_iload_n hx hb dX0_append_32 rfl (lv_at hl 1 rfl) ?_
    have hzz := zk_eq (OkB_out hokb2 (sOut S x 78)).1
    refine z_iast hx hb w 1 rfl (zk (sOut (sOut S x) ((sOut S x) 78))) (by omega) (by decide) (zk_eq (OkB_out hokb2 _).1) dX0_append_33 (fSt (zu (sOut (sOut S x) ((sOut S x) 78)) (78 + zk (sOut (sOut S x) ((sOut S x) 78))) x)) (fun i hi => fSt_zu hi) (fun H locs w => ?_)
    have w : zW D A s.heap s [(hbu, .inr (0, [.ref hs, .int (zI ((sOut (sOut S x) ((sOut S x) 78)) 77))])), (hs, .inl (D.2 0, 8, .inl (fSt (zu (sOut (sOut S x) ((sOut S x) 78)) (78 + zk (sOut (sOut S x) ((sOut S x) 78))) x))))] H locs := w
    refine lv_aload_n hx hb dX0_append_34 rfl (lv_at hl 0 rfl) ?_
    refine lv_dup hx hb dX0_append_35 rfl ?_
    refine z_get hx hb hown hts w inX0 0 1 rfl rfl (by decide) f_15 rfl rfl dX0_append_36 ?_
    refine lv_iconst (v := zI 1) hx hb dX0_append_39 rfl ?_
    refine z_iadd hx hb dX0_append_40 ?_
    refine z_put hx hb hown hts w inX0 tyX0 tyX0_ok nmX0 0 1 rfl rfl (by decide) f_15 rfl rfl (ty := .int) rfl rfl rfl (Nat.le_of_ble_eq_true rfl) dX0_append_41 (fun H locs w => ?_)
    have w : zW D A s.heap s [(hbu, .inr (0, [.ref hs, .int (zI (((sOut (sOut S x) ((sOut S x) 78)) 77) + 1))])), (hs, .inl (D.2 0, 8, .inl (fSt (zu (sOut (sOut S x) ((sOut S x) 78)) (78 + zk (sOut (sOut S x) ((sOut S x) 78))) x))))] H locs := w
    exact z_vret hx hb hr hlocks w dX0_append_44 (by unfold sBuC; first | (rw [if_pos (by omega)]; unfold sPut wBu; rw [fSt_zu77]; rfl) | (rw [if_neg (by omega)]; unfold sPut wBu; rw [fSt_zu77]; rfl))
theorem c_floorDivP (l : Launch) (D : zD) (a b : Nat) (ha : a < 9223372036854775808) (hb0 : 0 < b) (hb1 : b < 9223372036854775808) : zM l yJ9_floorDiv_f86c9 wsJ9_floorDiv_f86c9 (zR 0) zE0 D [.long (zL ((a : Nat) : Int)), .long (zL ((b : Nat) : Int))] [] (zQl D (fun r W1 => (∃ v, r = zL v ∧ zBL v ∧ max 1 v = max 1 ((a : Int) / (b : Int))) ∧ W1 = [])) := by
  refine zM.ofF (cc := cJ9_floorDiv_f86c9) (maxL := 6) (ret := (some .long)) (by decide +kernel) rfl (Nat.le_of_ble_eq_true rfl) ?_
  intro p e s m below meth c A hx hb hml hown hts hr hlocks hE hnm w ls hl
  have hl : lv_has ls 6 [(0, .long (zL ((a : Nat) : Int))), (2, .long (zL ((b : Nat) : Int)))] := hl
  refine lv_lload_n hx hb dJ9_floorDiv_f86c9_0 rfl (lv_at hl 0 rfl) ?_
  refine lv_lload_n hx hb dJ9_floorDiv_f86c9_1 rfl (lv_at hl 1 rfl) ?_
  refine z_ldiv hx hb ⟨by omega, by omega, by omega⟩ dJ9_floorDiv_f86c9_2 ?_
  refine lv_lstore (lv' := [(4, .long (zL (Int.tdiv (a : Int) (b : Int)))), (0, .long (zL ((a : Nat) : Int))), (2, .long (zL ((b : Nat) : Int)))]) hx hb dJ9_floorDiv_f86c9_3 hl (by decide) rfl (fun ls hl => ?_)
  refine lv_lload_n hx hb dJ9_floorDiv_f86c9_5 rfl (lv_at hl 1 rfl) ?_
  refine lv_lload_n hx hb dJ9_floorDiv_f86c9_6 rfl (lv_at hl 2 rfl) ?_
  refine lv_lxor hx hb dJ9_floorDiv_f86c9_7 ?_
  rw [zxl_xor]
  refine lv_lconst (v := zL 0) hx hb dJ9_floorDiv_f86c9_8 rfl ?_
  have hq : a ^^^ b < 2 ^ 63 := Nat.xor_lt_two_pow (by omega) (by omega)
  have e1 : Int.tdiv (a : Int) (b : Int) = (a : Int) / (b : Int) := Int.tdiv_eq_ediv_of_nonneg (by omega)
  have e2 : (a : Int) / (b : Int) ≤ (a : Int) := Int.ediv_le_self _ (by omega)
  have e3 : 0 ≤ (a : Int) / (b : Int) := Int.ediv_nonneg (by omega) (by omega)
  refine z_lcmp_ge (tgt := 27) hx hb (by omega) (by omega) dJ9_floorDiv_f86c9_9 dJ9_floorDiv_f86c9_10 (by decide) (fun c9 => ?_) (fun c9 => ?_)
  · refine lv_lload hx hb dJ9_floorDiv_f86c9_27 (lv_at hl 0 rfl) ?_
    exact z_lret hx hb hr hlocks w dJ9_floorDiv_f86c9_29 ⟨⟨_, rfl, by rw [e1]; omega, by rw [e1]⟩, rfl⟩
  · exact absurd c9 (by omega)
theorem c_floorDivN (l : Launch) (D : zD) (a : Int) (b : Nat) (ha : zBL a) (ha2 : -9223372036854775808 < a) (ha0 : a < 0) (hb0 : 0 < b) (hb1 : b < 9223372036854775808) : zM l yJ9_floorDiv_f86c9 wsJ9_floorDiv_f86c9 (zR 0) zE0 D [.long (zL a), .long (zL ((b : Nat) : Int))] [] (zQl D (fun r W1 => (∃ v, r = zL v ∧ zBL v ∧ max 1 v = max 1 (a / (b : Int))) ∧ W1 = [])) := by
  refine zM.ofF (cc := cJ9_floorDiv_f86c9) (maxL := 6) (ret := (some .long)) (by decide +kernel) rfl (Nat.le_of_ble_eq_true rfl) ?_
  intro p e s m below meth c A hx hb hml hown hts hr hlocks hE hnm w ls hl
  have hl : lv_has ls 6 [(0, .long (zL a)), (2, .long (zL ((b : Nat) : Int)))] := hl
  have e4 : a / (b : Int) < 0 := Int.ediv_neg_of_neg_of_pos ha0 (by omega)
  have e56 : Int.tdiv a (b : Int) ≤ 0 ∧ a ≤ Int.tdiv a (b : Int) := by
    have h0 : 0 ≤ (-a) / (b : Int) := Int.ediv_nonneg (by omega) (by omega)
    have h1 : Int.tdiv a (b : Int) = -(Int.tdiv (-a) (b : Int)) := by rw [Int.neg_tdiv]; omega
    have h2 : Int.tdiv (-a) (b : Int) = (-a) / (b : Int) := Int.tdiv_eq_ediv_of_nonneg (by omega)
    have h3 : (-a) / (b : Int) ≤ -a := Int.ediv_le_self _ (by omega)
    omega
  obtain ⟨e5, e6⟩ := e56
  generalize hQ : Int.tdiv a (b : Int) = v at *
  refine lv_lload_n hx hb dJ9_floorDiv_f86c9_0 rfl (lv_at hl 0 rfl) ?_
  refine lv_lload_n hx hb dJ9_floorDiv_f86c9_1 rfl (lv_at hl 1 rfl) ?_
  refine z_ldiv hx hb ⟨ha, by omega, by omega⟩ dJ9_floorDiv_f86c9_2 ?_
  rw [hQ]
  refine lv_lstore (lv' := [(4, .long (zL v)), (0, .long (zL a)), (2, .long (zL ((b : Nat) : Int)))]) hx hb dJ9_floorDiv_f86c9_3 hl (by decide) rfl (fun ls hl => ?_)
  refine lv_lload_n hx hb dJ9_floorDiv_f86c9_5 rfl (lv_at hl 1 rfl) ?_
  refine lv_lload_n hx hb dJ9_floorDiv_f86c9_6 rfl (lv_at hl 2 rfl) ?_
  refine lv_lxor hx hb dJ9_floorDiv_f86c9_7 ?_
  refine lv_lconst (v := zL 0) hx hb dJ9_floorDiv_f86c9_8 rfl ?_
  refine W.lcmp hx hb dJ9_floorDiv_f86c9_9 ?_
  have fin : W p l e (zR 0) s m [Value.long (zL a), Value.long (zL ((b : Nat) : Int))].toArray below meth c s.heap [] 0 0 (MQ below (zQl D (fun r W1 => (∃ v, r = zL v ∧ zBL v ∧ max 1 v = max 1 (a / (b : Int))) ∧ W1 = []) A) [Value.long (zL a), Value.long (zL ((b : Nat) : Int))].toArray s 0 0 A) (F0 m 27 ls []) := by
    refine lv_lload hx hb dJ9_floorDiv_f86c9_27 (lv_at hl 0 rfl) ?_
    exact z_lret hx hb hr hlocks w dJ9_floorDiv_f86c9_29 ⟨⟨v, rfl, by omega, by omega⟩, rfl⟩
  refine lv_if_ge (tgt := 27) hx hb dJ9_floorDiv_f86c9_10 (by decide) (fun _ => fin) (fun _ => ?_)
  refine lv_lload hx hb dJ9_floorDiv_f86c9_13 (lv_at hl 0 rfl) ?_
  refine lv_lload_n hx hb dJ9_floorDiv_f86c9_15 rfl (lv_at hl 2 rfl) ?_
  refine z_lmul hx hb dJ9_floorDiv_f86c9_16 ?_
  refine lv_lload_n hx hb dJ9_floorDiv_f86c9_17 rfl (lv_at hl 1 rfl) ?_
  refine W.lcmp hx hb dJ9_floorDiv_f86c9_18 ?_
  refine lv_if_eq (tgt := 27) hx hb dJ9_floorDiv_f86c9_19 (by decide) (fun _ => fin) (fun _ => ?_)
  refine lv_lload hx hb dJ9_floorDiv_f86c9_22 (lv_at hl 0 rfl) ?_
  refine lv_lconst (v := zL 1) hx hb dJ9_floorDiv_f86c9_24 rfl ?_
  refine z_lsub hx hb dJ9_floorDiv_f86c9_25 ?_
  exact z_lret hx hb hr hlocks w dJ9_floorDiv_f86c9_26 ⟨⟨v - 1, rfl, by omega, by omega⟩, rfl⟩
theorem c_floorDiv (l : Launch) (D : zD) (a b : Int) (ha : zBL a) (ha2 : -9223372036854775808 < a) (hb0 : 0 < b) (hb1 : b < 9223372036854775808) : zM l yJ9_floorDiv_f86c9 wsJ9_floorDiv_f86c9 (zR 0) zE0 D [.long (zL a), .long (zL b)] [] (zQl D (fun r W1 => (∃ v, r = zL v ∧ zBL v ∧ max 1 v = max 1 (a / b)) ∧ W1 = [])) := by
  obtain ⟨b, rfl⟩ := Int.eq_ofNat_of_zero_le (Int.le_of_lt hb0)
  by_cases h : 0 ≤ a
  · obtain ⟨a, rfl⟩ := Int.eq_ofNat_of_zero_le h
    exact c_floorDivP l D a b (by omega) (by omega) (by omega)
  · exact c_floorDivN l D a b ha ha2 (by omega) (by omega) (by omega)
set_option maxHeartbeats 6000000 in
set_option maxRecDepth 100000 in
theorem c_X5_isSize (l : Launch) (D : zD) (a : Int) (ha : zB a) : zM l yX5_isSize wsX5_isSize (zR 1) zE0 D [.int (zI (a))] [] (zQi D (fun r W1 => r = zI (zb (0 ≤ a ∧ a ≤ 99)) ∧ W1 = [])) := by
  refine zM.of (cc := cX5_isSize) (maxL := 1) (ret := (some .boolean)) (by decide) rfl (Nat.le_of_ble_eq_true rfl) ?_
  intro p e s m below meth c A hx hb hml hown hts hr hlocks hE hnm w ls hl
  have hown : s.vm.findClass RX5 = some m.cls := hown
  have hl : lv_has ls 1 [(0, .int (zI (a)))] := hl
  refine lv_iload_n hx hb dX5_isSize_0 rfl (lv_at hl 0 rfl) ?_
  refine lv_iconst (v := zI 0) hx hb dX5_isSize_1 rfl ?_
  refine lv_bipush (v := zI 99) hx hb dX5_isSize_2 (by decide +kernel) ?_
  refine z_SN_i (As := [.int (zI (a)), .int (zI (0)), .int (zI (99))]) (rest := []) (Wr := []) ⟨hx, hb, hml, hown, hts⟩ (c_X6_within l D a 0 99 (by omega) (by omega) (by omega)) ⟨va_cnB 3 hts ggX5_isSize_X6_within rfl rfl rfl (w.1.2 (RX5, 68, yX6_within, "RelaxedSteps") (by decide +kernel)) (hts (.initialized RX6) (by decide +kernel)) (by decide +kernel) ⟨Nat.le_of_ble_eq_true rfl, Nat.le_of_ble_eq_true rfl⟩, hts (.static yX6_within) (by decide +kernel), trivial⟩ w [] rfl (by decide) [] rfl (by decide) (by decide) rfl hl.1 rfl (lv_room (Nat.le_of_ble_eq_true rfl)) dX5_isSize_4 ⟨Nat.zero_le _, Nat.zero_le _⟩ (fun r W1 H locs hp w => ?_)
  obtain ⟨rfl, rfl⟩ := hp
  exact z_zret hx hb hr hlocks w dX5_isSize_7 (zb_01 _) ⟨rfl, rfl⟩
set_option maxHeartbeats 6000000 in
set_option maxRecDepth 100000 in
theorem c_X5_hasSolution (l : Launch) (D : zD) (ho hp hbu hm hg : Nat) (ru sp so sw si al bb : Int) (hsw : zB sw) : zM l yX5_hasSolution wsX5_hasSolution (zR 0) zE0 D [.ref ho] [(ho, .inr (5, [.ref hp, .ref hbu, .ref hm, .ref hg, .int (zI (ru)), .int (zI (sp)), .int (zI (so)), .int (zI (sw)), .int (zI (si)), .int (zI (al)), .long (zL (bb))]))] (zQi D (fun r W1 => r = zI (zb (¬ sw = -6)) ∧ W1 = [(ho, .inr (5, [.ref hp, .ref hbu, .ref hm, .ref hg, .int (zI (ru)), .int (zI (sp)), .int (zI (so)), .int (zI (sw)), .int (zI (si)), .int (zI (al)), .long (zL (bb))]))])) := by
  refine zM.of (cc := cX5_hasSolution) (maxL := 1) (ret := (some .boolean)) (by decide) rfl (Nat.le_of_ble_eq_true rfl) ?_
  intro p e s m below meth c A hx hb hml hown hts hr hlocks hE hnm w ls hl
  have hown : s.vm.findClass RX5 = some m.cls := hown
  have hl : lv_has ls 1 [(0, .ref ho)] := hl
  have f_42 : (Cond.fieldLink RX5 42 "RelaxedSteps$State" "solutionWorth" "I").before _ s = true := hts _ (by decide +kernel)
  have inX5 : ∀ w ∈ u_ws RX5 TX5 11, w ∈ wsX5_hasSolution := by decide +kernel
  have w : zW D A s.heap s [(ho, .inr (5, [.ref hp, .ref hbu, .ref hm, .ref hg, .int (zI (ru)), .int (zI (sp)), .int (zI (so)), .int (zI (sw)), .int (zI (si)), .int (zI (al)), .long (zL (bb))]))] s.heap [] := w
  refine lv_aload_n hx hb dX5_hasSolution_0 rfl (lv_at hl 0 rfl) ?_
  refine z_get hx hb hown hts w inX5 0 7 rfl rfl (by decide) f_42 rfl rfl dX5_hasSolution_1 ?_
  refine lv_bipush (v := zI (-6)) hx hb dX5_hasSolution_4 (by decide +kernel) ?_
  refine z_icmp_eq (tgt := 13) hx hb (by omega) (by omega) dX5_hasSolution_6 (by decide) (fun c6 => ?_) (fun c6 => ?_)
  · skip
    refine lv_iconst (v := zI 0) hx hb dX5_hasSolution_13 rfl ?_
    exact z_zret hx hb hr hlocks w dX5_hasSolution_14 (by omega) ⟨by first | rw [zb_t c6] | rw [zb_f (fun q => q c6)], rfl⟩
  · skip
    refine lv_iconst (v := zI 1) hx hb dX5_hasSolution_9 rfl ?_
    refine lv_goto (tgt := 14) hx hb dX5_hasSolution_10 (by decide) ?_
    exact z_zret hx hb hr hlocks w dX5_hasSolution_14 (by omega) ⟨by first | rw [zb_t c6] | rw [zb_f (fun q => q c6)], rfl⟩
set_option maxHeartbeats 6000000 in
set_option maxRecDepth 100000 in
theorem c_X5_solutionHundredths (l : Launch) (D : zD) (ho hp hbu hm hg : Nat) (ru sp so sw si al bb : Int) (hsw : zB sw) : zM l yX5_solutionHundredths wsX5_solutionHundredths (zR 1) zE0 D [.ref ho] [(ho, .inr (5, [.ref hp, .ref hbu, .ref hm, .ref hg, .int (zI (ru)), .int (zI (sp)), .int (zI (so)), .int (zI (sw)), .int (zI (si)), .int (zI (al)), .long (zL (bb))]))] (zQi D (fun r W1 => r = zI (sHu sw) ∧ W1 = [(ho, .inr (5, [.ref hp, .ref hbu, .ref hm, .ref hg, .int (zI (ru)), .int (zI (sp)), .int (zI (so)), .int (zI (sw)), .int (zI (si)), .int (zI (al)), .long (zL (bb))]))])) := by
  refine zM.of (cc := cX5_solutionHundredths) (maxL := 1) (ret := (some .int)) (by decide) rfl (Nat.le_of_ble_eq_true rfl) ?_
  intro p e s m below meth c A hx hb hml hown hts hr hlocks hE hnm w ls hl
  have hown : s.vm.findClass RX5 = some m.cls := hown
  have hl : lv_has ls 1 [(0, .ref ho)] := hl
  have f_42 : (Cond.fieldLink RX5 42 "RelaxedSteps$State" "solutionWorth" "I").before _ s = true := hts _ (by decide +kernel)
  have inX5 : ∀ w ∈ u_ws RX5 TX5 11, w ∈ wsX5_solutionHundredths := by decide +kernel
  have w : zW D A s.heap s [(ho, .inr (5, [.ref hp, .ref hbu, .ref hm, .ref hg, .int (zI (ru)), .int (zI (sp)), .int (zI (so)), .int (zI (sw)), .int (zI (si)), .int (zI (al)), .long (zL (bb))]))] s.heap [] := w
  refine lv_aload_n hx hb dX5_solutionHundredths_0 rfl (lv_at hl 0 rfl) ?_
  refine z_V_i (As := []) (rest := []) (Wr := []) ⟨hx, hb, hml, hown, hts⟩ (c_X5_hasSolution l D ho hp hbu hm hg ru sp so sw si al bb (by omega)) (cwV 0 hts gX5_solutionHundredths_X5_hasSolution rfl rfl rfl (by decide +kernel) ⟨Nat.le_of_ble_eq_true rfl, Nat.le_of_ble_eq_true rfl⟩) w (q0 := 0) rfl rfl rfl [0] rfl (by decide) [] rfl (by decide) (by decide) rfl hl.1 rfl (lv_room (Nat.le_of_ble_eq_true rfl)) dX5_solutionHundredths_1 ⟨Nat.zero_le _, Nat.zero_le _⟩ (fun r W1 H locs hp w => ?_)
  obtain ⟨rfl, rfl⟩ := hp
  have w : zW D A s.heap s [(ho, .inr (5, [.ref hp, .ref hbu, .ref hm, .ref hg, .int (zI (ru)), .int (zI (sp)), .int (zI (so)), .int (zI (sw)), .int (zI (si)), .int (zI (al)), .long (zL (bb))]))] H locs := w.sub [0] (by decide) rfl
  refine z_if_eq_b (tgt := 17) hx hb dX5_solutionHundredths_4 (by decide) (fun c4 => ?_) (fun c4 => ?_)
  · skip
    refine lv_iconst (v := zI 0) hx hb dX5_solutionHundredths_17 rfl ?_
    exact z_iret hx hb hr hlocks w dX5_solutionHundredths_18 ⟨by unfold sHu; first | rw [if_neg c4] | rw [if_pos (Classical.not_not.mp c4)], rfl⟩
  · skip
    refine lv_bipush (v := zI 100) hx hb dX5_solutionHundredths_7 (by decide +kernel) ?_
    refine lv_aload_n hx hb dX5_solutionHundredths_9 rfl (lv_at hl 0 rfl) ?_
    refine z_get hx hb hown hts w inX5 0 7 rfl rfl (by decide) f_42 rfl rfl dX5_solutionHundredths_10 ?_
    refine z_imul hx hb dX5_solutionHundredths_13 ?_
    refine lv_goto (tgt := 18) hx hb dX5_solutionHundredths_14 (by decide) ?_
    exact z_iret hx hb hr hlocks w dX5_solutionHundredths_18 ⟨by unfold sHu; first | rw [if_neg c4] | rw [if_pos (Classical.not_not.mp c4)], rfl⟩
set_option maxHeartbeats 6000000 in
set_option maxRecDepth 100000 in
theorem c_X5_relaxedSet (l : Launch) (D : zD) (ho hm hp hw hz h0 h1 h2 hl0 hbu hg : Nat) (S M : Nat → Int) (ru sp so sw si al bb : Int) (hok : OkP S) (hokm : OkM M) : zM l yX5_relaxedSet wsX5_relaxedSet (zR 2) zE0 D [.ref ho] (wSp D ho hm [.ref hp, .ref hbu, .ref hm, .ref hg, .int (zI (ru)), .int (zI (sp)), .int (zI (so)), .int (zI (sw)), .int (zI (si)), .int (zI (al)), .long (zL (bb))] hp hw hz h0 h1 h2 hl0 S M) (zQi D (fun r W1 => r = zI ((sRel S M : Nat) : Int) ∧ W1 = (wSp D ho hm [.ref hp, .ref hbu, .ref hm, .ref hg, .int (zI (ru)), .int (zI (sp)), .int (zI (so)), .int (zI (sw)), .int (zI (si)), .int (zI (al)), .long (zL (bb))] hp hw hz h0 h1 h2 hl0 S M))) := by
  refine zM.of (cc := cX5_relaxedSet) (maxL := 1) (ret := (some .int)) (by decide) rfl (Nat.le_of_ble_eq_true rfl) ?_
  intro p e s m below meth c A hx hb hml hown hts hr hlocks hE hnm w ls hl
  have hown : s.vm.findClass RX5 = some m.cls := hown
  have hl : lv_has ls 1 [(0, .ref ho)] := hl
  have f_12 : (Cond.fieldLink RX5 12 "RelaxedSteps$State" "packing" "LRelaxedSteps$Packing;").before _ s = true := hts _ (by decide +kernel)
  have f_25 : (Cond.fieldLink RX5 25 "RelaxedSteps$State" "multipliers" "[I").before _ s = true := hts _ (by decide +kernel)
  have inX5 : ∀ w ∈ u_ws RX5 TX5 11, w ∈ wsX5_relaxedSet := by decide +kernel
  have hn := zn_eq hok
  have h16 := zn_le hok
  have hlim := hok.2.2
  have hokp := hok
  have w : zW D A s.heap s [(ho, .inr (5, [.ref hp, .ref hbu, .ref hm, .ref hg, .int (zI (ru)), .int (zI (sp)), .int (zI (so)), .int (zI (sw)), .int (zI (si)), .int (zI (al)), .long (zL (bb))])), (hm, .inl (D.2 0, 3, .inl (fMu M))), (hp, .inr (2, [.ref hw, .ref hz, .ref hl0, .int (zI (S 0))])), (hw, .inl (D.2 0, 16, .inl (fC S 0))), (hz, .inl (D.2 5, 3, .inr (.inr (.inr (.inr (f3 h0 h1 h2)))))), (h0, .inl (D.2 0, 16, .inl (fC S 1))), (h1, .inl (D.2 0, 16, .inl (fC S 2))), (h2, .inl (D.2 0, 16, .inl (fC S 3))), (hl0, .inl (D.2 0, 3, .inl (fLm S)))] s.heap [] := w
  refine lv_aload_n hx hb dX5_relaxedSet_0 rfl (lv_at hl 0 rfl) ?_
  refine z_get hx hb hown hts w inX5 0 0 rfl rfl (by decide) f_12 rfl rfl dX5_relaxedSet_1 ?_
  refine lv_aload_n hx hb dX5_relaxedSet_4 rfl (lv_at hl 0 rfl) ?_
  refine z_get hx hb hown hts w inX5 0 2 rfl rfl (by decide) f_25 rfl rfl dX5_relaxedSet_5 ?_
  refine z_V_i (As := [.ref hm]) (rest := []) (Wr := [(ho, .inr (5, [.ref hp, .ref hbu, .ref hm, .ref hg, .int (zI (ru)), .int (zI (sp)), .int (zI (so)), .int (zI (sw)), .int (zI (si)), .int (zI (al)), .long (zL (bb))]))]) ⟨hx, hb, hml, hown, hts⟩ (c_X2_relaxed l D hp hw hz h0 h1 h2 hl0 hm S M hokp hokm) (cwV 1 hts gX5_relaxedSet_X2_relaxed rfl rfl rfl (by decide +kernel) ⟨Nat.le_of_ble_eq_true rfl, Nat.le_of_ble_eq_true rfl⟩) w (q0 := 2) rfl rfl rfl [2, 3, 4, 5, 6, 7, 8, 1] rfl (by decide) [0] rfl (by decide) (by decide) rfl hl.1 rfl (lv_room (Nat.le_of_ble_eq_true rfl)) dX5_relaxedSet_8 ⟨Nat.zero_le _, Nat.zero_le _⟩ (fun r W1 H locs hp w => ?_)
  obtain ⟨rfl, rfl⟩ := hp
  have w : zW D A s.heap s [(ho, .inr (5, [.ref hp, .ref hbu, .ref hm, .ref hg, .int (zI (ru)), .int (zI (sp)), .int (zI (so)), .int (zI (sw)), .int (zI (si)), .int (zI (al)), .long (zL (bb))])), (hm, .inl (D.2 0, 3, .inl (fMu M))), (hp, .inr (2, [.ref hw, .ref hz, .ref hl0, .int (zI (S 0))])), (hw, .inl (D.2 0, 16, .inl (fC S 0))), (hz, .inl (D.2 5, 3, .inr (.inr (.inr (.inr (f3 h0 h1 h2)))))), (h0, .inl (D.2 0, 16, .inl (fC S 1))), (h1, .inl (D.2 0, 16, .inl (fC S 2))), (h2, .inl (D.2 0, 16, .inl (fC S 3))), (hl0, .inl (D.2 0, 3, .inl (fLm S)))] H locs := w.sub [0, 8, 1, 2, 3, 4, 5, 6, 7] (by decide) rfl
  exact z_iret hx hb hr hlocks w dX5_relaxedSet_11 ⟨rfl, rfl⟩
set_option maxHeartbeats 6000000 in
set_option maxRecDepth 100000 in
theorem c_X5_slope0 (l : Launch) (D : zD) (ho hm hp hw hz h0 h1 h2 hl0 hbu hg : Nat) (S M : Nat → Int) (ru sp so sw si al bb : Int) (hok : OkP S) (set : Nat) (hs1 : set < 2147483648) : zM l yX5_slope wsX5_slope (zR 2) zE0 D [.ref ho, .int (zI (0)), .int (zI (((set : Nat) : Int)))] (wSp D ho hm [.ref hp, .ref hbu, .ref hm, .ref hg, .int (zI (ru)), .int (zI (sp)), .int (zI (so)), .int (zI (sw)), .int (zI (si)), .int (zI (al)), .long (zL (bb))] hp hw hz h0 h1 h2 hl0 S M) (zQi D (fun r W1 => r = zI (sUse S set 1 - S 65) ∧ W1 = (wSp D ho hm [.ref hp, .ref hbu, .ref hm, .ref hg, .int (zI (ru)), .int (zI (sp)), .int (zI (so)), .int (zI (sw)), .int (zI (si)), .int (zI (al)), .long (zL (bb))] hp hw hz h0 h1 h2 hl0 S M))) := by
  refine zM.of (cc := cX5_slope) (maxL := 3) (ret := (some .int)) (by decide) rfl (Nat.le_of_ble_eq_true rfl) ?_
  intro p e s m below meth c A hx hb hml hown hts hr hlocks hE hnm w ls hl
  have hown : s.vm.findClass RX5 = some m.cls := hown
  have hl : lv_has ls 3 [(0, .ref ho), (1, .int (zI (0))), (2, .int (zI (((set : Nat) : Int))))] := hl
  have f_12 : (Cond.fieldLink RX5 12 "RelaxedSteps$State" "packing" "LRelaxedSteps$Packing;").before _ s = true := hts _ (by decide +kernel)
  have f_103 : (Cond.fieldLink RX5 103 "RelaxedSteps$Packing" "limits" "[I").before _ s = true := hts _ (by decide +kernel)
  have inX5 : ∀ w ∈ u_ws RX5 TX5 11, w ∈ wsX5_slope := by decide +kernel
  have inX2 : ∀ w ∈ u_ws RX2 TX2 4, w ∈ wsX5_slope := by decide +kernel
  have hn := zn_eq hok
  have h16 := zn_le hok
  have hlim := hok.2.2
  have hokp := hok
  have w : zW D A s.heap s [(ho, .inr (5, [.ref hp, .ref hbu, .ref hm, .ref hg, .int (zI (ru)), .int (zI (sp)), .int (zI (so)), .int (zI (sw)), .int (zI (si)), .int (zI (al)), .long (zL (bb))])), (hm, .inl (D.2 0, 3, .inl (fMu M))), (hp, .inr (2, [.ref hw, .ref hz, .ref hl0, .int (zI (S 0))])), (hw, .inl (D.2 0, 16, .inl (fC S 0))), (hz, .inl (D.2 5, 3, .inr (.inr (.inr (.inr (f3 h0 h1 h2)))))), (h0, .inl (D.2 0, 16, .inl (fC S 1))), (h1, .inl (D.2 0, 16, .inl (fC S 2))), (h2, .inl (D.2 0, 16, .inl (fC S 3))), (hl0, .inl (D.2 0, 3, .inl (fLm S)))] s.heap [] := w
  refine lv_aload_n hx hb dX5_slope_0 rfl (lv_at hl 0 rfl) ?_
  refine z_get hx hb hown hts w inX5 0 0 rfl rfl (by decide) f_12 rfl rfl dX5_slope_1 ?_
  refine lv_iload_n hx hb dX5_slope_4 rfl (lv_at hl 2 rfl) ?_
  refine lv_iload_n hx hb dX5_slope_5 rfl (lv_at hl 1 rfl) ?_
  refine z_V_i (As := [.int (zI (((set : Nat) : Int))), .int (zI (0))]) (rest := []) (Wr := [(ho, .inr (5, [.ref hp, .ref hbu, .ref hm, .ref hg, .int (zI (ru)), .int (zI (sp)), .int (zI (so)), .int (zI (sw)), .int (zI (si)), .int (zI (al)), .long (zL (bb))])), (hm, .inl (D.2 0, 3, .inl (fMu M)))]) ⟨hx, hb, hml, hown, hts⟩ (c_X2_use0 l D hp hw hz h0 h1 h2 hl0 S hokp set (by omega)) (cwV 2 hts gX5_slope_X2_use rfl rfl rfl (by decide +kernel) ⟨Nat.le_of_ble_eq_true rfl, Nat.le_of_ble_eq_true rfl⟩) w (q0 := 2) rfl rfl rfl [2, 3, 4, 5, 6, 7, 8] rfl (by decide) [0, 1] rfl (by decide) (by decide) rfl hl.1 rfl (lv_room (Nat.le_of_ble_eq_true rfl)) dX5_slope_6 ⟨Nat.zero_le _, Nat.zero_le _⟩ (fun r W1 H locs hp w => ?_)
  obtain ⟨rfl, rfl⟩ := hp
  have w : zW D A s.heap s [(ho, .inr (5, [.ref hp, .ref hbu, .ref hm, .ref hg, .int (zI (ru)), .int (zI (sp)), .int (zI (so)), .int (zI (sw)), .int (zI (si)), .int (zI (al)), .long (zL (bb))])), (hm, .inl (D.2 0, 3, .inl (fMu M))), (hp, .inr (2, [.ref hw, .ref hz, .ref hl0, .int (zI (S 0))])), (hw, .inl (D.2 0, 16, .inl (fC S 0))), (hz, .inl (D.2 5, 3, .inr (.inr (.inr (.inr (f3 h0 h1 h2)))))), (h0, .inl (D.2 0, 16, .inl (fC S 1))), (h1, .inl (D.2 0, 16, .inl (fC S 2))), (h2, .inl (D.2 0, 16, .inl (fC S 3))), (hl0, .inl (D.2 0, 3, .inl (fLm S)))] H locs := w.sub [0, 1, 2, 3, 4, 5, 6, 7, 8] (by decide) rfl
  refine lv_aload_n hx hb dX5_slope_9 rfl (lv_at hl 0 rfl) ?_
  refine z_get hx hb hown hts w inX5 0 0 rfl rfl (by decide) f_12 rfl rfl dX5_slope_10 ?_
  refine z_get hx hb hown hts w inX2 2 2 rfl rfl (by decide) f_103 rfl rfl dX5_slope_13 ?_
  refine lv_iload_n hx hb dX5_slope_16 rfl (lv_at hl 1 rfl) ?_
  refine z_iald hx hb w 8 rfl 0 (by omega) (by decide) rfl (v := (zI (S 65))) (if_pos (by omega)) dX5_slope_17 ?_
  refine z_isub hx hb dX5_slope_18 ?_
  exact z_iret hx hb hr hlocks w dX5_slope_19 ⟨rfl, rfl⟩
set_option maxHeartbeats 6000000 in
set_option maxRecDepth 100000 in
theorem c_X5_slope1 (l : Launch) (D : zD) (ho hm hp hw hz h0 h1 h2 hl0 hbu hg : Nat) (S M : Nat → Int) (ru sp so sw si al bb : Int) (hok : OkP S) (set : Nat) (hs1 : set < 2147483648) : zM l yX5_slope wsX5_slope (zR 2) zE0 D [.ref ho, .int (zI (1)), .int (zI (((set : Nat) : Int)))] (wSp D ho hm [.ref hp, .ref hbu, .ref hm, .ref hg, .int (zI (ru)), .int (zI (sp)), .int (zI (so)), .int (zI (sw)), .int (zI (si)), .int (zI (al)), .long (zL (bb))] hp hw hz h0 h1 h2 hl0 S M) (zQi D (fun r W1 => r = zI (sUse S set 2 - S 66) ∧ W1 = (wSp D ho hm [.ref hp, .ref hbu, .ref hm, .ref hg, .int (zI (ru)), .int (zI (sp)), .int (zI (so)), .int (zI (sw)), .int (zI (si)), .int (zI (al)), .long (zL (bb))] hp hw hz h0 h1 h2 hl0 S M))) := by
  refine zM.of (cc := cX5_slope) (maxL := 3) (ret := (some .int)) (by decide) rfl (Nat.le_of_ble_eq_true rfl) ?_
  intro p e s m below meth c A hx hb hml hown hts hr hlocks hE hnm w ls hl
  have hown : s.vm.findClass RX5 = some m.cls := hown
  have hl : lv_has ls 3 [(0, .ref ho), (1, .int (zI (1))), (2, .int (zI (((set : Nat) : Int))))] := hl
  have f_12 : (Cond.fieldLink RX5 12 "RelaxedSteps$State" "packing" "LRelaxedSteps$Packing;").before _ s = true := hts _ (by decide +kernel)
  have f_103 : (Cond.fieldLink RX5 103 "RelaxedSteps$Packing" "limits" "[I").before _ s = true := hts _ (by decide +kernel)
  have inX5 : ∀ w ∈ u_ws RX5 TX5 11, w ∈ wsX5_slope := by decide +kernel
  have inX2 : ∀ w ∈ u_ws RX2 TX2 4, w ∈ wsX5_slope := by decide +kernel
  have hn := zn_eq hok
  have h16 := zn_le hok
  have hlim := hok.2.2
  have hokp := hok
  have w : zW D A s.heap s [(ho, .inr (5, [.ref hp, .ref hbu, .ref hm, .ref hg, .int (zI (ru)), .int (zI (sp)), .int (zI (so)), .int (zI (sw)), .int (zI (si)), .int (zI (al)), .long (zL (bb))])), (hm, .inl (D.2 0, 3, .inl (fMu M))), (hp, .inr (2, [.ref hw, .ref hz, .ref hl0, .int (zI (S 0))])), (hw, .inl (D.2 0, 16, .inl (fC S 0))), (hz, .inl (D.2 5, 3, .inr (.inr (.inr (.inr (f3 h0 h1 h2)))))), (h0, .inl (D.2 0, 16, .inl (fC S 1))), (h1, .inl (D.2 0, 16, .inl (fC S 2))), (h2, .inl (D.2 0, 16, .inl (fC S 3))), (hl0, .inl (D.2 0, 3, .inl (fLm S)))] s.heap [] := w
  refine lv_aload_n hx hb dX5_slope_0 rfl (lv_at hl 0 rfl) ?_
  refine z_get hx hb hown hts w inX5 0 0 rfl rfl (by decide) f_12 rfl rfl dX5_slope_1 ?_
  refine lv_iload_n hx hb dX5_slope_4 rfl (lv_at hl 2 rfl) ?_
  refine lv_iload_n hx hb dX5_slope_5 rfl (lv_at hl 1 rfl) ?_
  refine z_V_i (As := [.int (zI (((set : Nat) : Int))), .int (zI (1))]) (rest := []) (Wr := [(ho, .inr (5, [.ref hp, .ref hbu, .ref hm, .ref hg, .int (zI (ru)), .int (zI (sp)), .int (zI (so)), .int (zI (sw)), .int (zI (si)), .int (zI (al)), .long (zL (bb))])), (hm, .inl (D.2 0, 3, .inl (fMu M)))]) ⟨hx, hb, hml, hown, hts⟩ (c_X2_use1 l D hp hw hz h0 h1 h2 hl0 S hokp set (by omega)) (cwV 2 hts gX5_slope_X2_use rfl rfl rfl (by decide +kernel) ⟨Nat.le_of_ble_eq_true rfl, Nat.le_of_ble_eq_true rfl⟩) w (q0 := 2) rfl rfl rfl [2, 3, 4, 5, 6, 7, 8] rfl (by decide) [0, 1] rfl (by decide) (by decide) rfl hl.1 rfl (lv_room (Nat.le_of_ble_eq_true rfl)) dX5_slope_6 ⟨Nat.zero_le _, Nat.zero_le _⟩ (fun r W1 H locs hp w => ?_)
  obtain ⟨rfl, rfl⟩ := hp
  have w : zW D A s.heap s [(ho, .inr (5, [.ref hp, .ref hbu, .ref hm, .ref hg, .int (zI (ru)), .int (zI (sp)), .int (zI (so)), .int (zI (sw)), .int (zI (si)), .int (zI (al)), .long (zL (bb))])), (hm, .inl (D.2 0, 3, .inl (fMu M))), (hp, .inr (2, [.ref hw, .ref hz, .ref hl0, .int (zI (S 0))])), (hw, .inl (D.2 0, 16, .inl (fC S 0))), (hz, .inl (D.2 5, 3, .inr (.inr (.inr (.inr (f3 h0 h1 h2)))))), (h0, .inl (D.2 0, 16, .inl (fC S 1))), (h1, .inl (D.2 0, 16, .inl (fC S 2))), (h2, .inl (D.2 0, 16, .inl (fC S 3))), (hl0, .inl (D.2 0, 3, .inl (fLm S)))] H locs := w.sub [0, 1, 2, 3, 4, 5, 6, 7, 8] (by decide) rfl
  refine lv_aload_n hx hb dX5_slope_9 rfl (lv_at hl 0 rfl) ?_
  refine z_get hx hb hown hts w inX5 0 0 rfl rfl (by decide) f_12 rfl rfl dX5_slope_10 ?_
  refine z_get hx hb hown hts w inX2 2 2 rfl rfl (by decide) f_103 rfl rfl dX5_slope_13 ?_
  refine lv_iload_n hx hb dX5_slope_16 rfl (lv_at hl 1 rfl) ?_
  refine z_iald hx hb w 8 rfl 1 (by omega) (by decide) rfl (v := (zI (S 66))) (if_pos (by omega)) dX5_slope_17 ?_
  refine z_isub hx hb dX5_slope_18 ?_
  exact z_iret hx hb hr hlocks w dX5_slope_19 ⟨rfl, rfl⟩
set_option maxHeartbeats 6000000 in
set_option maxRecDepth 100000 in
theorem c_X5_slope2 (l : Launch) (D : zD) (ho hm hp hw hz h0 h1 h2 hl0 hbu hg : Nat) (S M : Nat → Int) (ru sp so sw si al bb : Int) (hok : OkP S) (set : Nat) (hs1 : set < 2147483648) : zM l yX5_slope wsX5_slope (zR 2) zE0 D [.ref ho, .int (zI (2)), .int (zI (((set : Nat) : Int)))] (wSp D ho hm [.ref hp, .ref hbu, .ref hm, .ref hg, .int (zI (ru)), .int (zI (sp)), .int (zI (so)), .int (zI (sw)), .int (zI (si)), .int (zI (al)), .long (zL (bb))] hp hw hz h0 h1 h2 hl0 S M) (zQi D (fun r W1 => r = zI (sUse S set 3 - S 67) ∧ W1 = (wSp D ho hm [.ref hp, .ref hbu, .ref hm, .ref hg, .int (zI (ru)), .int (zI (sp)), .int (zI (so)), .int (zI (sw)), .int (zI (si)), .int (zI (al)), .long (zL (bb))] hp hw hz h0 h1 h2 hl0 S M))) := by
  refine zM.of (cc := cX5_slope) (maxL := 3) (ret := (some .int)) (by decide) rfl (Nat.le_of_ble_eq_true rfl) ?_
  intro p e s m below meth c A hx hb hml hown hts hr hlocks hE hnm w ls hl
  have hown : s.vm.findClass RX5 = some m.cls := hown
  have hl : lv_has ls 3 [(0, .ref ho), (1, .int (zI (2))), (2, .int (zI (((set : Nat) : Int))))] := hl
  have f_12 : (Cond.fieldLink RX5 12 "RelaxedSteps$State" "packing" "LRelaxedSteps$Packing;").before _ s = true := hts _ (by decide +kernel)
  have f_103 : (Cond.fieldLink RX5 103 "RelaxedSteps$Packing" "limits" "[I").before _ s = true := hts _ (by decide +kernel)
  have inX5 : ∀ w ∈ u_ws RX5 TX5 11, w ∈ wsX5_slope := by decide +kernel
  have inX2 : ∀ w ∈ u_ws RX2 TX2 4, w ∈ wsX5_slope := by decide +kernel
  have hn := zn_eq hok
  have h16 := zn_le hok
  have hlim := hok.2.2
  have hokp := hok
  have w : zW D A s.heap s [(ho, .inr (5, [.ref hp, .ref hbu, .ref hm, .ref hg, .int (zI (ru)), .int (zI (sp)), .int (zI (so)), .int (zI (sw)), .int (zI (si)), .int (zI (al)), .long (zL (bb))])), (hm, .inl (D.2 0, 3, .inl (fMu M))), (hp, .inr (2, [.ref hw, .ref hz, .ref hl0, .int (zI (S 0))])), (hw, .inl (D.2 0, 16, .inl (fC S 0))), (hz, .inl (D.2 5, 3, .inr (.inr (.inr (.inr (f3 h0 h1 h2)))))), (h0, .inl (D.2 0, 16, .inl (fC S 1))), (h1, .inl (D.2 0, 16, .inl (fC S 2))), (h2, .inl (D.2 0, 16, .inl (fC S 3))), (hl0, .inl (D.2 0, 3, .inl (fLm S)))] s.heap [] := w
  refine lv_aload_n hx hb dX5_slope_0 rfl (lv_at hl 0 rfl) ?_
  refine z_get hx hb hown hts w inX5 0 0 rfl rfl (by decide) f_12 rfl rfl dX5_slope_1 ?_
  refine lv_iload_n hx hb dX5_slope_4 rfl (lv_at hl 2 rfl) ?_
  refine lv_iload_n hx hb dX5_slope_5 rfl (lv_at hl 1 rfl) ?_
  refine z_V_i (As := [.int (zI (((set : Nat) : Int))), .int (zI (2))]) (rest := []) (Wr := [(ho, .inr (5, [.ref hp, .ref hbu, .ref hm, .ref hg, .int (zI (ru)), .int (zI (sp)), .int (zI (so)), .int (zI (sw)), .int (zI (si)), .int (zI (al)), .long (zL (bb))])), (hm, .inl (D.2 0, 3, .inl (fMu M)))]) ⟨hx, hb, hml, hown, hts⟩ (c_X2_use2 l D hp hw hz h0 h1 h2 hl0 S hokp set (by omega)) (cwV 2 hts gX5_slope_X2_use rfl rfl rfl (by decide +kernel) ⟨Nat.le_of_ble_eq_true rfl, Nat.le_of_ble_eq_true rfl⟩) w (q0 := 2) rfl rfl rfl [2, 3, 4, 5, 6, 7, 8] rfl (by decide) [0, 1] rfl (by decide) (by decide) rfl hl.1 rfl (lv_room (Nat.le_of_ble_eq_true rfl)) dX5_slope_6 ⟨Nat.zero_le _, Nat.zero_le _⟩ (fun r W1 H locs hp w => ?_)
  obtain ⟨rfl, rfl⟩ := hp
  have w : zW D A s.heap s [(ho, .inr (5, [.ref hp, .ref hbu, .ref hm, .ref hg, .int (zI (ru)), .int (zI (sp)), .int (zI (so)), .int (zI (sw)), .int (zI (si)), .int (zI (al)), .long (zL (bb))])), (hm, .inl (D.2 0, 3, .inl (fMu M))), (hp, .inr (2, [.ref hw, .ref hz, .ref hl0, .int (zI (S 0))])), (hw, .inl (D.2 0, 16, .inl (fC S 0))), (hz, .inl (D.2 5, 3, .inr (.inr (.inr (.inr (f3 h0 h1 h2)))))), (h0, .inl (D.2 0, 16, .inl (fC S 1))), (h1, .inl (D.2 0, 16, .inl (fC S 2))), (h2, .inl (D.2 0, 16, .inl (fC S 3))), (hl0, .inl (D.2 0, 3, .inl (fLm S)))] H locs := w.sub [0, 1, 2, 3, 4, 5, 6, 7, 8] (by decide) rfl
  refine lv_aload_n hx hb dX5_slope_9 rfl (lv_at hl 0 rfl) ?_
  refine z_get hx hb hown hts w inX5 0 0 rfl rfl (by decide) f_12 rfl rfl dX5_slope_10 ?_
  refine z_get hx hb hown hts w inX2 2 2 rfl rfl (by decide) f_103 rfl rfl dX5_slope_13 ?_
  refine lv_iload_n hx hb dX5_slope_16 rfl (lv_at hl 1 rfl) ?_
  refine z_iald hx hb w 8 rfl 2 (by omega) (by decide) rfl (v := (zI (S 67))) (if_pos (by omega)) dX5_slope_17 ?_
  refine z_isub hx hb dX5_slope_18 ?_
  exact z_iret hx hb hr hlocks w dX5_slope_19 ⟨rfl, rfl⟩
set_option maxHeartbeats 6000000 in
set_option maxRecDepth 100000 in
theorem c_X5_forget (l : Launch) (D : zD) (ho hm hp hw hz h0 h1 h2 hl0 hbu hg : Nat) (S M : Nat → Int) (ru sp so sw si al bb : Int) (hok : OkP S) (hokm : OkM M) : zM l yX5_forget wsX5_forget (zR 2) zE0 D [.ref ho] (wSp D ho hm [.ref hp, .ref hbu, .ref hm, .ref hg, .int (zI (ru)), .int (zI (sp)), .int (zI (so)), .int (zI (sw)), .int (zI (si)), .int (zI (al)), .long (zL (bb))] hp hw hz h0 h1 h2 hl0 S M) (zQv D (fun W1 => W1 = (wSp D ho hm [.ref hp, .ref hbu, .ref hm, .ref hg, .int (zI (ru)), .int (zI (sp)), .int (zI (0)), .int (zI (-6)), .int (zI (0)), .int (zI (al)), .long (zL (sBd S M))] hp hw hz h0 h1 h2 hl0 S M))) := by
  refine zM.of (cc := cX5_forget) (maxL := 1) (ret := none) (by decide) rfl (Nat.le_of_ble_eq_true rfl) ?_
  intro p e s m below meth c A hx hb hml hown hts hr hlocks hE hnm w ls hl
  have hown : s.vm.findClass RX5 = some m.cls := hown
  have hl : lv_has ls 1 [(0, .ref ho)] := hl
  have f_39 : (Cond.fieldLink RX5 39 "RelaxedSteps$State" "solution" "I").before _ s = true := hts _ (by decide +kernel)
  have f_42 : (Cond.fieldLink RX5 42 "RelaxedSteps$State" "solutionWorth" "I").before _ s = true := hts _ (by decide +kernel)
  have f_45 : (Cond.fieldLink RX5 45 "RelaxedSteps$State" "stepsSince" "I").before _ s = true := hts _ (by decide +kernel)
  have f_12 : (Cond.fieldLink RX5 12 "RelaxedSteps$State" "packing" "LRelaxedSteps$Packing;").before _ s = true := hts _ (by decide +kernel)
  have f_25 : (Cond.fieldLink RX5 25 "RelaxedSteps$State" "multipliers" "[I").before _ s = true := hts _ (by decide +kernel)
  have f_51 : (Cond.fieldLink RX5 51 "RelaxedSteps$State" "bestBound" "J").before _ s = true := hts _ (by decide +kernel)
  have inX5 : ∀ w ∈ u_ws RX5 TX5 11, w ∈ wsX5_forget := by decide +kernel
  have hn := zn_eq hok
  have h16 := zn_le hok
  have hlim := hok.2.2
  have hokp := hok
  have w : zW D A s.heap s [(ho, .inr (5, [.ref hp, .ref hbu, .ref hm, .ref hg, .int (zI (ru)), .int (zI (sp)), .int (zI (so)), .int (zI (sw)), .int (zI (si)), .int (zI (al)), .long (zL (bb))])), (hm, .inl (D.2 0, 3, .inl (fMu M))), (hp, .inr (2, [.ref hw, .ref hz, .ref hl0, .int (zI (S 0))])), (hw, .inl (D.2 0, 16, .inl (fC S 0))), (hz, .inl (D.2 5, 3, .inr (.inr (.inr (.inr (f3 h0 h1 h2)))))), (h0, .inl (D.2 0, 16, .inl (fC S 1))), (h1, .inl (D.2 0, 16, .inl (fC S 2))), (h2, .inl (D.2 0, 16, .inl (fC S 3))), (hl0, .inl (D.2 0, 3, .inl (fLm S)))] s.heap [] := w
  refine lv_aload_n hx hb dX5_forget_0 rfl (lv_at hl 0 rfl) ?_
  refine lv_iconst (v := zI 0) hx hb dX5_forget_1 rfl ?_
  refine z_put hx hb hown hts w inX5 tyX5 tyX5_ok nmX5 0 6 rfl rfl (by decide) f_39 rfl rfl (ty := .int) rfl rfl rfl (Nat.le_of_ble_eq_true rfl) dX5_forget_2 (fun H locs w => ?_)
  have w : zW D A s.heap s [(ho, .inr (5, [.ref hp, .ref hbu, .ref hm, .ref hg, .int (zI (ru)), .int (zI (sp)), .int (zI (0)), .int (zI (sw)), .int (zI (si)), .int (zI (al)), .long (zL (bb))])), (hm, .inl (D.2 0, 3, .inl (fMu M))), (hp, .inr (2, [.ref hw, .ref hz, .ref hl0, .int (zI (S 0))])), (hw, .inl (D.2 0, 16, .inl (fC S 0))), (hz, .inl (D.2 5, 3, .inr (.inr (.inr (.inr (f3 h0 h1 h2)))))), (h0, .inl (D.2 0, 16, .inl (fC S 1))), (h1, .inl (D.2 0, 16, .inl (fC S 2))), (h2, .inl (D.2 0, 16, .inl (fC S 3))), (hl0, .inl (D.2 0, 3, .inl (fLm S)))] H locs := w
  refine lv_aload_n hx hb dX5_forget_5 rfl (lv_at hl 0 rfl) ?_
  refine lv_bipush (v := zI (-6)) hx hb dX5_forget_6 (by decide +kernel) ?_
  refine z_put hx hb hown hts w inX5 tyX5 tyX5_ok nmX5 0 7 rfl rfl (by decide) f_42 rfl rfl (ty := .int) rfl rfl rfl (Nat.le_of_ble_eq_true rfl) dX5_forget_8 (fun H locs w => ?_)
  have w : zW D A s.heap s [(ho, .inr (5, [.ref hp, .ref hbu, .ref hm, .ref hg, .int (zI (ru)), .int (zI (sp)), .int (zI (0)), .int (zI ((-6))), .int (zI (si)), .int (zI (al)), .long (zL (bb))])), (hm, .inl (D.2 0, 3, .inl (fMu M))), (hp, .inr (2, [.ref hw, .ref hz, .ref hl0, .int (zI (S 0))])), (hw, .inl (D.2 0, 16, .inl (fC S 0))), (hz, .inl (D.2 5, 3, .inr (.inr (.inr (.inr (f3 h0 h1 h2)))))), (h0, .inl (D.2 0, 16, .inl (fC S 1))), (h1, .inl (D.2 0, 16, .inl (fC S 2))), (h2, .inl (D.2 0, 16, .inl (fC S 3))), (hl0, .inl (D.2 0, 3, .inl (fLm S)))] H locs := w
  refine lv_aload_n hx hb dX5_forget_11 rfl (lv_at hl 0 rfl) ?_
  refine lv_iconst (v := zI 0) hx hb dX5_forget_12 rfl ?_
  refine z_put hx hb hown hts w inX5 tyX5 tyX5_ok nmX5 0 8 rfl rfl (by decide) f_45 rfl rfl (ty := .int) rfl rfl rfl (Nat.le_of_ble_eq_true rfl) dX5_forget_13 (fun H locs w => ?_)
  have w : zW D A s.heap s [(ho, .inr (5, [.ref hp, .ref hbu, .ref hm, .ref hg, .int (zI (ru)), .int (zI (sp)), .int (zI (0)), .int (zI ((-6))), .int (zI (0)), .int (zI (al)), .long (zL (bb))])), (hm, .inl (D.2 0, 3, .inl (fMu M))), (hp, .inr (2, [.ref hw, .ref hz, .ref hl0, .int (zI (S 0))])), (hw, .inl (D.2 0, 16, .inl (fC S 0))), (hz, .inl (D.2 5, 3, .inr (.inr (.inr (.inr (f3 h0 h1 h2)))))), (h0, .inl (D.2 0, 16, .inl (fC S 1))), (h1, .inl (D.2 0, 16, .inl (fC S 2))), (h2, .inl (D.2 0, 16, .inl (fC S 3))), (hl0, .inl (D.2 0, 3, .inl (fLm S)))] H locs := w
  refine lv_aload_n hx hb dX5_forget_16 rfl (lv_at hl 0 rfl) ?_
  refine lv_aload_n hx hb dX5_forget_17 rfl (lv_at hl 0 rfl) ?_
  refine z_get hx hb hown hts w inX5 0 0 rfl rfl (by decide) f_12 rfl rfl dX5_forget_18 ?_
  refine lv_aload_n hx hb dX5_forget_21 rfl (lv_at hl 0 rfl) ?_
  refine z_get hx hb hown hts w inX5 0 2 rfl rfl (by decide) f_25 rfl rfl dX5_forget_22 ?_
  refine z_V_l (As := [.ref hm]) (rest := [.ref ho]) (Wr := [(ho, .inr (5, [.ref hp, .ref hbu, .ref hm, .ref hg, .int (zI (ru)), .int (zI (sp)), .int (zI (0)), .int (zI ((-6))), .int (zI (0)), .int (zI (al)), .long (zL (bb))]))]) ⟨hx, hb, hml, hown, hts⟩ (c_X2_boundAt l D hp hw hz h0 h1 h2 hl0 hm S M hokp hokm) (cwV 1 hts gX5_forget_X2_boundAt rfl rfl rfl (by decide +kernel) ⟨Nat.le_of_ble_eq_true rfl, Nat.le_of_ble_eq_true rfl⟩) w (q0 := 2) rfl rfl rfl [2, 3, 4, 5, 6, 7, 8, 1] rfl (by decide) [0] rfl (by decide) (by decide) rfl hl.1 rfl (lv_room (Nat.le_of_ble_eq_true rfl)) dX5_forget_25 ⟨Nat.zero_le _, Nat.zero_le _⟩ (fun r W1 H locs hp w => ?_)
  obtain ⟨rfl, rfl⟩ := hp
  have w : zW D A s.heap s [(ho, .inr (5, [.ref hp, .ref hbu, .ref hm, .ref hg, .int (zI (ru)), .int (zI (sp)), .int (zI (0)), .int (zI ((-6))), .int (zI (0)), .int (zI (al)), .long (zL (bb))])), (hm, .inl (D.2 0, 3, .inl (fMu M))), (hp, .inr (2, [.ref hw, .ref hz, .ref hl0, .int (zI (S 0))])), (hw, .inl (D.2 0, 16, .inl (fC S 0))), (hz, .inl (D.2 5, 3, .inr (.inr (.inr (.inr (f3 h0 h1 h2)))))), (h0, .inl (D.2 0, 16, .inl (fC S 1))), (h1, .inl (D.2 0, 16, .inl (fC S 2))), (h2, .inl (D.2 0, 16, .inl (fC S 3))), (hl0, .inl (D.2 0, 3, .inl (fLm S)))] H locs := w.sub [0, 8, 1, 2, 3, 4, 5, 6, 7] (by decide) rfl
  refine z_put hx hb hown hts w inX5 tyX5 tyX5_ok nmX5 0 10 rfl rfl (by decide) f_51 rfl rfl (ty := .long) rfl rfl rfl (Nat.le_of_ble_eq_true rfl) dX5_forget_28 (fun H locs w => ?_)
  have w : zW D A s.heap s [(ho, .inr (5, [.ref hp, .ref hbu, .ref hm, .ref hg, .int (zI (ru)), .int (zI (sp)), .int (zI (0)), .int (zI ((-6))), .int (zI (0)), .int (zI (al)), .long (zL (sBd S M))])), (hm, .inl (D.2 0, 3, .inl (fMu M))), (hp, .inr (2, [.ref hw, .ref hz, .ref hl0, .int (zI (S 0))])), (hw, .inl (D.2 0, 16, .inl (fC S 0))), (hz, .inl (D.2 5, 3, .inr (.inr (.inr (.inr (f3 h0 h1 h2)))))), (h0, .inl (D.2 0, 16, .inl (fC S 1))), (h1, .inl (D.2 0, 16, .inl (fC S 2))), (h2, .inl (D.2 0, 16, .inl (fC S 3))), (hl0, .inl (D.2 0, 3, .inl (fLm S)))] H locs := w
  exact z_vret hx hb hr hlocks w dX5_forget_31 rfl
set_option maxHeartbeats 6000000 in
set_option maxRecDepth 100000 in
theorem c_X5_lowerBestBound (l : Launch) (D : zD) (ho hm hp hw hz h0 h1 h2 hl0 hbu hg : Nat) (S M : Nat → Int) (ru sp so sw si al bb : Int) (hok : OkP S) (hokm : OkM M) (hbb : zBL bb) : zM l yX5_lowerBestBound wsX5_lowerBestBound (zR 2) zE0 D [.ref ho] (wSp D ho hm [.ref hp, .ref hbu, .ref hm, .ref hg, .int (zI (ru)), .int (zI (sp)), .int (zI (so)), .int (zI (sw)), .int (zI (si)), .int (zI (al)), .long (zL (bb))] hp hw hz h0 h1 h2 hl0 S M) (zQi D (fun r W1 => r = zI (zb (sBd S M < bb)) ∧ W1 = (wSp D ho hm [.ref hp, .ref hbu, .ref hm, .ref hg, .int (zI (ru)), .int (zI (sp)), .int (zI (so)), .int (zI (sw)), .int (zI (si)), .int (zI (al)), .long (zL (if sBd S M < bb then sBd S M else bb))] hp hw hz h0 h1 h2 hl0 S M))) := by
  refine zM.of (cc := cX5_lowerBestBound) (maxL := 4) (ret := (some .boolean)) (by decide) rfl (Nat.le_of_ble_eq_true rfl) ?_
  intro p e s m below meth c A hx hb hml hown hts hr hlocks hE hnm w ls hl
  have hown : s.vm.findClass RX5 = some m.cls := hown
  have hl : lv_has ls 4 [(0, .ref ho)] := hl
  have f_12 : (Cond.fieldLink RX5 12 "RelaxedSteps$State" "packing" "LRelaxedSteps$Packing;").before _ s = true := hts _ (by decide +kernel)
  have f_25 : (Cond.fieldLink RX5 25 "RelaxedSteps$State" "multipliers" "[I").before _ s = true := hts _ (by decide +kernel)
  have f_51 : (Cond.fieldLink RX5 51 "RelaxedSteps$State" "bestBound" "J").before _ s = true := hts _ (by decide +kernel)
  have inX5 : ∀ w ∈ u_ws RX5 TX5 11, w ∈ wsX5_lowerBestBound := by decide +kernel
  have hn := zn_eq hok
  have h16 := zn_le hok
  have hlim := hok.2.2
  have hokp := hok
  have hbd := sBd_b hok hokm
  have w : zW D A s.heap s [(ho, .inr (5, [.ref hp, .ref hbu, .ref hm, .ref hg, .int (zI (ru)), .int (zI (sp)), .int (zI (so)), .int (zI (sw)), .int (zI (si)), .int (zI (al)), .long (zL (bb))])), (hm, .inl (D.2 0, 3, .inl (fMu M))), (hp, .inr (2, [.ref hw, .ref hz, .ref hl0, .int (zI (S 0))])), (hw, .inl (D.2 0, 16, .inl (fC S 0))), (hz, .inl (D.2 5, 3, .inr (.inr (.inr (.inr (f3 h0 h1 h2)))))), (h0, .inl (D.2 0, 16, .inl (fC S 1))), (h1, .inl (D.2 0, 16, .inl (fC S 2))), (h2, .inl (D.2 0, 16, .inl (fC S 3))), (hl0, .inl (D.2 0, 3, .inl (fLm S)))] s.heap [] := w
  refine lv_aload_n hx hb dX5_lowerBestBound_0 rfl (lv_at hl 0 rfl) ?_
  refine z_get hx hb hown hts w inX5 0 0 rfl rfl (by decide) f_12 rfl rfl dX5_lowerBestBound_1 ?_
  refine lv_aload_n hx hb dX5_lowerBestBound_4 rfl (lv_at hl 0 rfl) ?_
  refine z_get hx hb hown hts w inX5 0 2 rfl rfl (by decide) f_25 rfl rfl dX5_lowerBestBound_5 ?_
  refine z_V_l (As := [.ref hm]) (rest := []) (Wr := [(ho, .inr (5, [.ref hp, .ref hbu, .ref hm, .ref hg, .int (zI (ru)), .int (zI (sp)), .int (zI (so)), .int (zI (sw)), .int (zI (si)), .int (zI (al)), .long (zL (bb))]))]) ⟨hx, hb, hml, hown, hts⟩ (c_X2_boundAt l D hp hw hz h0 h1 h2 hl0 hm S M hokp hokm) (cwV 1 hts gX5_lowerBestBound_X2_boundAt rfl rfl rfl (by decide +kernel) ⟨Nat.le_of_ble_eq_true rfl, Nat.le_of_ble_eq_true rfl⟩) w (q0 := 2) rfl rfl rfl [2, 3, 4, 5, 6, 7, 8, 1] rfl (by decide) [0] rfl (by decide) (by decide) rfl hl.1 rfl (lv_room (Nat.le_of_ble_eq_true rfl)) dX5_lowerBestBound_8 ⟨Nat.zero_le _, Nat.zero_le _⟩ (fun r W1 H locs hp w => ?_)
  obtain ⟨rfl, rfl⟩ := hp
  have w : zW D A s.heap s [(ho, .inr (5, [.ref hp, .ref hbu, .ref hm, .ref hg, .int (zI (ru)), .int (zI (sp)), .int (zI (so)), .int (zI (sw)), .int (zI (si)), .int (zI (al)), .long (zL (bb))])), (hm, .inl (D.2 0, 3, .inl (fMu M))), (hp, .inr (2, [.ref hw, .ref hz, .ref hl0, .int (zI (S 0))])), (hw, .inl (D.2 0, 16, .inl (fC S 0))), (hz, .inl (D.2 5, 3, .inr (.inr (.inr (.inr (f3 h0 h1 h2)))))), (h0, .inl (D.2 0, 16, .inl (fC S 1))), (h1, .inl (D.2 0, 16, .inl (fC S 2))), (h2, .inl (D.2 0, 16, .inl (fC S 3))), (hl0, .inl (D.2 0, 3, .inl (fLm S)))] H locs := w.sub [0, 8, 1, 2, 3, 4, 5, 6, 7] (by decide) rfl
  refine lv_lstore_n (lv' := [(1, .long (zL (sBd S M))), (0, .ref ho)]) hx hb dX5_lowerBestBound_11 rfl hl (by decide) rfl (fun ls hl => ?_)
  refine lv_lload_n hx hb dX5_lowerBestBound_12 rfl (lv_at hl 0 rfl) ?_
  refine lv_aload_n hx hb dX5_lowerBestBound_13 rfl (lv_at hl 1 rfl) ?_
  refine z_get hx hb hown hts w inX5 0 10 rfl rfl (by decide) f_51 rfl rfl dX5_lowerBestBound_14 ?_
  refine z_lcmp_ge (tgt := 25) hx hb (by omega) (by omega) dX5_lowerBestBound_17 dX5_lowerBestBound_18 (by decide) (fun c17 => ?_) (fun c17 => ?_)
  · skip
    refine lv_iconst (v := zI 0) hx hb dX5_lowerBestBound_25 rfl ?_
    refine lv_istore_n (lv' := [(3, .int (zI (0))), (1, .long (zL (sBd S M))), (0, .ref ho)]) hx hb dX5_lowerBestBound_26 rfl hl (by decide) rfl (fun ls hl => ?_)
    refine lv_iload_n hx hb dX5_lowerBestBound_27 rfl (lv_at hl 0 rfl) ?_
    refine z_if_eq (tgt := 36) hx hb (by omega) dX5_lowerBestBound_28 (by decide) (fun c28 => ?_) (fun c28 => ?_)
    · skip
      refine lv_iload_n hx hb dX5_lowerBestBound_36 rfl (lv_at hl 0 rfl) ?_
      exact z_zret hx hb hr hlocks w dX5_lowerBestBound_37 (by omega) ⟨by rw [zb_f (by omega)], by rw [if_neg (by omega)]; rfl⟩
    · skip
      exact absurd c28 (by omega)
  · skip
    refine lv_iconst (v := zI 1) hx hb dX5_lowerBestBound_21 rfl ?_
    refine lv_goto (tgt := 26) hx hb dX5_lowerBestBound_22 (by decide) ?_
    refine lv_istore_n (lv' := [(3, .int (zI (1))), (1, .long (zL (sBd S M))), (0, .ref ho)]) hx hb dX5_lowerBestBound_26 rfl hl (by decide) rfl (fun ls hl => ?_)
    refine lv_iload_n hx hb dX5_lowerBestBound_27 rfl (lv_at hl 0 rfl) ?_
    refine z_if_eq (tgt := 36) hx hb (by omega) dX5_lowerBestBound_28 (by decide) (fun c28 => ?_) (fun c28 => ?_)
    · skip
      exact absurd c28 (by omega)
    · skip
      refine lv_aload_n hx hb dX5_lowerBestBound_31 rfl (lv_at hl 2 rfl) ?_
      refine lv_lload_n hx hb dX5_lowerBestBound_32 rfl (lv_at hl 1 rfl) ?_
      refine z_put hx hb hown hts w inX5 tyX5 tyX5_ok nmX5 0 10 rfl rfl (by decide) f_51 rfl rfl (ty := .long) rfl rfl rfl (Nat.le_of_ble_eq_true rfl) dX5_lowerBestBound_33 (fun H locs w => ?_)
      have w : zW D A s.heap s [(ho, .inr (5, [.ref hp, .ref hbu, .ref hm, .ref hg, .int (zI (ru)), .int (zI (sp)), .int (zI (so)), .int (zI (sw)), .int (zI (si)), .int (zI (al)), .long (zL (sBd S M))])), (hm, .inl (D.2 0, 3, .inl (fMu M))), (hp, .inr (2, [.ref hw, .ref hz, .ref hl0, .int (zI (S 0))])), (hw, .inl (D.2 0, 16, .inl (fC S 0))), (hz, .inl (D.2 5, 3, .inr (.inr (.inr (.inr (f3 h0 h1 h2)))))), (h0, .inl (D.2 0, 16, .inl (fC S 1))), (h1, .inl (D.2 0, 16, .inl (fC S 2))), (h2, .inl (D.2 0, 16, .inl (fC S 3))), (hl0, .inl (D.2 0, 3, .inl (fLm S)))] H locs := w
      refine lv_iload_n hx hb dX5_lowerBestBound_36 rfl (lv_at hl 0 rfl) ?_
      exact z_zret hx hb hr hlocks w dX5_lowerBestBound_37 (by omega) ⟨by rw [zb_t (by omega)], by rw [if_pos (by omega)]; rfl⟩
set_option maxHeartbeats 6000000 in
set_option maxRecDepth 100000 in
theorem c_X5_length (l : Launch) (D : zD) (ho hm hp hw hz h0 h1 h2 hl0 hbu hg : Nat) (S M : Nat → Int) (ru sp so sw si al bb : Int) (hok : OkP S) (hokm : OkM M) (q : Int) (hq : zBL q) (hru : 0 ≤ ru ∧ ru ≤ 2) (hsp : 1 ≤ sp ∧ sp ≤ 9999) (hsi : 0 ≤ si ∧ si ≤ 2147483646) (hsw : zB sw) (hhu : zB (sHu sw)) : zM l yX5_length wsX5_length (zR 3) zE0 D [.ref ho, .long (zL (q))] (wSp D ho hm [.ref hp, .ref hbu, .ref hm, .ref hg, .int (zI (ru)), .int (zI (sp)), .int (zI (so)), .int (zI (sw)), .int (zI (si)), .int (zI (al)), .long (zL (bb))] hp hw hz h0 h1 h2 hl0 S M) (zQl D (fun r W1 => r = zL (sLen ru sp si (sHu sw) (sBd S M) q) ∧ W1 = (wSp D ho hm [.ref hp, .ref hbu, .ref hm, .ref hg, .int (zI (ru)), .int (zI (sp)), .int (zI (so)), .int (zI (sw)), .int (zI (si)), .int (zI (al)), .long (zL (bb))] hp hw hz h0 h1 h2 hl0 S M))) := by
  refine zM.of (cc := cX5_length) (maxL := 5) (ret := (some .long)) (by decide) rfl (Nat.le_of_ble_eq_true rfl) ?_
  intro p e s m below meth c A hx hb hml hown hts hr hlocks hE hnm w ls hl
  have hown : s.vm.findClass RX5 = some m.cls := hown
  have hl : lv_has ls 5 [(0, .ref ho), (1, .long (zL (q)))] := hl
  have f_32 : (Cond.fieldLink RX5 32 "RelaxedSteps$State" "rule" "I").before _ s = true := hts _ (by decide +kernel)
  have f_36 : (Cond.fieldLink RX5 36 "RelaxedSteps$State" "step" "I").before _ s = true := hts _ (by decide +kernel)
  have f_45 : (Cond.fieldLink RX5 45 "RelaxedSteps$State" "stepsSince" "I").before _ s = true := hts _ (by decide +kernel)
  have mm_160_l : (Cond.methodLink RX5 160 Lib.Math.max.name).before _ s = true := hts _ (by decide +kernel)
  have mm_160_s : (Cond.static Lib.Math.max.name).before _ s = true := hts _ (by decide +kernel)
  have mm_160_c : (Cond.code Lib.Math.max.name Lib.Math.max.code 2 (some .int)).before _ s = true := hts _ (by decide +kernel)
  have mm_160_i : (Cond.initialized "java/lang/Math").before _ s = true := hts _ (by decide +kernel)
  have f_12 : (Cond.fieldLink RX5 12 "RelaxedSteps$State" "packing" "LRelaxedSteps$Packing;").before _ s = true := hts _ (by decide +kernel)
  have f_25 : (Cond.fieldLink RX5 25 "RelaxedSteps$State" "multipliers" "[I").before _ s = true := hts _ (by decide +kernel)
  have mm_157_l : (Cond.methodLink RX5 157 Lib.MathLoose.max_long.x).before _ s = true := hts _ (by decide +kernel)
  have mm_157_s : (Cond.static Lib.MathLoose.max_long.x).before _ s = true := hts _ (by decide +kernel)
  have mm_157_c : (Cond.code Lib.MathLoose.max_long.x Lib.MathLoose.max_long.code 4 (some .long)).before _ s = true := hts _ (by decide +kernel)
  have mm_157_i : (Cond.initialized "java/lang/Math").before _ s = true := hts _ (by decide +kernel)
  have inX5 : ∀ w ∈ u_ws RX5 TX5 11, w ∈ wsX5_length := by decide +kernel
  have hn := zn_eq hok
  have h16 := zn_le hok
  have hlim := hok.2.2
  have hokp := hok
  have hbd := sBd_b hok hokm
  have hdv : sp / max 1 (si + 1) ≤ sp := Int.ediv_le_self _ (by omega)
  have hdv0 : 0 ≤ sp / max 1 (si + 1) := Int.ediv_nonneg (by omega) (by omega)
  have w : zW D A s.heap s [(ho, .inr (5, [.ref hp, .ref hbu, .ref hm, .ref hg, .int (zI (ru)), .int (zI (sp)), .int (zI (so)), .int (zI (sw)), .int (zI (si)), .int (zI (al)), .long (zL (bb))])), (hm, .inl (D.2 0, 3, .inl (fMu M))), (hp, .inr (2, [.ref hw, .ref hz, .ref hl0, .int (zI (S 0))])), (hw, .inl (D.2 0, 16, .inl (fC S 0))), (hz, .inl (D.2 5, 3, .inr (.inr (.inr (.inr (f3 h0 h1 h2)))))), (h0, .inl (D.2 0, 16, .inl (fC S 1))), (h1, .inl (D.2 0, 16, .inl (fC S 2))), (h2, .inl (D.2 0, 16, .inl (fC S 3))), (hl0, .inl (D.2 0, 3, .inl (fLm S)))] s.heap [] := w
  refine lv_aload_n hx hb dX5_length_0 rfl (lv_at hl 0 rfl) ?_
  refine z_get hx hb hown hts w inX5 0 4 rfl rfl (by decide) f_32 rfl rfl dX5_length_1 ?_
  rcases (show ru = 1 ∨ ru = 2 ∨ (¬ ru = 1 ∧ ¬ ru = 2) by omega) with c4 | c4 | c4
  · skip
    refine z_lswit (tgt := 32) hx hb (by omega) dX5_length_4 (by decide) (off := 28) (by rw [c4]; decide) (by decide) ?_
    refine lv_iconst (v := zI 1) hx hb dX5_length_32 rfl ?_
    refine lv_aload_n hx hb dX5_length_33 rfl (lv_at hl 0 rfl) ?_
    refine z_get hx hb hown hts w inX5 0 5 rfl rfl (by decide) f_36 rfl rfl dX5_length_34 ?_
    refine lv_iconst (v := zI 1) hx hb dX5_length_37 rfl ?_
    refine lv_aload_n hx hb dX5_length_38 rfl (lv_at hl 0 rfl) ?_
    refine z_get hx hb hown hts w inX5 0 8 rfl rfl (by decide) f_45 rfl rfl dX5_length_39 ?_
    refine lv_iconst (v := zI 1) hx hb dX5_length_42 rfl ?_
    refine z_iadd hx hb dX5_length_43 ?_
    refine z_max hx hb (by rw [hml]; exact hl.1.symm) hown mm_160_l mm_160_s mm_160_i mm_160_c (Nat.le_of_ble_eq_true rfl) (Nat.le_of_ble_eq_true rfl) (Nat.zero_le _) (Nat.zero_le _) (by omega) (by omega) dX5_length_44 ?_
    refine z_idiv hx hb (by omega) dX5_length_47 ?_
    refine z_max hx hb (by rw [hml]; exact hl.1.symm) hown mm_160_l mm_160_s mm_160_i mm_160_c (Nat.le_of_ble_eq_true rfl) (Nat.le_of_ble_eq_true rfl) (Nat.zero_le _) (Nat.zero_le _) (by omega) (by omega) dX5_length_48 ?_
    refine z_i2l hx hb (by omega) dX5_length_51 ?_
    exact z_lret hx hb hr hlocks w dX5_length_52 ⟨by unfold sLen; rw [if_pos c4], rfl⟩
  · skip
    refine z_lswit (tgt := 53) hx hb (by omega) dX5_length_4 (by decide) (off := 49) (by rw [c4]; decide) (by decide) ?_
    refine lv_lload_n hx hb dX5_length_53 rfl (lv_at hl 1 rfl) ?_
    refine lv_lconst (v := zL 0) hx hb dX5_length_54 rfl ?_
    refine z_lcmp_gt (tgt := 61) hx hb (by omega) (by omega) dX5_length_55 dX5_length_56 (by decide) (fun c55 => ?_) (fun c55 => ?_)
    · skip
      refine lv_aload_n hx hb dX5_length_61 rfl (lv_at hl 0 rfl) ?_
      refine z_get hx hb hown hts w inX5 0 0 rfl rfl (by decide) f_12 rfl rfl dX5_length_62 ?_
      refine lv_aload_n hx hb dX5_length_65 rfl (lv_at hl 0 rfl) ?_
      refine z_get hx hb hown hts w inX5 0 2 rfl rfl (by decide) f_25 rfl rfl dX5_length_66 ?_
      refine z_V_l (As := [.ref hm]) (rest := []) (Wr := [(ho, .inr (5, [.ref hp, .ref hbu, .ref hm, .ref hg, .int (zI (ru)), .int (zI (sp)), .int (zI (so)), .int (zI (sw)), .int (zI (si)), .int (zI (al)), .long (zL (bb))]))]) ⟨hx, hb, hml, hown, hts⟩ (c_X2_boundAt l D hp hw hz h0 h1 h2 hl0 hm S M hokp hokm) (cwV 1 hts gX5_length_X2_boundAt rfl rfl rfl (by decide +kernel) ⟨Nat.le_of_ble_eq_true rfl, Nat.le_of_ble_eq_true rfl⟩) w (q0 := 2) rfl rfl rfl [2, 3, 4, 5, 6, 7, 8, 1] rfl (by decide) [0] rfl (by decide) (by decide) rfl hl.1 rfl (lv_room (Nat.le_of_ble_eq_true rfl)) dX5_length_69 ⟨Nat.zero_le _, Nat.zero_le _⟩ (fun r W1 H locs hp w => ?_)
      obtain ⟨rfl, rfl⟩ := hp
      have w : zW D A s.heap s [(ho, .inr (5, [.ref hp, .ref hbu, .ref hm, .ref hg, .int (zI (ru)), .int (zI (sp)), .int (zI (so)), .int (zI (sw)), .int (zI (si)), .int (zI (al)), .long (zL (bb))])), (hm, .inl (D.2 0, 3, .inl (fMu M))), (hp, .inr (2, [.ref hw, .ref hz, .ref hl0, .int (zI (S 0))])), (hw, .inl (D.2 0, 16, .inl (fC S 0))), (hz, .inl (D.2 5, 3, .inr (.inr (.inr (.inr (f3 h0 h1 h2)))))), (h0, .inl (D.2 0, 16, .inl (fC S 1))), (h1, .inl (D.2 0, 16, .inl (fC S 2))), (h2, .inl (D.2 0, 16, .inl (fC S 3))), (hl0, .inl (D.2 0, 3, .inl (fLm S)))] H locs := w.sub [0, 8, 1, 2, 3, 4, 5, 6, 7] (by decide) rfl
      refine lv_aload_n hx hb dX5_length_72 rfl (lv_at hl 0 rfl) ?_
      refine z_V_i (As := []) (rest := [.long (zL (sBd S M))]) (Wr := [(hm, .inl (D.2 0, 3, .inl (fMu M))), (hp, .inr (2, [.ref hw, .ref hz, .ref hl0, .int (zI (S 0))])), (hw, .inl (D.2 0, 16, .inl (fC S 0))), (hz, .inl (D.2 5, 3, .inr (.inr (.inr (.inr (f3 h0 h1 h2)))))), (h0, .inl (D.2 0, 16, .inl (fC S 1))), (h1, .inl (D.2 0, 16, .inl (fC S 2))), (h2, .inl (D.2 0, 16, .inl (fC S 3))), (hl0, .inl (D.2 0, 3, .inl (fLm S)))]) ⟨hx, hb, hml, hown, hts⟩ (c_X5_solutionHundredths l D ho hp hbu hm hg ru sp so sw si al bb (by omega)) (cwV 0 hts gX5_length_X5_solutionHundredths rfl rfl rfl (by decide +kernel) ⟨Nat.le_of_ble_eq_true rfl, Nat.le_of_ble_eq_true rfl⟩) w (q0 := 0) rfl rfl rfl [0] rfl (by decide) [1, 2, 3, 4, 5, 6, 7, 8] rfl (by decide) (by decide) rfl hl.1 rfl (lv_room (Nat.le_of_ble_eq_true rfl)) dX5_length_73 ⟨Nat.zero_le _, Nat.zero_le _⟩ (fun r W1 H locs hp w => ?_)
      obtain ⟨rfl, rfl⟩ := hp
      have w : zW D A s.heap s [(ho, .inr (5, [.ref hp, .ref hbu, .ref hm, .ref hg, .int (zI (ru)), .int (zI (sp)), .int (zI (so)), .int (zI (sw)), .int (zI (si)), .int (zI (al)), .long (zL (bb))])), (hm, .inl (D.2 0, 3, .inl (fMu M))), (hp, .inr (2, [.ref hw, .ref hz, .ref hl0, .int (zI (S 0))])), (hw, .inl (D.2 0, 16, .inl (fC S 0))), (hz, .inl (D.2 5, 3, .inr (.inr (.inr (.inr (f3 h0 h1 h2)))))), (h0, .inl (D.2 0, 16, .inl (fC S 1))), (h1, .inl (D.2 0, 16, .inl (fC S 2))), (h2, .inl (D.2 0, 16, .inl (fC S 3))), (hl0, .inl (D.2 0, 3, .inl (fLm S)))] H locs := w.sub [8, 0, 1, 2, 3, 4, 5, 6, 7] (by decide) rfl
      refine z_i2l hx hb (by omega) dX5_length_76 ?_
      refine z_lsub hx hb dX5_length_77 ?_
      refine lv_lstore_n (lv' := [(3, .long (zL ((sBd S M) - (sHu sw)))), (0, .ref ho), (1, .long (zL (q)))]) hx hb dX5_length_78 rfl hl (by decide) rfl (fun ls hl => ?_)
      refine lv_lconst (v := zL 1) hx hb dX5_length_79 rfl ?_
      refine lv_lload_n hx hb dX5_length_80 rfl (lv_at hl 0 rfl) ?_
      refine lv_lload_n hx hb dX5_length_81 rfl (lv_at hl 2 rfl) ?_
      refine z_S_l (As := [.long (zL ((sBd S M) - (sHu sw))), .long (zL (q))]) (rest := [.long (zL (1))]) (Wr := [(ho, .inr (5, [.ref hp, .ref hbu, .ref hm, .ref hg, .int (zI (ru)), .int (zI (sp)), .int (zI (so)), .int (zI (sw)), .int (zI (si)), .int (zI (al)), .long (zL (bb))])), (hm, .inl (D.2 0, 3, .inl (fMu M))), (hp, .inr (2, [.ref hw, .ref hz, .ref hl0, .int (zI (S 0))])), (hw, .inl (D.2 0, 16, .inl (fC S 0))), (hz, .inl (D.2 5, 3, .inr (.inr (.inr (.inr (f3 h0 h1 h2)))))), (h0, .inl (D.2 0, 16, .inl (fC S 1))), (h1, .inl (D.2 0, 16, .inl (fC S 2))), (h2, .inl (D.2 0, 16, .inl (fC S 3))), (hl0, .inl (D.2 0, 3, .inl (fLm S)))]) ⟨hx, hb, hml, hown, hts⟩ (c_floorDiv l D ((sBd S M) - (sHu sw)) q (by omega) (by omega) (by omega) (by omega)) (va_cwS 2 hts gX5_length_J9_floorDiv_f86c9 rfl rfl rfl (by decide +kernel) ⟨Nat.le_of_ble_eq_true rfl, Nat.le_of_ble_eq_true rfl⟩) w [] rfl (by decide) [0, 1, 2, 3, 4, 5, 6, 7, 8] rfl (by decide) (by decide) rfl hl.1 rfl (lv_room (Nat.le_of_ble_eq_true rfl)) dX5_length_82 ⟨Nat.zero_le _, Nat.zero_le _⟩ (fun r W1 H locs hp w => ?_)
      obtain ⟨⟨vf, rfl, hvb, hvm⟩, rfl⟩ := hp
      have w : zW D A s.heap s [(ho, .inr (5, [.ref hp, .ref hbu, .ref hm, .ref hg, .int (zI (ru)), .int (zI (sp)), .int (zI (so)), .int (zI (sw)), .int (zI (si)), .int (zI (al)), .long (zL (bb))])), (hm, .inl (D.2 0, 3, .inl (fMu M))), (hp, .inr (2, [.ref hw, .ref hz, .ref hl0, .int (zI (S 0))])), (hw, .inl (D.2 0, 16, .inl (fC S 0))), (hz, .inl (D.2 5, 3, .inr (.inr (.inr (.inr (f3 h0 h1 h2)))))), (h0, .inl (D.2 0, 16, .inl (fC S 1))), (h1, .inl (D.2 0, 16, .inl (fC S 2))), (h2, .inl (D.2 0, 16, .inl (fC S 3))), (hl0, .inl (D.2 0, 3, .inl (fLm S)))] H locs := w.sub [0, 1, 2, 3, 4, 5, 6, 7, 8] (by decide) rfl
      refine z_maxl hx hb (by rw [hml]; exact hl.1.symm) hown mm_157_l mm_157_s mm_157_i mm_157_c (Nat.le_of_ble_eq_true rfl) (Nat.le_of_ble_eq_true rfl) (Nat.zero_le _) (Nat.zero_le _) (by omega) (by omega) dX5_length_85 ?_
      exact z_lret hx hb hr hlocks w dX5_length_88 ⟨by unfold sLen; rw [if_neg (by omega), if_pos c4, if_neg (by omega), hvm], rfl⟩
    · skip
      refine lv_lconst (v := zL 0) hx hb dX5_length_59 rfl ?_
      exact z_lret hx hb hr hlocks w dX5_length_60 ⟨by unfold sLen; rw [if_neg (by omega), if_pos c4, if_pos (by omega)], rfl⟩
  · skip
    refine z_lswit (tgt := 89) hx hb (by omega) dX5_length_4 (by decide) (off := 85) (by simp [Op.lookupswitch.offset, Ne.symm c4.1, Ne.symm c4.2, c4.1, c4.2]) (by decide) ?_
    refine lv_aload_n hx hb dX5_length_89 rfl (lv_at hl 0 rfl) ?_
    refine z_get hx hb hown hts w inX5 0 5 rfl rfl (by decide) f_36 rfl rfl dX5_length_90 ?_
    refine z_i2l hx hb (by omega) dX5_length_93 ?_
    exact z_lret hx hb hr hlocks w dX5_length_94 ⟨by unfold sLen; rw [if_neg c4.1, if_neg c4.2], rfl⟩
