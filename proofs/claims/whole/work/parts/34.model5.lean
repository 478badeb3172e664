set_option maxHeartbeats 6000000 in
set_option maxRecDepth 100000 in
theorem c_X7_steps (l : Launch) (D : zD) (ha : Nat) (S : Nat → Int) (B : Int) (hB : B ≤ 2000000000) (hokS : OkS B S) : zM l yX7_steps wsX7_steps (zR (5)) zE0 D [.ref ha] (wMo D ha S) (zQi D (fun r W1 => r = zI (zb (sBd (sSt0 S) (mu (sSt0 S)) < sSt0 S 75)) ∧ W1 = (wMo D ha (sSt S)))) := by
  refine zM.of (cc := cX7_steps) (maxL := 6) (ret := (some .boolean)) (by decide) rfl (Nat.le_of_ble_eq_true rfl) ?_
  intro p e s m below meth c A hx hb hml hown hts hr hlocks hE hnm w ls hl
  have hown : s.vm.findClass RX7 = some m.cls := hown
  have hl : lv_has ls 6 [(0, .ref ha)] := hl
  obtain ⟨hok, hokm, hokb, hsc, hbe⟩ := id hokS
  have hokp := hok
  have hn := zn_eq hok
  have h16 := zn_le hok
  have hlim := hok.2.2
  have hm1 := hokm
  unfold OkM mu at hm1
  have hbd := sBd_b hok hokm
  have hkb := hokb.1
  have hbw := sBw_b hok
  have hm2 : (0 ≤ S 68 ∧ S 68 ≤ 999999) ∧ (0 ≤ S 69 ∧ S 69 ≤ 999999) ∧ 0 ≤ S 70 ∧ S 70 ≤ 999999 := hokm
  have hrl := sRel_16 (M := mu S) hok
  have t0 := sSlo_b (M := mu S) hok (d := 0) (by omega)
  have t1 := sSlo_b (M := mu S) hok (d := 1) (by omega)
  have t2 := sSlo_b (M := mu S) hok (d := 2) (by omega)
  have hhu := sBw_hu hok
  have hln : 0 ≤ sLn S ∧ sLn S ≤ 3000000000 := sLen_b (ru := S 71) (q := sSq S (mu S)) hsc.2.1 hsc.2.2.1.1 (by omega) hbd
  have lm0 := lm_b hln t0
  have lm1 := lm_b hln t1
  have lm2 := lm_b hln t2
  have w : zW D A s.heap s [(ha, .inl (D.2 1, 86, .inr (.inl (fNow S))))] s.heap [] := w
  refine lv_aload_n hx hb dX7_steps_0 rfl (lv_at hl 0 rfl) ?_
  refine z_S_l (As := [.ref ha]) (rest := []) (Wr := []) ⟨hx, hb, hml, hown, hts⟩ (c_X7_length l D ha S B hB hokS) (va_cwS 1 hts gX7_steps_X7_length rfl rfl rfl (by decide +kernel) ⟨Nat.le_of_ble_eq_true rfl, Nat.le_of_ble_eq_true rfl⟩) w [0] rfl (by decide) [] rfl (by decide) (by decide) rfl hl.1 rfl (lv_room (Nat.le_of_ble_eq_true rfl)) dX7_steps_1 ⟨Nat.zero_le _, Nat.zero_le _⟩ (fun r W1 H locs hp w => ?_)
  obtain ⟨rfl, rfl⟩ := hp
  have w : zW D A s.heap s [(ha, .inl (D.2 1, 86, .inr (.inl (fNow S))))] H locs := w.sub [0] (by decide) rfl
  refine lv_lstore_n (lv' := [(1, .long (zL (sLn S))), (0, .ref ha)]) hx hb dX7_steps_4 rfl hl (by decide) rfl (fun ls hl => ?_)
  refine lv_aload_n hx hb dX7_steps_5 rfl (lv_at hl 1 rfl) ?_
  refine lv_iconst (v := zI 0) hx hb dX7_steps_6 rfl ?_
  refine z_S_i (As := [.ref ha, .int (zI (0))]) (rest := []) (Wr := []) ⟨hx, hb, hml, hown, hts⟩ (c_X7_slope l D ha S hok hokm 0 (by omega)) (va_cwS 2 hts gX7_steps_X7_slope rfl rfl rfl (by decide +kernel) ⟨Nat.le_of_ble_eq_true rfl, Nat.le_of_ble_eq_true rfl⟩) w [0] rfl (by decide) [] rfl (by decide) (by decide) rfl hl.1 rfl (lv_room (Nat.le_of_ble_eq_true rfl)) dX7_steps_7 ⟨Nat.zero_le _, Nat.zero_le _⟩ (fun r W1 H locs hp w => ?_)
  obtain ⟨rfl, rfl⟩ := hp
  have w : zW D A s.heap s [(ha, .inl (D.2 1, 86, .inr (.inl (fNow S))))] H locs := w.sub [0] (by decide) rfl
  refine lv_istore_n (lv' := [(3, .int (zI (sSlo S (mu S) 0))), (1, .long (zL (sLn S))), (0, .ref ha)]) hx hb dX7_steps_10 rfl hl (by decide) rfl (fun ls hl => ?_)
  refine lv_aload_n hx hb dX7_steps_11 rfl (lv_at hl 2 rfl) ?_
  refine lv_iconst (v := zI 1) hx hb dX7_steps_12 rfl ?_
  refine z_S_i (As := [.ref ha, .int (zI (1))]) (rest := []) (Wr := []) ⟨hx, hb, hml, hown, hts⟩ (c_X7_slope l D ha S hok hokm 1 (by omega)) (va_cwS 2 hts gX7_steps_X7_slope rfl rfl rfl (by decide +kernel) ⟨Nat.le_of_ble_eq_true rfl, Nat.le_of_ble_eq_true rfl⟩) w [0] rfl (by decide) [] rfl (by decide) (by decide) rfl hl.1 rfl (lv_room (Nat.le_of_ble_eq_true rfl)) dX7_steps_13 ⟨Nat.zero_le _, Nat.zero_le _⟩ (fun r W1 H locs hp w => ?_)
  obtain ⟨rfl, rfl⟩ := hp
  have w : zW D A s.heap s [(ha, .inl (D.2 1, 86, .inr (.inl (fNow S))))] H locs := w.sub [0] (by decide) rfl
  refine lv_istore (lv' := [(4, .int (zI (sSlo S (mu S) 1))), (3, .int (zI (sSlo S (mu S) 0))), (1, .long (zL (sLn S))), (0, .ref ha)]) hx hb dX7_steps_16 hl (by decide) rfl (fun ls hl => ?_)
  refine lv_aload_n hx hb dX7_steps_18 rfl (lv_at hl 3 rfl) ?_
  refine lv_iconst (v := zI 2) hx hb dX7_steps_19 rfl ?_
  refine z_S_i (As := [.ref ha, .int (zI (2))]) (rest := []) (Wr := []) ⟨hx, hb, hml, hown, hts⟩ (c_X7_slope l D ha S hok hokm 2 (by omega)) (va_cwS 2 hts gX7_steps_X7_slope rfl rfl rfl (by decide +kernel) ⟨Nat.le_of_ble_eq_true rfl, Nat.le_of_ble_eq_true rfl⟩) w [0] rfl (by decide) [] rfl (by decide) (by decide) rfl hl.1 rfl (lv_room (Nat.le_of_ble_eq_true rfl)) dX7_steps_20 ⟨Nat.zero_le _, Nat.zero_le _⟩ (fun r W1 H locs hp w => ?_)
  obtain ⟨rfl, rfl⟩ := hp
  have w : zW D A s.heap s [(ha, .inl (D.2 1, 86, .inr (.inl (fNow S))))] H locs := w.sub [0] (by decide) rfl
  refine lv_istore (lv' := [(5, .int (zI (sSlo S (mu S) 2))), (4, .int (zI (sSlo S (mu S) 1))), (3, .int (zI (sSlo S (mu S) 0))), (1, .long (zL (sLn S))), (0, .ref ha)]) hx hb dX7_steps_23 hl (by decide) rfl (fun ls hl => ?_)
  refine lv_aload_n hx hb dX7_steps_25 rfl (lv_at hl 4 rfl) ?_
  refine lv_aload_n hx hb dX7_steps_26 rfl (lv_at hl 4 rfl) ?_
  refine z_S_i (As := [.ref ha]) (rest := [.ref ha]) (Wr := []) ⟨hx, hb, hml, hown, hts⟩ (c_X7_relaxed l D ha S hok hokm) (va_cwS 1 hts gX7_steps_X7_relaxed rfl rfl rfl (by decide +kernel) ⟨Nat.le_of_ble_eq_true rfl, Nat.le_of_ble_eq_true rfl⟩) w [0] rfl (by decide) [] rfl (by decide) (by decide) rfl hl.1 rfl (lv_room (Nat.le_of_ble_eq_true rfl)) dX7_steps_27 ⟨Nat.zero_le _, Nat.zero_le _⟩ (fun r W1 H locs hp w => ?_)
  obtain ⟨rfl, rfl⟩ := hp
  have w : zW D A s.heap s [(ha, .inl (D.2 1, 86, .inr (.inl (fNow S))))] H locs := w.sub [0] (by decide) rfl
  refine z_S_v (As := [.ref ha, .int (zI (((sRel S (mu S) : Nat) : Int)))]) (rest := []) (Wr := []) ⟨hx, hb, hml, hown, hts⟩ (c_X7_bundles l D ha S hokb (sRel S (mu S)) (by omega)) (va_cwS 2 hts gX7_steps_X7_bundles rfl rfl rfl (by decide +kernel) ⟨Nat.le_of_ble_eq_true rfl, Nat.le_of_ble_eq_true rfl⟩) w [0] rfl (by decide) [] rfl (by decide) (by decide) rfl hl.1 rfl (lv_room (Nat.le_of_ble_eq_true rfl)) dX7_steps_30 ⟨Nat.zero_le _, Nat.zero_le _⟩ (fun W1 H locs hp w => ?_)
  subst hp
  have w : zW D A s.heap s [(ha, .inl (D.2 1, 86, .inr (.inl (fNow (sBuM S ((sRel S (mu S) : Nat) : Int))))))] H locs := w.sub [0] (by decide) rfl
  refine lv_aload_n hx hb dX7_steps_33 rfl (lv_at hl 4 rfl) ?_
  refine lv_bipush (v := zI 68) hx hb dX7_steps_34 (by decide +kernel) ?_
  refine lv_aload_n hx hb dX7_steps_36 rfl (lv_at hl 4 rfl) ?_
  refine lv_bipush (v := zI 68) hx hb dX7_steps_37 (by decide +kernel) ?_
  refine z_lald hx hb w 0 rfl 68 (by omega) (by decide) rfl (v := (zL ((sBuM S ((sRel S (mu S) : Nat) : Int)) 68))) (if_pos (by omega)) dX7_steps_39 ?_
  have eb0 : (sBuM S ((sRel S (mu S) : Nat) : Int)) 68 = S 68 := by rw [sBuM_far _ _ (by omega)]
  refine lv_lload_n hx hb dX7_steps_40 rfl (lv_at hl 3 rfl) ?_
  refine lv_iload_n hx hb dX7_steps_41 rfl (lv_at hl 2 rfl) ?_
  refine z_i2l hx hb (by omega) dX7_steps_42 ?_
  refine z_lmul hx hb dX7_steps_43 ?_
  refine z_ladd hx hb dX7_steps_44 ?_
  refine z_S_l (As := [.long (zL (((sBuM S ((sRel S (mu S) : Nat) : Int)) 68) + ((sLn S) * (sSlo S (mu S) 0))))]) (rest := [.int (zI (68)), .ref ha]) (Wr := [(ha, .inl (D.2 1, 86, .inr (.inl (fNow (sBuM S ((sRel S (mu S) : Nat) : Int))))))]) ⟨hx, hb, hml, hown, hts⟩ (c_X7_within l D (((sBuM S ((sRel S (mu S) : Nat) : Int)) 68) + ((sLn S) * (sSlo S (mu S) 0))) (by omega)) (va_cwS 1 hts gX7_steps_X7_within rfl rfl rfl (by decide +kernel) ⟨Nat.le_of_ble_eq_true rfl, Nat.le_of_ble_eq_true rfl⟩) w [] rfl (by decide) [0] rfl (by decide) (by decide) rfl hl.1 rfl (lv_room (Nat.le_of_ble_eq_true rfl)) dX7_steps_45 ⟨Nat.zero_le _, Nat.zero_le _⟩ (fun r W1 H locs hp w => ?_)
  obtain ⟨rfl, rfl⟩ := hp
  have w : zW D A s.heap s [(ha, .inl (D.2 1, 86, .inr (.inl (fNow (sBuM S ((sRel S (mu S) : Nat) : Int))))))] H locs := w.sub [0] (by decide) rfl
  refine z_last hx hb w 0 rfl 68 (by omega) (by decide) rfl dX7_steps_48 (fNow (zu (sBuM S ((sRel S (mu S) : Nat) : Int)) 68 (max 0 (min 999999 (((sBuM S ((sRel S (mu S) : Nat) : Int)) 68) + ((sLn S) * (sSlo S (mu S) 0))))))) (fun i hi => fNow_zu hi) (fun H locs w => ?_)
  have w : zW D A s.heap s [(ha, .inl (D.2 1, 86, .inr (.inl (fNow (zu (sBuM S ((sRel S (mu S) : Nat) : Int)) 68 (max 0 (min 999999 (((sBuM S ((sRel S (mu S) : Nat) : Int)) 68) + ((sLn S) * (sSlo S (mu S) 0))))))))))] H locs := w
  refine lv_aload_n hx hb dX7_steps_49 rfl (lv_at hl 4 rfl) ?_
  refine lv_bipush (v := zI 69) hx hb dX7_steps_50 (by decide +kernel) ?_
  refine lv_aload_n hx hb dX7_steps_52 rfl (lv_at hl 4 rfl) ?_
  refine lv_bipush (v := zI 69) hx hb dX7_steps_53 (by decide +kernel) ?_
  refine z_lald hx hb w 0 rfl 69 (by omega) (by decide) rfl (v := (zL ((zu (sBuM S ((sRel S (mu S) : Nat) : Int)) 68 (max 0 (min 999999 (((sBuM S ((sRel S (mu S) : Nat) : Int)) 68) + ((sLn S) * (sSlo S (mu S) 0)))))) 69))) (if_pos (by omega)) dX7_steps_55 ?_
  have eb1 : (zu (sBuM S ((sRel S (mu S) : Nat) : Int)) 68 (max 0 (min 999999 (((sBuM S ((sRel S (mu S) : Nat) : Int)) 68) + ((sLn S) * (sSlo S (mu S) 0)))))) 69 = S 69 := by rw [zu_n _ _ (by omega), sBuM_far _ _ (by omega)]
  refine lv_lload_n hx hb dX7_steps_56 rfl (lv_at hl 3 rfl) ?_
  refine lv_iload hx hb dX7_steps_57 (lv_at hl 1 rfl) ?_
  refine z_i2l hx hb (by omega) dX7_steps_59 ?_
  refine z_lmul hx hb dX7_steps_60 ?_
  refine z_ladd hx hb dX7_steps_61 ?_
  refine z_S_l (As := [.long (zL (((zu (sBuM S ((sRel S (mu S) : Nat) : Int)) 68 (max 0 (min 999999 (((sBuM S ((sRel S (mu S) : Nat) : Int)) 68) + ((sLn S) * (sSlo S (mu S) 0)))))) 69) + ((sLn S) * (sSlo S (mu S) 1))))]) (rest := [.int (zI (69)), .ref ha]) (Wr := [(ha, .inl (D.2 1, 86, .inr (.inl (fNow (zu (sBuM S ((sRel S (mu S) : Nat) : Int)) 68 (max 0 (min 999999 (((sBuM S ((sRel S (mu S) : Nat) : Int)) 68) + ((sLn S) * (sSlo S (mu S) 0))))))))))]) ⟨hx, hb, hml, hown, hts⟩ (c_X7_within l D (((zu (sBuM S ((sRel S (mu S) : Nat) : Int)) 68 (max 0 (min 999999 (((sBuM S ((sRel S (mu S) : Nat) : Int)) 68) + ((sLn S) * (sSlo S (mu S) 0)))))) 69) + ((sLn S) * (sSlo S (mu S) 1))) (by omega)) (va_cwS 1 hts gX7_steps_X7_within rfl rfl rfl (by decide +kernel) ⟨Nat.le_of_ble_eq_true rfl, Nat.le_of_ble_eq_true rfl⟩) w [] rfl (by decide) [0] rfl (by decide) (by decide) rfl hl.1 rfl (lv_room (Nat.le_of_ble_eq_true rfl)) dX7_steps_62 ⟨Nat.zero_le _, Nat.zero_le _⟩ (fun r W1 H locs hp w => ?_)
  obtain ⟨rfl, rfl⟩ := hp
  have w : zW D A s.heap s [(ha, .inl (D.2 1, 86, .inr (.inl (fNow (zu (sBuM S ((sRel S (mu S) : Nat) : Int)) 68 (max 0 (min 999999 (((sBuM S ((sRel S (mu S) : Nat) : Int)) 68) + ((sLn S) * (sSlo S (mu S) 0))))))))))] H locs := w.sub [0] (by decide) rfl
  refine z_last hx hb w 0 rfl 69 (by omega) (by decide) rfl dX7_steps_65 (fNow (zu (zu (sBuM S ((sRel S (mu S) : Nat) : Int)) 68 (max 0 (min 999999 (((sBuM S ((sRel S (mu S) : Nat) : Int)) 68) + ((sLn S) * (sSlo S (mu S) 0)))))) 69 (max 0 (min 999999 (((zu (sBuM S ((sRel S (mu S) : Nat) : Int)) 68 (max 0 (min 999999 (((sBuM S ((sRel S (mu S) : Nat) : Int)) 68) + ((sLn S) * (sSlo S (mu S) 0)))))) 69) + ((sLn S) * (sSlo S (mu S) 1))))))) (fun i hi => fNow_zu hi) (fun H locs w => ?_)
  have w : zW D A s.heap s [(ha, .inl (D.2 1, 86, .inr (.inl (fNow (zu (zu (sBuM S ((sRel S (mu S) : Nat) : Int)) 68 (max 0 (min 999999 (((sBuM S ((sRel S (mu S) : Nat) : Int)) 68) + ((sLn S) * (sSlo S (mu S) 0)))))) 69 (max 0 (min 999999 (((zu (sBuM S ((sRel S (mu S) : Nat) : Int)) 68 (max 0 (min 999999 (((sBuM S ((sRel S (mu S) : Nat) : Int)) 68) + ((sLn S) * (sSlo S (mu S) 0)))))) 69) + ((sLn S) * (sSlo S (mu S) 1))))))))))] H locs := w
  refine lv_aload_n hx hb dX7_steps_66 rfl (lv_at hl 4 rfl) ?_
  refine lv_bipush (v := zI 70) hx hb dX7_steps_67 (by decide +kernel) ?_
  refine lv_aload_n hx hb dX7_steps_69 rfl (lv_at hl 4 rfl) ?_
  refine lv_bipush (v := zI 70) hx hb dX7_steps_70 (by decide +kernel) ?_
  refine z_lald hx hb w 0 rfl 70 (by omega) (by decide) rfl (v := (zL ((zu (zu (sBuM S ((sRel S (mu S) : Nat) : Int)) 68 (max 0 (min 999999 (((sBuM S ((sRel S (mu S) : Nat) : Int)) 68) + ((sLn S) * (sSlo S (mu S) 0)))))) 69 (max 0 (min 999999 (((zu (sBuM S ((sRel S (mu S) : Nat) : Int)) 68 (max 0 (min 999999 (((sBuM S ((sRel S (mu S) : Nat) : Int)) 68) + ((sLn S) * (sSlo S (mu S) 0)))))) 69) + ((sLn S) * (sSlo S (mu S) 1)))))) 70))) (if_pos (by omega)) dX7_steps_72 ?_
  have eb2 : (zu (zu (sBuM S ((sRel S (mu S) : Nat) : Int)) 68 (max 0 (min 999999 (((sBuM S ((sRel S (mu S) : Nat) : Int)) 68) + ((sLn S) * (sSlo S (mu S) 0)))))) 69 (max 0 (min 999999 (((zu (sBuM S ((sRel S (mu S) : Nat) : Int)) 68 (max 0 (min 999999 (((sBuM S ((sRel S (mu S) : Nat) : Int)) 68) + ((sLn S) * (sSlo S (mu S) 0)))))) 69) + ((sLn S) * (sSlo S (mu S) 1)))))) 70 = S 70 := by rw [zu_n _ _ (by omega), zu_n _ _ (by omega), sBuM_far _ _ (by omega)]
  refine lv_lload_n hx hb dX7_steps_73 rfl (lv_at hl 3 rfl) ?_
  refine lv_iload hx hb dX7_steps_74 (lv_at hl 0 rfl) ?_
  refine z_i2l hx hb (by omega) dX7_steps_76 ?_
  refine z_lmul hx hb dX7_steps_77 ?_
  refine z_ladd hx hb dX7_steps_78 ?_
  refine z_S_l (As := [.long (zL (((zu (zu (sBuM S ((sRel S (mu S) : Nat) : Int)) 68 (max 0 (min 999999 (((sBuM S ((sRel S (mu S) : Nat) : Int)) 68) + ((sLn S) * (sSlo S (mu S) 0)))))) 69 (max 0 (min 999999 (((zu (sBuM S ((sRel S (mu S) : Nat) : Int)) 68 (max 0 (min 999999 (((sBuM S ((sRel S (mu S) : Nat) : Int)) 68) + ((sLn S) * (sSlo S (mu S) 0)))))) 69) + ((sLn S) * (sSlo S (mu S) 1)))))) 70) + ((sLn S) * (sSlo S (mu S) 2))))]) (rest := [.int (zI (70)), .ref ha]) (Wr := [(ha, .inl (D.2 1, 86, .inr (.inl (fNow (zu (zu (sBuM S ((sRel S (mu S) : Nat) : Int)) 68 (max 0 (min 999999 (((sBuM S ((sRel S (mu S) : Nat) : Int)) 68) + ((sLn S) * (sSlo S (mu S) 0)))))) 69 (max 0 (min 999999 (((zu (sBuM S ((sRel S (mu S) : Nat) : Int)) 68 (max 0 (min 999999 (((sBuM S ((sRel S (mu S) : Nat) : Int)) 68) + ((sLn S) * (sSlo S (mu S) 0)))))) 69) + ((sLn S) * (sSlo S (mu S) 1))))))))))]) ⟨hx, hb, hml, hown, hts⟩ (c_X7_within l D (((zu (zu (sBuM S ((sRel S (mu S) : Nat) : Int)) 68 (max 0 (min 999999 (((sBuM S ((sRel S (mu S) : Nat) : Int)) 68) + ((sLn S) * (sSlo S (mu S) 0)))))) 69 (max 0 (min 999999 (((zu (sBuM S ((sRel S (mu S) : Nat) : Int)) 68 (max 0 (min 999999 (((sBuM S ((sRel S (mu S) : Nat) : Int)) 68) + ((sLn S) * (sSlo S (mu S) 0)))))) 69) + ((sLn S) * (sSlo S (mu S) 1)))))) 70) + ((sLn S) * (sSlo S (mu S) 2))) (by omega)) (va_cwS 1 hts gX7_steps_X7_within rfl rfl rfl (by decide +kernel) ⟨Nat.le_of_ble_eq_true rfl, Nat.le_of_ble_eq_true rfl⟩) w [] rfl (by decide) [0] rfl (by decide) (by decide) rfl hl.1 rfl (lv_room (Nat.le_of_ble_eq_true rfl)) dX7_steps_79 ⟨Nat.zero_le _, Nat.zero_le _⟩ (fun r W1 H locs hp w => ?_)
  obtain ⟨rfl, rfl⟩ := hp
  have w : zW D A s.heap s [(ha, .inl (D.2 1, 86, .inr (.inl (fNow (zu (zu (sBuM S ((sRel S (mu S) : Nat) : Int)) 68 (max 0 (min 999999 (((sBuM S ((sRel S (mu S) : Nat) : Int)) 68) + ((sLn S) * (sSlo S (mu S) 0)))))) 69 (max 0 (min 999999 (((zu (sBuM S ((sRel S (mu S) : Nat) : Int)) 68 (max 0 (min 999999 (((sBuM S ((sRel S (mu S) : Nat) : Int)) 68) + ((sLn S) * (sSlo S (mu S) 0)))))) 69) + ((sLn S) * (sSlo S (mu S) 1))))))))))] H locs := w.sub [0] (by decide) rfl
  refine z_last hx hb w 0 rfl 70 (by omega) (by decide) rfl dX7_steps_82 (fNow (zu (zu (zu (sBuM S ((sRel S (mu S) : Nat) : Int)) 68 (max 0 (min 999999 (((sBuM S ((sRel S (mu S) : Nat) : Int)) 68) + ((sLn S) * (sSlo S (mu S) 0)))))) 69 (max 0 (min 999999 (((zu (sBuM S ((sRel S (mu S) : Nat) : Int)) 68 (max 0 (min 999999 (((sBuM S ((sRel S (mu S) : Nat) : Int)) 68) + ((sLn S) * (sSlo S (mu S) 0)))))) 69) + ((sLn S) * (sSlo S (mu S) 1)))))) 70 (max 0 (min 999999 (((zu (zu (sBuM S ((sRel S (mu S) : Nat) : Int)) 68 (max 0 (min 999999 (((sBuM S ((sRel S (mu S) : Nat) : Int)) 68) + ((sLn S) * (sSlo S (mu S) 0)))))) 69 (max 0 (min 999999 (((zu (sBuM S ((sRel S (mu S) : Nat) : Int)) 68 (max 0 (min 999999 (((sBuM S ((sRel S (mu S) : Nat) : Int)) 68) + ((sLn S) * (sSlo S (mu S) 0)))))) 69) + ((sLn S) * (sSlo S (mu S) 1)))))) 70) + ((sLn S) * (sSlo S (mu S) 2))))))) (fun i hi => fNow_zu hi) (fun H locs w => ?_)
  have w : zW D A s.heap s [(ha, .inl (D.2 1, 86, .inr (.inl (fNow (zu (zu (zu (sBuM S ((sRel S (mu S) : Nat) : Int)) 68 (max 0 (min 999999 (((sBuM S ((sRel S (mu S) : Nat) : Int)) 68) + ((sLn S) * (sSlo S (mu S) 0)))))) 69 (max 0 (min 999999 (((zu (sBuM S ((sRel S (mu S) : Nat) : Int)) 68 (max 0 (min 999999 (((sBuM S ((sRel S (mu S) : Nat) : Int)) 68) + ((sLn S) * (sSlo S (mu S) 0)))))) 69) + ((sLn S) * (sSlo S (mu S) 1)))))) 70 (max 0 (min 999999 (((zu (zu (sBuM S ((sRel S (mu S) : Nat) : Int)) 68 (max 0 (min 999999 (((sBuM S ((sRel S (mu S) : Nat) : Int)) 68) + ((sLn S) * (sSlo S (mu S) 0)))))) 69 (max 0 (min 999999 (((zu (sBuM S ((sRel S (mu S) : Nat) : Int)) 68 (max 0 (min 999999 (((sBuM S ((sRel S (mu S) : Nat) : Int)) 68) + ((sLn S) * (sSlo S (mu S) 0)))))) 69) + ((sLn S) * (sSlo S (mu S) 1)))))) 70) + ((sLn S) * (sSlo S (mu S) 2))))))))))] H locs := w
  refine lv_aload_n hx hb dX7_steps_83 rfl (lv_at hl 4 rfl) ?_
  refine lv_bipush (v := zI 73) hx hb dX7_steps_84 (by decide +kernel) ?_
  refine lv_dup2_11 hx hb dX7_steps_86 rfl rfl ?_
  refine z_lald hx hb w 0 rfl 73 (by omega) (by decide) rfl (v := (zL ((zu (zu (zu (sBuM S ((sRel S (mu S) : Nat) : Int)) 68 (max 0 (min 999999 (((sBuM S ((sRel S (mu S) : Nat) : Int)) 68) + ((sLn S) * (sSlo S (mu S) 0)))))) 69 (max 0 (min 999999 (((zu (sBuM S ((sRel S (mu S) : Nat) : Int)) 68 (max 0 (min 999999 (((sBuM S ((sRel S (mu S) : Nat) : Int)) 68) + ((sLn S) * (sSlo S (mu S) 0)))))) 69) + ((sLn S) * (sSlo S (mu S) 1)))))) 70 (max 0 (min 999999 (((zu (zu (sBuM S ((sRel S (mu S) : Nat) : Int)) 68 (max 0 (min 999999 (((sBuM S ((sRel S (mu S) : Nat) : Int)) 68) + ((sLn S) * (sSlo S (mu S) 0)))))) 69 (max 0 (min 999999 (((zu (sBuM S ((sRel S (mu S) : Nat) : Int)) 68 (max 0 (min 999999 (((sBuM S ((sRel S (mu S) : Nat) : Int)) 68) + ((sLn S) * (sSlo S (mu S) 0)))))) 69) + ((sLn S) * (sSlo S (mu S) 1)))))) 70) + ((sLn S) * (sSlo S (mu S) 2)))))) 73))) (if_pos (by omega)) dX7_steps_87 ?_
  refine lv_lconst (v := zL 1) hx hb dX7_steps_88 rfl ?_
  refine z_ladd hx hb dX7_steps_89 ?_
  refine z_last hx hb w 0 rfl 73 (by omega) (by decide) rfl dX7_steps_90 (fNow (zu (zu (zu (zu (sBuM S ((sRel S (mu S) : Nat) : Int)) 68 (max 0 (min 999999 (((sBuM S ((sRel S (mu S) : Nat) : Int)) 68) + ((sLn S) * (sSlo S (mu S) 0)))))) 69 (max 0 (min 999999 (((zu (sBuM S ((sRel S (mu S) : Nat) : Int)) 68 (max 0 (min 999999 (((sBuM S ((sRel S (mu S) : Nat) : Int)) 68) + ((sLn S) * (sSlo S (mu S) 0)))))) 69) + ((sLn S) * (sSlo S (mu S) 1)))))) 70 (max 0 (min 999999 (((zu (zu (sBuM S ((sRel S (mu S) : Nat) : Int)) 68 (max 0 (min 999999 (((sBuM S ((sRel S (mu S) : Nat) : Int)) 68) + ((sLn S) * (sSlo S (mu S) 0)))))) 69 (max 0 (min 999999 (((zu (sBuM S ((sRel S (mu S) : Nat) : Int)) 68 (max 0 (min 999999 (((sBuM S ((sRel S (mu S) : Nat) : Int)) 68) + ((sLn S) * (sSlo S (mu S) 0)))))) 69) + ((sLn S) * (sSlo S (mu S) 1)))))) 70) + ((sLn S) * (sSlo S (mu S) 2)))))) 73 (((zu (zu (zu (sBuM S ((sRel S (mu S) : Nat) : Int)) 68 (max 0 (min 999999 (((sBuM S ((sRel S (mu S) : Nat) : Int)) 68) + ((sLn S) * (sSlo S (mu S) 0)))))) 69 (max 0 (min 999999 (((zu (sBuM S ((sRel S (mu S) : Nat) : Int)) 68 (max 0 (min 999999 (((sBuM S ((sRel S (mu S) : Nat) : Int)) 68) + ((sLn S) * (sSlo S (mu S) 0)))))) 69) + ((sLn S) * (sSlo S (mu S) 1)))))) 70 (max 0 (min 999999 (((zu (zu (sBuM S ((sRel S (mu S) : Nat) : Int)) 68 (max 0 (min 999999 (((sBuM S ((sRel S (mu S) : Nat) : Int)) 68) + ((sLn S) * (sSlo S (mu S) 0)))))) 69 (max 0 (min 999999 (((zu (sBuM S ((sRel S (mu S) : Nat) : Int)) 68 (max 0 (min 999999 (((sBuM S ((sRel S (mu S) : Nat) : Int)) 68) + ((sLn S) * (sSlo S (mu S) 0)))))) 69) + ((sLn S) * (sSlo S (mu S) 1)))))) 70) + ((sLn S) * (sSlo S (mu S) 2)))))) 73) + 1))) (fun i hi => fNow_zu hi) (fun H locs w => ?_)
  have w : zW D A s.heap s [(ha, .inl (D.2 1, 86, .inr (.inl (fNow (zu (zu (zu (zu (sBuM S ((sRel S (mu S) : Nat) : Int)) 68 (max 0 (min 999999 (((sBuM S ((sRel S (mu S) : Nat) : Int)) 68) + ((sLn S) * (sSlo S (mu S) 0)))))) 69 (max 0 (min 999999 (((zu (sBuM S ((sRel S (mu S) : Nat) : Int)) 68 (max 0 (min 999999 (((sBuM S ((sRel S (mu S) : Nat) : Int)) 68) + ((sLn S) * (sSlo S (mu S) 0)))))) 69) + ((sLn S) * (sSlo S (mu S) 1)))))) 70 (max 0 (min 999999 (((zu (zu (sBuM S ((sRel S (mu S) : Nat) : Int)) 68 (max 0 (min 999999 (((sBuM S ((sRel S (mu S) : Nat) : Int)) 68) + ((sLn S) * (sSlo S (mu S) 0)))))) 69 (max 0 (min 999999 (((zu (sBuM S ((sRel S (mu S) : Nat) : Int)) 68 (max 0 (min 999999 (((sBuM S ((sRel S (mu S) : Nat) : Int)) 68) + ((sLn S) * (sSlo S (mu S) 0)))))) 69) + ((sLn S) * (sSlo S (mu S) 1)))))) 70) + ((sLn S) * (sSlo S (mu S) 2)))))) 73 (((zu (zu (zu (sBuM S ((sRel S (mu S) : Nat) : Int)) 68 (max 0 (min 999999 (((sBuM S ((sRel S (mu S) : Nat) : Int)) 68) + ((sLn S) * (sSlo S (mu S) 0)))))) 69 (max 0 (min 999999 (((zu (sBuM S ((sRel S (mu S) : Nat) : Int)) 68 (max 0 (min 999999 (((sBuM S ((sRel S (mu S) : Nat) : Int)) 68) + ((sLn S) * (sSlo S (mu S) 0)))))) 69) + ((sLn S) * (sSlo S (mu S) 1)))))) 70 (max 0 (min 999999 (((zu (zu (sBuM S ((sRel S (mu S) : Nat) : Int)) 68 (max 0 (min 999999 (((sBuM S ((sRel S (mu S) : Nat) : Int)) 68) + ((sLn S) * (sSlo S (mu S) 0)))))) 69 (max 0 (min 999999 (((zu (sBuM S ((sRel S (mu S) : Nat) : Int)) 68 (max 0 (min 999999 (((sBuM S ((sRel S (mu S) : Nat) : Int)) 68) + ((sLn S) * (sSlo S (mu S) 0)))))) 69) + ((sLn S) * (sSlo S (mu S) 1)))))) 70) + ((sLn S) * (sSlo S (mu S) 2)))))) 73) + 1))))))] H locs := w
  refine lv_aload_n hx hb dX7_steps_91 rfl (lv_at hl 4 rfl) ?_
  refine lv_bipush (v := zI 74) hx hb dX7_steps_92 (by decide +kernel) ?_
  refine lv_dup2_11 hx hb dX7_steps_94 rfl rfl ?_
  refine z_lald hx hb w 0 rfl 74 (by omega) (by decide) rfl (v := (zL ((zu (zu (zu (zu (sBuM S ((sRel S (mu S) : Nat) : Int)) 68 (max 0 (min 999999 (((sBuM S ((sRel S (mu S) : Nat) : Int)) 68) + ((sLn S) * (sSlo S (mu S) 0)))))) 69 (max 0 (min 999999 (((zu (sBuM S ((sRel S (mu S) : Nat) : Int)) 68 (max 0 (min 999999 (((sBuM S ((sRel S (mu S) : Nat) : Int)) 68) + ((sLn S) * (sSlo S (mu S) 0)))))) 69) + ((sLn S) * (sSlo S (mu S) 1)))))) 70 (max 0 (min 999999 (((zu (zu (sBuM S ((sRel S (mu S) : Nat) : Int)) 68 (max 0 (min 999999 (((sBuM S ((sRel S (mu S) : Nat) : Int)) 68) + ((sLn S) * (sSlo S (mu S) 0)))))) 69 (max 0 (min 999999 (((zu (sBuM S ((sRel S (mu S) : Nat) : Int)) 68 (max 0 (min 999999 (((sBuM S ((sRel S (mu S) : Nat) : Int)) 68) + ((sLn S) * (sSlo S (mu S) 0)))))) 69) + ((sLn S) * (sSlo S (mu S) 1)))))) 70) + ((sLn S) * (sSlo S (mu S) 2)))))) 73 (((zu (zu (zu (sBuM S ((sRel S (mu S) : Nat) : Int)) 68 (max 0 (min 999999 (((sBuM S ((sRel S (mu S) : Nat) : Int)) 68) + ((sLn S) * (sSlo S (mu S) 0)))))) 69 (max 0 (min 999999 (((zu (sBuM S ((sRel S (mu S) : Nat) : Int)) 68 (max 0 (min 999999 (((sBuM S ((sRel S (mu S) : Nat) : Int)) 68) + ((sLn S) * (sSlo S (mu S) 0)))))) 69) + ((sLn S) * (sSlo S (mu S) 1)))))) 70 (max 0 (min 999999 (((zu (zu (sBuM S ((sRel S (mu S) : Nat) : Int)) 68 (max 0 (min 999999 (((sBuM S ((sRel S (mu S) : Nat) : Int)) 68) + ((sLn S) * (sSlo S (mu S) 0)))))) 69 (max 0 (min 999999 (((zu (sBuM S ((sRel S (mu S) : Nat) : Int)) 68 (max 0 (min 999999 (((sBuM S ((sRel S (mu S) : Nat) : Int)) 68) + ((sLn S) * (sSlo S (mu S) 0)))))) 69) + ((sLn S) * (sSlo S (mu S) 1)))))) 70) + ((sLn S) * (sSlo S (mu S) 2)))))) 73) + 1)) 74))) (if_pos (by omega)) dX7_steps_95 ?_
  refine lv_lconst (v := zL 1) hx hb dX7_steps_96 rfl ?_
  refine z_ladd hx hb dX7_steps_97 ?_
  refine z_last hx hb w 0 rfl 74 (by omega) (by decide) rfl dX7_steps_98 (fNow (zu (zu (zu (zu (zu (sBuM S ((sRel S (mu S) : Nat) : Int)) 68 (max 0 (min 999999 (((sBuM S ((sRel S (mu S) : Nat) : Int)) 68) + ((sLn S) * (sSlo S (mu S) 0)))))) 69 (max 0 (min 999999 (((zu (sBuM S ((sRel S (mu S) : Nat) : Int)) 68 (max 0 (min 999999 (((sBuM S ((sRel S (mu S) : Nat) : Int)) 68) + ((sLn S) * (sSlo S (mu S) 0)))))) 69) + ((sLn S) * (sSlo S (mu S) 1)))))) 70 (max 0 (min 999999 (((zu (zu (sBuM S ((sRel S (mu S) : Nat) : Int)) 68 (max 0 (min 999999 (((sBuM S ((sRel S (mu S) : Nat) : Int)) 68) + ((sLn S) * (sSlo S (mu S) 0)))))) 69 (max 0 (min 999999 (((zu (sBuM S ((sRel S (mu S) : Nat) : Int)) 68 (max 0 (min 999999 (((sBuM S ((sRel S (mu S) : Nat) : Int)) 68) + ((sLn S) * (sSlo S (mu S) 0)))))) 69) + ((sLn S) * (sSlo S (mu S) 1)))))) 70) + ((sLn S) * (sSlo S (mu S) 2)))))) 73 (((zu (zu (zu (sBuM S ((sRel S (mu S) : Nat) : Int)) 68 (max 0 (min 999999 (((sBuM S ((sRel S (mu S) : Nat) : Int)) 68) + ((sLn S) * (sSlo S (mu S) 0)))))) 69 (max 0 (min 999999 (((zu (sBuM S ((sRel S (mu S) : Nat) : Int)) 68 (max 0 (min 999999 (((sBuM S ((sRel S (mu S) : Nat) : Int)) 68) + ((sLn S) * (sSlo S (mu S) 0)))))) 69) + ((sLn S) * (sSlo S (mu S) 1)))))) 70 (max 0 (min 999999 (((zu (zu (sBuM S ((sRel S (mu S) : Nat) : Int)) 68 (max 0 (min 999999 (((sBuM S ((sRel S (mu S) : Nat) : Int)) 68) + ((sLn S) * (sSlo S (mu S) 0)))))) 69 (max 0 (min 999999 (((zu (sBuM S ((sRel S (mu S) : Nat) : Int)) 68 (max 0 (min 999999 (((sBuM S ((sRel S (mu S) : Nat) : Int)) 68) + ((sLn S) * (sSlo S (mu S) 0)))))) 69) + ((sLn S) * (sSlo S (mu S) 1)))))) 70) + ((sLn S) * (sSlo S (mu S) 2)))))) 73) + 1)) 74 (((zu (zu (zu (zu (sBuM S ((sRel S (mu S) : Nat) : Int)) 68 (max 0 (min 999999 (((sBuM S ((sRel S (mu S) : Nat) : Int)) 68) + ((sLn S) * (sSlo S (mu S) 0)))))) 69 (max 0 (min 999999 (((zu (sBuM S ((sRel S (mu S) : Nat) : Int)) 68 (max 0 (min 999999 (((sBuM S ((sRel S (mu S) : Nat) : Int)) 68) + ((sLn S) * (sSlo S (mu S) 0)))))) 69) + ((sLn S) * (sSlo S (mu S) 1)))))) 70 (max 0 (min 999999 (((zu (zu (sBuM S ((sRel S (mu S) : Nat) : Int)) 68 (max 0 (min 999999 (((sBuM S ((sRel S (mu S) : Nat) : Int)) 68) + ((sLn S) * (sSlo S (mu S) 0)))))) 69 (max 0 (min 999999 (((zu (sBuM S ((sRel S (mu S) : Nat) : Int)) 68 (max 0 (min 999999 (((sBuM S ((sRel S (mu S) : Nat) : Int)) 68) + ((sLn S) * (sSlo S (mu S) 0)))))) 69) + ((sLn S) * (sSlo S (mu S) 1)))))) 70) + ((sLn S) * (sSlo S (mu S) 2)))))) 73 (((zu (zu (zu (sBuM S ((sRel S (mu S) : Nat) : Int)) 68 (max 0 (min 999999 (((sBuM S ((sRel S (mu S) : Nat) : Int)) 68) + ((sLn S) * (sSlo S (mu S) 0)))))) 69 (max 0 (min 999999 (((zu (sBuM S ((sRel S (mu S) : Nat) : Int)) 68 (max 0 (min 999999 (((sBuM S ((sRel S (mu S) : Nat) : Int)) 68) + ((sLn S) * (sSlo S (mu S) 0)))))) 69) + ((sLn S) * (sSlo S (mu S) 1)))))) 70 (max 0 (min 999999 (((zu (zu (sBuM S ((sRel S (mu S) : Nat) : Int)) 68 (max 0 (min 999999 (((sBuM S ((sRel S (mu S) : Nat) : Int)) 68) + ((sLn S) * (sSlo S (mu S) 0)))))) 69 (max 0 (min 999999 (((zu (sBuM S ((sRel S (mu S) : Nat) : Int)) 68 (max 0 (min 999999 (((sBuM S ((sRel S (mu S) : Nat) : Int)) 68) + ((sLn S) * (sSlo S (mu S) 0)))))) 69) + ((sLn S) * (sSlo S (mu S) 1)))))) 70) + ((sLn S) * (sSlo S (mu S) 2)))))) 73) + 1)) 74) + 1))) (fun i hi => fNow_zu hi) (fun H locs w => ?_)
  have w : zW D A s.heap s [(ha, .inl (D.2 1, 86, .inr (.inl (fNow (zu (zu (zu (zu (zu (sBuM S ((sRel S (mu S) : Nat) : Int)) 68 (max 0 (min 999999 (((sBuM S ((sRel S (mu S) : Nat) : Int)) 68) + ((sLn S) * (sSlo S (mu S) 0)))))) 69 (max 0 (min 999999 (((zu (sBuM S ((sRel S (mu S) : Nat) : Int)) 68 (max 0 (min 999999 (((sBuM S ((sRel S (mu S) : Nat) : Int)) 68) + ((sLn S) * (sSlo S (mu S) 0)))))) 69) + ((sLn S) * (sSlo S (mu S) 1)))))) 70 (max 0 (min 999999 (((zu (zu (sBuM S ((sRel S (mu S) : Nat) : Int)) 68 (max 0 (min 999999 (((sBuM S ((sRel S (mu S) : Nat) : Int)) 68) + ((sLn S) * (sSlo S (mu S) 0)))))) 69 (max 0 (min 999999 (((zu (sBuM S ((sRel S (mu S) : Nat) : Int)) 68 (max 0 (min 999999 (((sBuM S ((sRel S (mu S) : Nat) : Int)) 68) + ((sLn S) * (sSlo S (mu S) 0)))))) 69) + ((sLn S) * (sSlo S (mu S) 1)))))) 70) + ((sLn S) * (sSlo S (mu S) 2)))))) 73 (((zu (zu (zu (sBuM S ((sRel S (mu S) : Nat) : Int)) 68 (max 0 (min 999999 (((sBuM S ((sRel S (mu S) : Nat) : Int)) 68) + ((sLn S) * (sSlo S (mu S) 0)))))) 69 (max 0 (min 999999 (((zu (sBuM S ((sRel S (mu S) : Nat) : Int)) 68 (max 0 (min 999999 (((sBuM S ((sRel S (mu S) : Nat) : Int)) 68) + ((sLn S) * (sSlo S (mu S) 0)))))) 69) + ((sLn S) * (sSlo S (mu S) 1)))))) 70 (max 0 (min 999999 (((zu (zu (sBuM S ((sRel S (mu S) : Nat) : Int)) 68 (max 0 (min 999999 (((sBuM S ((sRel S (mu S) : Nat) : Int)) 68) + ((sLn S) * (sSlo S (mu S) 0)))))) 69 (max 0 (min 999999 (((zu (sBuM S ((sRel S (mu S) : Nat) : Int)) 68 (max 0 (min 999999 (((sBuM S ((sRel S (mu S) : Nat) : Int)) 68) + ((sLn S) * (sSlo S (mu S) 0)))))) 69) + ((sLn S) * (sSlo S (mu S) 1)))))) 70) + ((sLn S) * (sSlo S (mu S) 2)))))) 73) + 1)) 74 (((zu (zu (zu (zu (sBuM S ((sRel S (mu S) : Nat) : Int)) 68 (max 0 (min 999999 (((sBuM S ((sRel S (mu S) : Nat) : Int)) 68) + ((sLn S) * (sSlo S (mu S) 0)))))) 69 (max 0 (min 999999 (((zu (sBuM S ((sRel S (mu S) : Nat) : Int)) 68 (max 0 (min 999999 (((sBuM S ((sRel S (mu S) : Nat) : Int)) 68) + ((sLn S) * (sSlo S (mu S) 0)))))) 69) + ((sLn S) * (sSlo S (mu S) 1)))))) 70 (max 0 (min 999999 (((zu (zu (sBuM S ((sRel S (mu S) : Nat) : Int)) 68 (max 0 (min 999999 (((sBuM S ((sRel S (mu S) : Nat) : Int)) 68) + ((sLn S) * (sSlo S (mu S) 0)))))) 69 (max 0 (min 999999 (((zu (sBuM S ((sRel S (mu S) : Nat) : Int)) 68 (max 0 (min 999999 (((sBuM S ((sRel S (mu S) : Nat) : Int)) 68) + ((sLn S) * (sSlo S (mu S) 0)))))) 69) + ((sLn S) * (sSlo S (mu S) 1)))))) 70) + ((sLn S) * (sSlo S (mu S) 2)))))) 73 (((zu (zu (zu (sBuM S ((sRel S (mu S) : Nat) : Int)) 68 (max 0 (min 999999 (((sBuM S ((sRel S (mu S) : Nat) : Int)) 68) + ((sLn S) * (sSlo S (mu S) 0)))))) 69 (max 0 (min 999999 (((zu (sBuM S ((sRel S (mu S) : Nat) : Int)) 68 (max 0 (min 999999 (((sBuM S ((sRel S (mu S) : Nat) : Int)) 68) + ((sLn S) * (sSlo S (mu S) 0)))))) 69) + ((sLn S) * (sSlo S (mu S) 1)))))) 70 (max 0 (min 999999 (((zu (zu (sBuM S ((sRel S (mu S) : Nat) : Int)) 68 (max 0 (min 999999 (((sBuM S ((sRel S (mu S) : Nat) : Int)) 68) + ((sLn S) * (sSlo S (mu S) 0)))))) 69 (max 0 (min 999999 (((zu (sBuM S ((sRel S (mu S) : Nat) : Int)) 68 (max 0 (min 999999 (((sBuM S ((sRel S (mu S) : Nat) : Int)) 68) + ((sLn S) * (sSlo S (mu S) 0)))))) 69) + ((sLn S) * (sSlo S (mu S) 1)))))) 70) + ((sLn S) * (sSlo S (mu S) 2)))))) 73) + 1)) 74) + 1))))))] H locs := w
  have e99 : (zu (zu (zu (zu (zu (sBuM S ((sRel S (mu S) : Nat) : Int)) 68 (max 0 (min 999999 (((sBuM S ((sRel S (mu S) : Nat) : Int)) 68) + ((sLn S) * (sSlo S (mu S) 0)))))) 69 (max 0 (min 999999 (((zu (sBuM S ((sRel S (mu S) : Nat) : Int)) 68 (max 0 (min 999999 (((sBuM S ((sRel S (mu S) : Nat) : Int)) 68) + ((sLn S) * (sSlo S (mu S) 0)))))) 69) + ((sLn S) * (sSlo S (mu S) 1)))))) 70 (max 0 (min 999999 (((zu (zu (sBuM S ((sRel S (mu S) : Nat) : Int)) 68 (max 0 (min 999999 (((sBuM S ((sRel S (mu S) : Nat) : Int)) 68) + ((sLn S) * (sSlo S (mu S) 0)))))) 69 (max 0 (min 999999 (((zu (sBuM S ((sRel S (mu S) : Nat) : Int)) 68 (max 0 (min 999999 (((sBuM S ((sRel S (mu S) : Nat) : Int)) 68) + ((sLn S) * (sSlo S (mu S) 0)))))) 69) + ((sLn S) * (sSlo S (mu S) 1)))))) 70) + ((sLn S) * (sSlo S (mu S) 2)))))) 73 (((zu (zu (zu (sBuM S ((sRel S (mu S) : Nat) : Int)) 68 (max 0 (min 999999 (((sBuM S ((sRel S (mu S) : Nat) : Int)) 68) + ((sLn S) * (sSlo S (mu S) 0)))))) 69 (max 0 (min 999999 (((zu (sBuM S ((sRel S (mu S) : Nat) : Int)) 68 (max 0 (min 999999 (((sBuM S ((sRel S (mu S) : Nat) : Int)) 68) + ((sLn S) * (sSlo S (mu S) 0)))))) 69) + ((sLn S) * (sSlo S (mu S) 1)))))) 70 (max 0 (min 999999 (((zu (zu (sBuM S ((sRel S (mu S) : Nat) : Int)) 68 (max 0 (min 999999 (((sBuM S ((sRel S (mu S) : Nat) : Int)) 68) + ((sLn S) * (sSlo S (mu S) 0)))))) 69 (max 0 (min 999999 (((zu (sBuM S ((sRel S (mu S) : Nat) : Int)) 68 (max 0 (min 999999 (((sBuM S ((sRel S (mu S) : Nat) : Int)) 68) + ((sLn S) * (sSlo S (mu S) 0)))))) 69) + ((sLn S) * (sSlo S (mu S) 1)))))) 70) + ((sLn S) * (sSlo S (mu S) 2)))))) 73) + 1)) 74 (((zu (zu (zu (zu (sBuM S ((sRel S (mu S) : Nat) : Int)) 68 (max 0 (min 999999 (((sBuM S ((sRel S (mu S) : Nat) : Int)) 68) + ((sLn S) * (sSlo S (mu S) 0)))))) 69 (max 0 (min 999999 (((zu (sBuM S ((sRel S (mu S) : Nat) : Int)) 68 (max 0 (min 999999 (((sBuM S ((sRel S (mu S) : Nat) : Int)) 68) + ((sLn S) * (sSlo S (mu S) 0)))))) 69) + ((sLn S) * (sSlo S (mu S) 1)))))) 70 (max 0 (min 999999 (((zu (zu (sBuM S ((sRel S (mu S) : Nat) : Int)) 68 (max 0 (min 999999 (((sBuM S ((sRel S (mu S) : Nat) : Int)) 68) + ((sLn S) * (sSlo S (mu S) 0)))))) 69 (max 0 (min 999999 (((zu (sBuM S ((sRel S (mu S) : Nat) : Int)) 68 (max 0 (min 999999 (((sBuM S ((sRel S (mu S) : Nat) : Int)) 68) + ((sLn S) * (sSlo S (mu S) 0)))))) 69) + ((sLn S) * (sSlo S (mu S) 1)))))) 70) + ((sLn S) * (sSlo S (mu S) 2)))))) 73 (((zu (zu (zu (sBuM S ((sRel S (mu S) : Nat) : Int)) 68 (max 0 (min 999999 (((sBuM S ((sRel S (mu S) : Nat) : Int)) 68) + ((sLn S) * (sSlo S (mu S) 0)))))) 69 (max 0 (min 999999 (((zu (sBuM S ((sRel S (mu S) : Nat) : Int)) 68 (max 0 (min 999999 (((sBuM S ((sRel S (mu S) : Nat) : Int)) 68) + ((sLn S) * (sSlo S (mu S) 0)))))) 69) + ((sLn S) * (sSlo S (mu S) 1)))))) 70 (max 0 (min 999999 (((zu (zu (sBuM S ((sRel S (mu S) : Nat) : Int)) 68 (max 0 (min 999999 (((sBuM S ((sRel S (mu S) : Nat) : Int)) 68) + ((sLn S) * (sSlo S (mu S) 0)))))) 69 (max 0 (min 999999 (((zu (sBuM S ((sRel S (mu S) : Nat) : Int)) 68 (max 0 (min 999999 (((sBuM S ((sRel S (mu S) : Nat) : Int)) 68) + ((sLn S) * (sSlo S (mu S) 0)))))) 69) + ((sLn S) * (sSlo S (mu S) 1)))))) 70) + ((sLn S) * (sSlo S (mu S) 2)))))) 73) + 1)) 74) + 1)) = sSt0 S := sSt0_mk rfl (by rw [sBuM_far _ _ (by omega)]; rfl) (by rw [zu_n _ _ (by omega), sBuM_far _ _ (by omega)]; rfl) (by rw [zu_n _ _ (by omega), zu_n _ _ (by omega), sBuM_far _ _ (by omega)]; rfl) (by rw [zu_n _ _ (by omega), zu_n _ _ (by omega), zu_n _ _ (by omega), sBuM_far _ _ (by omega)]) (by rw [zu_n _ _ (by omega), zu_n _ _ (by omega), zu_n _ _ (by omega), zu_n _ _ (by omega), sBuM_far _ _ (by omega)])
  have w : zW D A s.heap s [(ha, .inl (D.2 1, 86, .inr (.inl (fNow (sSt0 S)))))] H locs := w.to (by rw [e99])
  have hok0 := OkS_st0 hokS
  refine lv_aload_n hx hb dX7_steps_99 rfl (lv_at hl 4 rfl) ?_
  refine z_S_i (As := [.ref ha]) (rest := []) (Wr := []) ⟨hx, hb, hml, hown, hts⟩ (c_X7_isLess l D ha (sSt0 S) hok0.1 hok0.2.1 (by have := hok0.2.2.2.1.2.2.2.2; omega)) (va_cwS 1 hts gX7_steps_X7_isLess rfl rfl rfl (by decide +kernel) ⟨Nat.le_of_ble_eq_true rfl, Nat.le_of_ble_eq_true rfl⟩) w [0] rfl (by decide) [] rfl (by decide) (by decide) rfl hl.1 rfl (lv_room (Nat.le_of_ble_eq_true rfl)) dX7_steps_100 ⟨Nat.zero_le _, Nat.zero_le _⟩ (fun r W1 H locs hp w => ?_)
  obtain ⟨rfl, rfl⟩ := hp
  have w : zW D A s.heap s [(ha, .inl (D.2 1, 86, .inr (.inl (fNow (sLs (sSt0 S))))))] H locs := w.sub [0] (by decide) rfl
  exact z_zret hx hb hr hlocks w dX7_steps_103 (zb_01 _) ⟨rfl, rfl⟩
set_option maxHeartbeats 6000000 in
set_option maxRecDepth 100000 in
theorem c_X7_stepsMany (l : Launch) (D : zD) (hmo ha hth hpa hsl hhe hpd hor : Nat) (kp pd ap od : Int) (S : Nat → Int) (B : Int) (hB : B ≤ 1900000000) (hokS : OkS B S) (n0 : Int) (hn0 : 0 ≤ n0 ∧ n0 ≤ 99) : zM l yX7_stepsMany wsX7_stepsMany (zR (6)) zE0 D [.ref hmo, .int (zI (n0))] (wMb D hmo ha hth hpa hsl hhe hpd hor kp pd ap od S) (zQi D (fun r W1 => r = zI (sBet S n0.toNat) ∧ W1 = (wMb D hmo ha hth hpa hsl hhe hpd hor kp pd ap od (sStN S n0.toNat)))) := by
  refine zM.of (cc := cX7_stepsMany) (maxL := 4) (ret := (some .int)) (by decide) rfl (Nat.le_of_ble_eq_true rfl) ?_
  intro p e s m below meth c A hx hb hml hown hts hr hlocks hE hnm w ls hl
  have hown : s.vm.findClass RX7 = some m.cls := hown
  have hl : lv_has ls 4 [(0, .ref hmo), (1, .int (zI (n0)))] := hl
  have f_7 : (Cond.fieldLink RX7 7 "RelaxedStepsModel" "now" "[J").before _ s = true := hts _ (by decide +kernel)
  have inX7 : ∀ w ∈ u_ws RX7 TX7 11, w ∈ wsX7_stepsMany := by decide +kernel
  have w : zW D A s.heap s [(hmo, .inr (7, [.ref ha, .ref hth, .ref hpa, .int (zI (kp)), .ref hsl, .ref hhe, .ref hpd, .int (zI (pd)), .int (zI (ap)), .ref hor, .int (zI (od))])), (ha, .inl (D.2 1, 86, .inr (.inl (fNow S))))] s.heap [] := w
  refine lv_iconst (v := zI 0) hx hb dX7_stepsMany_0 rfl ?_
  refine lv_istore_n (lv' := [(2, .int (zI (0))), (0, .ref hmo), (1, .int (zI (n0)))]) hx hb dX7_stepsMany_1 rfl hl (by decide) rfl (fun ls hl => ?_)
  refine lv_iconst (v := zI 0) hx hb dX7_stepsMany_2 rfl ?_
  refine lv_istore_n (lv' := [(3, .int (zI (0))), (2, .int (zI (0))), (0, .ref hmo), (1, .int (zI (n0)))]) hx hb dX7_stepsMany_3 rfl hl (by decide) rfl (fun ls hl => ?_)
  have lp_4 : ∀ (n_4 : Nat) (k : Nat) (x3 : Int) (x2 : Int) , n0.toNat - k < n_4 → (k ≤ n0.toNat) → x3 = ((k : Nat) : Int) → x2 = sBet S k → ∀ (H : Heap) (locs : List Loc) (ls : Array Slot), zW D A s.heap s [(hmo, .inr (7, [.ref ha, .ref hth, .ref hpa, .int (zI (kp)), .ref hsl, .ref hhe, .ref hpd, .int (zI (pd)), .int (zI (ap)), .ref hor, .int (zI (od))])), (ha, .inl (D.2 1, 86, .inr (.inl (fNow (sStN S k)))))] H locs → lv_has ls 4 [(3, .int (zI (x3))), (2, .int (zI (x2))), (0, .ref hmo), (1, .int (zI (n0)))] → W p l e (zR (6)) s m [.ref hmo, .int (zI (n0))].toArray below meth c H locs 0 0 (MQ below ((zQi D (fun r W1 => r = zI (sBet S n0.toNat) ∧ W1 = (wMb D hmo ha hth hpa hsl hhe hpd hor kp pd ap od (sStN S n0.toNat)))) A) [.ref hmo, .int (zI (n0))].toArray s 0 0 A) (F0 m 4 ls []) := by
    intro n_4
    induction n_4 with
    | zero => intro k x3 x2 h_; exact absurd h_ (Nat.not_lt_zero _)
    | succ n_4 ih_4 =>
      intro k x3 x2 hf_4 hi ex3 ex2 H locs ls w hl
      subst ex3
      subst ex2
      have hokT : OkS (B + (k : Int)) (sStN S k) := OkS_stN hokS k
      have e75 : sSt0 (sStN S k) 75 = sStN S k 75 := sSt0_s _ (by omega) (by omega) (by omega) (by omega) (by omega) (by omega)
      have hl : lv_has ls 4 [(3, .int (zI (((k : Nat) : Int)))), (2, .int (zI (sBet S k))), (0, .ref hmo), (1, .int (zI (n0)))] := hl
      refine lv_iload_n hx hb dX7_stepsMany_4 rfl (lv_at hl 0 rfl) ?_
      refine lv_iload_n hx hb dX7_stepsMany_5 rfl (lv_at hl 3 rfl) ?_
      refine z_icmp_ge (tgt := 33) hx hb (by omega) (by omega) dX7_stepsMany_6 (by decide) (fun c6 => ?_) (fun c6 => ?_)
      · skip
        refine lv_iload_n hx hb dX7_stepsMany_33 rfl (lv_at hl 1 rfl) ?_
        exact z_iret hx hb hr hlocks w dX7_stepsMany_34 (by have e9 : k = n0.toNat := (by omega); subst e9; exact ⟨rfl, rfl⟩)
      · skip
        refine lv_iload_n hx hb dX7_stepsMany_9 rfl (lv_at hl 1 rfl) ?_
        refine lv_aload_n hx hb dX7_stepsMany_10 rfl (lv_at hl 2 rfl) ?_
        refine z_get hx hb hown hts w inX7 0 0 rfl rfl (by decide) f_7 rfl rfl dX7_stepsMany_11 ?_
        refine z_S_i (As := [.ref ha]) (rest := [.int (zI (sBet S k))]) (Wr := [(hmo, .inr (7, [.ref ha, .ref hth, .ref hpa, .int (zI (kp)), .ref hsl, .ref hhe, .ref hpd, .int (zI (pd)), .int (zI (ap)), .ref hor, .int (zI (od))]))]) ⟨hx, hb, hml, hown, hts⟩ (c_X7_steps l D ha (sStN S k) (B + (k : Int)) (by omega) hokT) (va_cwS 1 hts gX7_stepsMany_X7_steps rfl rfl rfl (by decide +kernel) ⟨Nat.le_of_ble_eq_true rfl, Nat.le_of_ble_eq_true rfl⟩) w [1] rfl (by decide) [0] rfl (by decide) (by decide) rfl hl.1 rfl (lv_room (Nat.le_of_ble_eq_true rfl)) dX7_stepsMany_14 ⟨Nat.zero_le _, Nat.zero_le _⟩ (fun r W1 H locs hp w => ?_)
        obtain ⟨rfl, rfl⟩ := hp
        have w : zW D A s.heap s [(hmo, .inr (7, [.ref ha, .ref hth, .ref hpa, .int (zI (kp)), .ref hsl, .ref hhe, .ref hpd, .int (zI (pd)), .int (zI (ap)), .ref hor, .int (zI (od))])), (ha, .inl (D.2 1, 86, .inr (.inl (fNow (sSt (sStN S k))))))] H locs := w.sub [0, 1] (by decide) rfl
        refine z_if_eq_b (tgt := 24) hx hb dX7_stepsMany_17 (by decide) (fun c17 => ?_) (fun c17 => ?_)
        · skip
          refine lv_iconst (v := zI 0) hx hb dX7_stepsMany_24 rfl ?_
          refine z_iadd hx hb dX7_stepsMany_25 ?_
          refine lv_istore_n (lv' := [(2, .int (zI ((sBet S k) + 0))), (3, .int (zI (((k : Nat) : Int)))), (0, .ref hmo), (1, .int (zI (n0)))]) hx hb dX7_stepsMany_26 rfl hl (by decide) rfl (fun ls hl => ?_)
          refine z_iinc (lv' := [(3, .int (zI (((k : Nat) : Int) + 1))), (2, .int (zI ((sBet S k) + 0))), (0, .ref hmo), (1, .int (zI (n0)))]) hx hb dX7_stepsMany_27 hl (k := 1) rfl (by decide) rfl (fun ls hl => ?_)
          refine lv_goto (tgt := 4) hx hb dX7_stepsMany_30 (by decide) ?_
          exact ih_4 (k + 1) _ _ (by omega) (by omega) (by first | rfl | omega) (by simp only [sBet]; rw [e75] at c17; first | rw [if_pos c17] | rw [if_neg c17]) _ _ _ w (lv_sub hl [0, 1, 2, 3] rfl)
        · skip
          refine lv_iconst (v := zI 1) hx hb dX7_stepsMany_20 rfl ?_
          refine lv_goto (tgt := 25) hx hb dX7_stepsMany_21 (by decide) ?_
          refine z_iadd hx hb dX7_stepsMany_25 ?_
          refine lv_istore_n (lv' := [(2, .int (zI ((sBet S k) + 1))), (3, .int (zI (((k : Nat) : Int)))), (0, .ref hmo), (1, .int (zI (n0)))]) hx hb dX7_stepsMany_26 rfl hl (by decide) rfl (fun ls hl => ?_)
          refine z_iinc (lv' := [(3, .int (zI (((k : Nat) : Int) + 1))), (2, .int (zI ((sBet S k) + 1))), (0, .ref hmo), (1, .int (zI (n0)))]) hx hb dX7_stepsMany_27 hl (k := 1) rfl (by decide) rfl (fun ls hl => ?_)
          refine lv_goto (tgt := 4) hx hb dX7_stepsMany_30 (by decide) ?_
          exact ih_4 (k + 1) _ _ (by omega) (by omega) (by first | rfl | omega) (by simp only [sBet]; rw [e75] at c17; first | rw [if_pos c17] | rw [if_neg c17]) _ _ _ w (lv_sub hl [0, 1, 2, 3] rfl)
  exact lp_4 ((n0.toNat - 0) + 1) 0 _ _ (by omega) (by omega) (by first | rfl | omega) (by first | rfl | omega) _ _ _ w (lv_sub hl [0, 1, 2, 3] rfl)
set_option maxHeartbeats 6000000 in
set_option maxRecDepth 100000 in
theorem c_X7_mayCome (l : Launch) (D : zD) (hmo ha hth hpa hsl hhe hpd hor : Nat) (kp pd ap od : Int) (S : Nat → Int) (hok : OkP S) (w0 a b c0 : Int) (hw0 : zB w0) (hza : zB a) (hzb : zB b) (hc0 : zB c0) : zM l yX7_mayCome wsX7_mayCome (zR (1)) zE0 D [.ref hmo, .int (zI (w0)), .int (zI (a)), .int (zI (b)), .int (zI (c0))] (wMb D hmo ha hth hpa hsl hhe hpd hor kp pd ap od S) (zQi D (fun r W1 => r = zI (mCome S w0 a b c0) ∧ W1 = (wMb D hmo ha hth hpa hsl hhe hpd hor kp pd ap od S))) := by
  refine zM.of (cc := cX7_mayCome) (maxL := 5) (ret := (some .int)) (by decide) rfl (Nat.le_of_ble_eq_true rfl) ?_
  intro p e s m below meth c A hx hb hml hown hts hr hlocks hE hnm w ls hl
  have hown : s.vm.findClass RX7 = some m.cls := hown
  have hl : lv_has ls 5 [(0, .ref hmo), (1, .int (zI (w0))), (2, .int (zI (a))), (3, .int (zI (b))), (4, .int (zI (c0)))] := hl
  have f_7 : (Cond.fieldLink RX7 7 "RelaxedStepsModel" "now" "[J").before _ s = true := hts _ (by decide +kernel)
  have inX7 : ∀ w ∈ u_ws RX7 TX7 11, w ∈ wsX7_mayCome := by decide +kernel
  have hn := zn_eq hok
  have h16 := zn_le hok
  have hlim := hok.2.2
  have w : zW D A s.heap s [(hmo, .inr (7, [.ref ha, .ref hth, .ref hpa, .int (zI (kp)), .ref hsl, .ref hhe, .ref hpd, .int (zI (pd)), .int (zI (ap)), .ref hor, .int (zI (od))])), (ha, .inl (D.2 1, 86, .inr (.inl (fNow S))))] s.heap [] := w
  refine lv_iload_n hx hb dX7_mayCome_0 rfl (lv_at hl 1 rfl) ?_
  refine lv_iconst (v := zI 0) hx hb dX7_mayCome_1 rfl ?_
  refine lv_sipush (v := zI 999) hx hb dX7_mayCome_2 (by decide +kernel) ?_
  refine z_S_i (As := [.int (zI (w0)), .int (zI (0)), .int (zI (999))]) (rest := []) (Wr := [(hmo, .inr (7, [.ref ha, .ref hth, .ref hpa, .int (zI (kp)), .ref hsl, .ref hhe, .ref hpd, .int (zI (pd)), .int (zI (ap)), .ref hor, .int (zI (od))])), (ha, .inl (D.2 1, 86, .inr (.inl (fNow S))))]) ⟨hx, hb, hml, hown, hts⟩ (c_X7_in l D w0 0 999 (by omega) (by omega) (by omega)) (va_cwS 3 hts gX7_mayCome_X7_in rfl rfl rfl (by decide +kernel) ⟨Nat.le_of_ble_eq_true rfl, Nat.le_of_ble_eq_true rfl⟩) w [] rfl (by decide) [0, 1] rfl (by decide) (by decide) rfl hl.1 rfl (lv_room (Nat.le_of_ble_eq_true rfl)) dX7_mayCome_5 ⟨Nat.zero_le _, Nat.zero_le _⟩ (fun r W1 H locs hp w => ?_)
  obtain ⟨rfl, rfl⟩ := hp
  have w : zW D A s.heap s [(hmo, .inr (7, [.ref ha, .ref hth, .ref hpa, .int (zI (kp)), .ref hsl, .ref hhe, .ref hpd, .int (zI (pd)), .int (zI (ap)), .ref hor, .int (zI (od))])), (ha, .inl (D.2 1, 86, .inr (.inl (fNow S))))] H locs := w.sub [0, 1] (by decide) rfl
  refine z_if_eq_b (tgt := 42) hx hb dX7_mayCome_8 (by decide) (fun c8 => ?_) (fun c8 => ?_)
  · skip
    refine lv_bipush (v := zI (-2)) hx hb dX7_mayCome_42 (by decide +kernel) ?_
    exact z_iret hx hb hr hlocks w dX7_mayCome_44 ⟨by rw [show mCome S w0 a b c0 = -2 from if_neg (by omega)], rfl⟩
  · skip
    refine lv_iload_n hx hb dX7_mayCome_11 rfl (lv_at hl 2 rfl) ?_
    refine lv_iconst (v := zI 0) hx hb dX7_mayCome_12 rfl ?_
    refine lv_bipush (v := zI 99) hx hb dX7_mayCome_13 (by decide +kernel) ?_
    refine z_S_i (As := [.int (zI (a)), .int (zI (0)), .int (zI (99))]) (rest := []) (Wr := [(hmo, .inr (7, [.ref ha, .ref hth, .ref hpa, .int (zI (kp)), .ref hsl, .ref hhe, .ref hpd, .int (zI (pd)), .int (zI (ap)), .ref hor, .int (zI (od))])), (ha, .inl (D.2 1, 86, .inr (.inl (fNow S))))]) ⟨hx, hb, hml, hown, hts⟩ (c_X7_in l D a 0 99 (by omega) (by omega) (by omega)) (va_cwS 3 hts gX7_mayCome_X7_in rfl rfl rfl (by decide +kernel) ⟨Nat.le_of_ble_eq_true rfl, Nat.le_of_ble_eq_true rfl⟩) w [] rfl (by decide) [0, 1] rfl (by decide) (by decide) rfl hl.1 rfl (lv_room (Nat.le_of_ble_eq_true rfl)) dX7_mayCome_15 ⟨Nat.zero_le _, Nat.zero_le _⟩ (fun r W1 H locs hp w => ?_)
    obtain ⟨rfl, rfl⟩ := hp
    have w : zW D A s.heap s [(hmo, .inr (7, [.ref ha, .ref hth, .ref hpa, .int (zI (kp)), .ref hsl, .ref hhe, .ref hpd, .int (zI (pd)), .int (zI (ap)), .ref hor, .int (zI (od))])), (ha, .inl (D.2 1, 86, .inr (.inl (fNow S))))] H locs := w.sub [0, 1] (by decide) rfl
    refine z_if_eq_b (tgt := 42) hx hb dX7_mayCome_18 (by decide) (fun c18 => ?_) (fun c18 => ?_)
    · skip
      refine lv_bipush (v := zI (-2)) hx hb dX7_mayCome_42 (by decide +kernel) ?_
      exact z_iret hx hb hr hlocks w dX7_mayCome_44 ⟨by rw [show mCome S w0 a b c0 = -2 from if_neg (by omega)], rfl⟩
    · skip
      refine lv_iload_n hx hb dX7_mayCome_21 rfl (lv_at hl 3 rfl) ?_
      refine lv_iconst (v := zI 0) hx hb dX7_mayCome_22 rfl ?_
      refine lv_bipush (v := zI 99) hx hb dX7_mayCome_23 (by decide +kernel) ?_
      refine z_S_i (As := [.int (zI (b)), .int (zI (0)), .int (zI (99))]) (rest := []) (Wr := [(hmo, .inr (7, [.ref ha, .ref hth, .ref hpa, .int (zI (kp)), .ref hsl, .ref hhe, .ref hpd, .int (zI (pd)), .int (zI (ap)), .ref hor, .int (zI (od))])), (ha, .inl (D.2 1, 86, .inr (.inl (fNow S))))]) ⟨hx, hb, hml, hown, hts⟩ (c_X7_in l D b 0 99 (by omega) (by omega) (by omega)) (va_cwS 3 hts gX7_mayCome_X7_in rfl rfl rfl (by decide +kernel) ⟨Nat.le_of_ble_eq_true rfl, Nat.le_of_ble_eq_true rfl⟩) w [] rfl (by decide) [0, 1] rfl (by decide) (by decide) rfl hl.1 rfl (lv_room (Nat.le_of_ble_eq_true rfl)) dX7_mayCome_25 ⟨Nat.zero_le _, Nat.zero_le _⟩ (fun r W1 H locs hp w => ?_)
      obtain ⟨rfl, rfl⟩ := hp
      have w : zW D A s.heap s [(hmo, .inr (7, [.ref ha, .ref hth, .ref hpa, .int (zI (kp)), .ref hsl, .ref hhe, .ref hpd, .int (zI (pd)), .int (zI (ap)), .ref hor, .int (zI (od))])), (ha, .inl (D.2 1, 86, .inr (.inl (fNow S))))] H locs := w.sub [0, 1] (by decide) rfl
      refine z_if_eq_b (tgt := 42) hx hb dX7_mayCome_28 (by decide) (fun c28 => ?_) (fun c28 => ?_)
      · skip
        refine lv_bipush (v := zI (-2)) hx hb dX7_mayCome_42 (by decide +kernel) ?_
        exact z_iret hx hb hr hlocks w dX7_mayCome_44 ⟨by rw [show mCome S w0 a b c0 = -2 from if_neg (by omega)], rfl⟩
      · skip
        refine lv_iload hx hb dX7_mayCome_31 (lv_at hl 4 rfl) ?_
        refine lv_iconst (v := zI 0) hx hb dX7_mayCome_33 rfl ?_
        refine lv_bipush (v := zI 99) hx hb dX7_mayCome_34 (by decide +kernel) ?_
        refine z_S_i (As := [.int (zI (c0)), .int (zI (0)), .int (zI (99))]) (rest := []) (Wr := [(hmo, .inr (7, [.ref ha, .ref hth, .ref hpa, .int (zI (kp)), .ref hsl, .ref hhe, .ref hpd, .int (zI (pd)), .int (zI (ap)), .ref hor, .int (zI (od))])), (ha, .inl (D.2 1, 86, .inr (.inl (fNow S))))]) ⟨hx, hb, hml, hown, hts⟩ (c_X7_in l D c0 0 99 (by omega) (by omega) (by omega)) (va_cwS 3 hts gX7_mayCome_X7_in rfl rfl rfl (by decide +kernel) ⟨Nat.le_of_ble_eq_true rfl, Nat.le_of_ble_eq_true rfl⟩) w [] rfl (by decide) [0, 1] rfl (by decide) (by decide) rfl hl.1 rfl (lv_room (Nat.le_of_ble_eq_true rfl)) dX7_mayCome_36 ⟨Nat.zero_le _, Nat.zero_le _⟩ (fun r W1 H locs hp w => ?_)
        obtain ⟨rfl, rfl⟩ := hp
        have w : zW D A s.heap s [(hmo, .inr (7, [.ref ha, .ref hth, .ref hpa, .int (zI (kp)), .ref hsl, .ref hhe, .ref hpd, .int (zI (pd)), .int (zI (ap)), .ref hor, .int (zI (od))])), (ha, .inl (D.2 1, 86, .inr (.inl (fNow S))))] H locs := w.sub [0, 1] (by decide) rfl
        refine z_if_ne_b (tgt := 45) hx hb dX7_mayCome_39 (by decide) (fun c39 => ?_) (fun c39 => ?_)
        · skip
          refine lv_aload_n hx hb dX7_mayCome_45 rfl (lv_at hl 0 rfl) ?_
          refine z_get hx hb hown hts w inX7 0 0 rfl rfl (by decide) f_7 rfl rfl dX7_mayCome_46 ?_
          refine lv_iconst (v := zI 0) hx hb dX7_mayCome_49 rfl ?_
          refine z_lald hx hb w 1 rfl 0 (by omega) (by decide) rfl (v := (zL (S 0))) (if_pos (by omega)) dX7_mayCome_50 ?_
          refine lv_ldc2 (v := zL 16) hx hb hown (hts (.constantLong RX7 113 (zL 16)) (by decide +kernel)) dX7_mayCome_51 ?_
          refine z_lcmp_ne (tgt := 63) hx hb (by omega) (by omega) dX7_mayCome_54 dX7_mayCome_55 (by decide) (fun c54 => ?_) (fun c54 => ?_)
          · skip
            refine lv_iconst (v := zI 0) hx hb dX7_mayCome_63 rfl ?_
            exact z_iret hx hb hr hlocks w dX7_mayCome_64 ⟨by first | rw [show mCome S w0 a b c0 = -4 from (if_pos (by omega)).trans (if_pos c54)] | rw [show mCome S w0 a b c0 = 0 from (if_pos (by omega)).trans (if_neg c54)], rfl⟩
          · skip
            refine lv_bipush (v := zI (-4)) hx hb dX7_mayCome_58 (by decide +kernel) ?_
            refine lv_goto (tgt := 64) hx hb dX7_mayCome_60 (by decide) ?_
            exact z_iret hx hb hr hlocks w dX7_mayCome_64 ⟨by first | rw [show mCome S w0 a b c0 = -4 from (if_pos (by omega)).trans (if_pos c54)] | rw [show mCome S w0 a b c0 = 0 from (if_pos (by omega)).trans (if_neg c54)], rfl⟩
        · skip
          refine lv_bipush (v := zI (-2)) hx hb dX7_mayCome_42 (by decide +kernel) ?_
          exact z_iret hx hb hr hlocks w dX7_mayCome_44 ⟨by rw [show mCome S w0 a b c0 = -2 from if_neg (by omega)], rfl⟩
set_option maxHeartbeats 6000000 in
set_option maxRecDepth 100000 in
theorem c_X7_comes (l : Launch) (D : zD) (hmo ha hth hpa hsl hhe hpd hor : Nat) (kp pd ap od : Int) (S : Nat → Int) (hok : OkP S) (hokm : OkM (mu S)) (w0 a b c0 : Int) (hw0 : zB w0) (hza : zB a) (hzb : zB b) (hc0 : zB c0) (hlt : zn S < 16) (hr9 : ((0 ≤ w0 ∧ w0 ≤ 999) ∧ (0 ≤ a ∧ a ≤ 99)) ∧ (0 ≤ b ∧ b ≤ 99) ∧ 0 ≤ c0 ∧ c0 ≤ 99) : zM l yX7_comes wsX7_comes (zR (4)) zE0 D [.ref hmo, .int (zI (w0)), .int (zI (a)), .int (zI (b)), .int (zI (c0))] (wMb D hmo ha hth hpa hsl hhe hpd hor kp pd ap od S) (zQi D (fun r W1 => r = zI (S 0) ∧ W1 = (wMb D hmo ha hth hpa hsl hhe hpd hor kp pd ap od (oItem S w0 a b c0)))) := by
  refine zM.of (cc := cX7_comes) (maxL := 6) (ret := (some .int)) (by decide) rfl (Nat.le_of_ble_eq_true rfl) ?_
  intro p e s m below meth c A hx hb hml hown hts hr hlocks hE hnm w ls hl
  have hown : s.vm.findClass RX7 = some m.cls := hown
  have hl : lv_has ls 6 [(0, .ref hmo), (1, .int (zI (w0))), (2, .int (zI (a))), (3, .int (zI (b))), (4, .int (zI (c0)))] := hl
  have f_7 : (Cond.fieldLink RX7 7 "RelaxedStepsModel" "now" "[J").before _ s = true := hts _ (by decide +kernel)
  have inX7 : ∀ w ∈ u_ws RX7 TX7 11, w ∈ wsX7_comes := by decide +kernel
  have hn := zn_eq hok
  have h16 := zn_le hok
  have hlim := hok.2.2
  have hoka := OkP_77 (OkP_ap hok hlt hr9) (a := 0)
  have hokma : OkM (mu (zu (sAp S w0 a b c0) 77 0)) := OkM_cong (fun d hd => by show zu (sAp S w0 a b c0) 77 0 (68 + d) = S (68 + d); rw [zu_n _ _ (by omega), sAp_far hlt (by omega)]) hokm
  have e0f : oItem S w0 a b c0 0 = S 0 + 1 := by unfold oItem; rw [sFg_o (by omega) (by omega) (by omega), zu_n _ _ (by omega)]; exact zu_s _ _ _
  have w : zW D A s.heap s [(hmo, .inr (7, [.ref ha, .ref hth, .ref hpa, .int (zI (kp)), .ref hsl, .ref hhe, .ref hpd, .int (zI (pd)), .int (zI (ap)), .ref hor, .int (zI (od))])), (ha, .inl (D.2 1, 86, .inr (.inl (fNow S))))] s.heap [] := w
  refine lv_iconst (v := zI 1) hx hb dX7_comes_0 rfl ?_
  refine lv_iconst (v := zI 4) hx hb dX7_comes_1 rfl ?_
  refine lv_aload_n hx hb dX7_comes_2 rfl (lv_at hl 0 rfl) ?_
  refine z_get hx hb hown hts w inX7 0 0 rfl rfl (by decide) f_7 rfl rfl dX7_comes_3 ?_
  refine lv_iconst (v := zI 0) hx hb dX7_comes_6 rfl ?_
  refine z_lald hx hb w 1 rfl 0 (by omega) (by decide) rfl (v := (zL (S 0))) (if_pos (by omega)) dX7_comes_7 ?_
  refine z_l2i hx hb dX7_comes_8 ?_
  refine z_imul hx hb dX7_comes_9 ?_
  refine z_iadd hx hb dX7_comes_10 ?_
  refine lv_istore (lv' := [(5, .int (zI (1 + (4 * (S 0))))), (0, .ref hmo), (1, .int (zI (w0))), (2, .int (zI (a))), (3, .int (zI (b))), (4, .int (zI (c0)))]) hx hb dX7_comes_11 hl (by decide) rfl (fun ls hl => ?_)
  refine lv_aload_n hx hb dX7_comes_13 rfl (lv_at hl 1 rfl) ?_
  refine z_get hx hb hown hts w inX7 0 0 rfl rfl (by decide) f_7 rfl rfl dX7_comes_14 ?_
  refine lv_iload hx hb dX7_comes_17 (lv_at hl 0 rfl) ?_
  refine lv_iload_n hx hb dX7_comes_19 rfl (lv_at hl 2 rfl) ?_
  refine z_i2l hx hb (by omega) dX7_comes_20 ?_
  refine z_last hx hb w 1 rfl (1 + 4 * zn S) (by omega) (by decide) (by omega) dX7_comes_21 (fNow (zu S (1 + 4 * zn S) w0)) (fun i hi => fNow_zu hi) (fun H locs w => ?_)
  have w : zW D A s.heap s [(hmo, .inr (7, [.ref ha, .ref hth, .ref hpa, .int (zI (kp)), .ref hsl, .ref hhe, .ref hpd, .int (zI (pd)), .int (zI (ap)), .ref hor, .int (zI (od))])), (ha, .inl (D.2 1, 86, .inr (.inl (fNow (zu S (1 + 4 * zn S) w0)))))] H locs := w
  refine lv_aload_n hx hb dX7_comes_22 rfl (lv_at hl 1 rfl) ?_
  refine z_get hx hb hown hts w inX7 0 0 rfl rfl (by decide) f_7 rfl rfl dX7_comes_23 ?_
  refine lv_iload hx hb dX7_comes_26 (lv_at hl 0 rfl) ?_
  refine lv_iconst (v := zI 1) hx hb dX7_comes_28 rfl ?_
  refine z_iadd hx hb dX7_comes_29 ?_
  refine lv_iload_n hx hb dX7_comes_30 rfl (lv_at hl 3 rfl) ?_
  refine z_i2l hx hb (by omega) dX7_comes_31 ?_
  refine z_last hx hb w 1 rfl (1 + 4 * zn S + 1) (by omega) (by decide) (by omega) dX7_comes_32 (fNow (zu (zu S (1 + 4 * zn S) w0) (1 + 4 * zn S + 1) a)) (fun i hi => fNow_zu hi) (fun H locs w => ?_)
  have w : zW D A s.heap s [(hmo, .inr (7, [.ref ha, .ref hth, .ref hpa, .int (zI (kp)), .ref hsl, .ref hhe, .ref hpd, .int (zI (pd)), .int (zI (ap)), .ref hor, .int (zI (od))])), (ha, .inl (D.2 1, 86, .inr (.inl (fNow (zu (zu S (1 + 4 * zn S) w0) (1 + 4 * zn S + 1) a)))))] H locs := w
  refine lv_aload_n hx hb dX7_comes_33 rfl (lv_at hl 1 rfl) ?_
  refine z_get hx hb hown hts w inX7 0 0 rfl rfl (by decide) f_7 rfl rfl dX7_comes_34 ?_
  refine lv_iload hx hb dX7_comes_37 (lv_at hl 0 rfl) ?_
  refine lv_iconst (v := zI 2) hx hb dX7_comes_39 rfl ?_
  refine z_iadd hx hb dX7_comes_40 ?_
  refine lv_iload_n hx hb dX7_comes_41 rfl (lv_at hl 4 rfl) ?_
  refine z_i2l hx hb (by omega) dX7_comes_42 ?_
  refine z_last hx hb w 1 rfl (1 + 4 * zn S + 2) (by omega) (by decide) (by omega) dX7_comes_43 (fNow (zu (zu (zu S (1 + 4 * zn S) w0) (1 + 4 * zn S + 1) a) (1 + 4 * zn S + 2) b)) (fun i hi => fNow_zu hi) (fun H locs w => ?_)
  have w : zW D A s.heap s [(hmo, .inr (7, [.ref ha, .ref hth, .ref hpa, .int (zI (kp)), .ref hsl, .ref hhe, .ref hpd, .int (zI (pd)), .int (zI (ap)), .ref hor, .int (zI (od))])), (ha, .inl (D.2 1, 86, .inr (.inl (fNow (zu (zu (zu S (1 + 4 * zn S) w0) (1 + 4 * zn S + 1) a) (1 + 4 * zn S + 2) b)))))] H locs := w
  refine lv_aload_n hx hb dX7_comes_44 rfl (lv_at hl 1 rfl) ?_
  refine z_get hx hb hown hts w inX7 0 0 rfl rfl (by decide) f_7 rfl rfl dX7_comes_45 ?_
  refine lv_iload hx hb dX7_comes_48 (lv_at hl 0 rfl) ?_
  refine lv_iconst (v := zI 3) hx hb dX7_comes_50 rfl ?_
  refine z_iadd hx hb dX7_comes_51 ?_
  refine lv_iload hx hb dX7_comes_52 (lv_at hl 5 rfl) ?_
  refine z_i2l hx hb (by omega) dX7_comes_54 ?_
  refine z_last hx hb w 1 rfl (1 + 4 * zn S + 3) (by omega) (by decide) (by omega) dX7_comes_55 (fNow (zu (zu (zu (zu S (1 + 4 * zn S) w0) (1 + 4 * zn S + 1) a) (1 + 4 * zn S + 2) b) (1 + 4 * zn S + 3) c0)) (fun i hi => fNow_zu hi) (fun H locs w => ?_)
  have w : zW D A s.heap s [(hmo, .inr (7, [.ref ha, .ref hth, .ref hpa, .int (zI (kp)), .ref hsl, .ref hhe, .ref hpd, .int (zI (pd)), .int (zI (ap)), .ref hor, .int (zI (od))])), (ha, .inl (D.2 1, 86, .inr (.inl (fNow (zu (zu (zu (zu S (1 + 4 * zn S) w0) (1 + 4 * zn S + 1) a) (1 + 4 * zn S + 2) b) (1 + 4 * zn S + 3) c0)))))] H locs := w
  refine lv_aload_n hx hb dX7_comes_56 rfl (lv_at hl 1 rfl) ?_
  refine z_get hx hb hown hts w inX7 0 0 rfl rfl (by decide) f_7 rfl rfl dX7_comes_57 ?_
  refine lv_iconst (v := zI 0) hx hb dX7_comes_60 rfl ?_
  refine lv_dup2_11 hx hb dX7_comes_61 rfl rfl ?_
  refine z_lald hx hb w 1 rfl 0 (by omega) (by decide) rfl (v := (zL ((zu (zu (zu (zu S (1 + 4 * zn S) w0) (1 + 4 * zn S + 1) a) (1 + 4 * zn S + 2) b) (1 + 4 * zn S + 3) c0) 0))) (if_pos (by omega)) dX7_comes_62 ?_
  refine lv_lconst (v := zL 1) hx hb dX7_comes_63 rfl ?_
  refine z_ladd hx hb dX7_comes_64 ?_
  refine z_last hx hb w 1 rfl 0 (by omega) (by decide) rfl dX7_comes_65 (fNow (zu (zu (zu (zu (zu S (1 + 4 * zn S) w0) (1 + 4 * zn S + 1) a) (1 + 4 * zn S + 2) b) (1 + 4 * zn S + 3) c0) 0 (((zu (zu (zu (zu S (1 + 4 * zn S) w0) (1 + 4 * zn S + 1) a) (1 + 4 * zn S + 2) b) (1 + 4 * zn S + 3) c0) 0) + 1))) (fun i hi => fNow_zu hi) (fun H locs w => ?_)
  have w : zW D A s.heap s [(hmo, .inr (7, [.ref ha, .ref hth, .ref hpa, .int (zI (kp)), .ref hsl, .ref hhe, .ref hpd, .int (zI (pd)), .int (zI (ap)), .ref hor, .int (zI (od))])), (ha, .inl (D.2 1, 86, .inr (.inl (fNow (zu (zu (zu (zu (zu S (1 + 4 * zn S) w0) (1 + 4 * zn S + 1) a) (1 + 4 * zn S + 2) b) (1 + 4 * zn S + 3) c0) 0 (((zu (zu (zu (zu S (1 + 4 * zn S) w0) (1 + 4 * zn S + 1) a) (1 + 4 * zn S + 2) b) (1 + 4 * zn S + 3) c0) 0) + 1))))))] H locs := w
  have e66 : (zu (zu (zu (zu (zu S (1 + 4 * zn S) w0) (1 + 4 * zn S + 1) a) (1 + 4 * zn S + 2) b) (1 + 4 * zn S + 3) c0) 0 (((zu (zu (zu (zu S (1 + 4 * zn S) w0) (1 + 4 * zn S + 1) a) (1 + 4 * zn S + 2) b) (1 + 4 * zn S + 3) c0) 0) + 1)) = sAp S w0 a b c0 := ap_mk rfl (by rw [zu_n _ _ (by omega), zu_n _ _ (by omega), zu_n _ _ (by omega), zu_n _ _ (by omega)])
  have w : zW D A s.heap s [(hmo, .inr (7, [.ref ha, .ref hth, .ref hpa, .int (zI (kp)), .ref hsl, .ref hhe, .ref hpd, .int (zI (pd)), .int (zI (ap)), .ref hor, .int (zI (od))])), (ha, .inl (D.2 1, 86, .inr (.inl (fNow (sAp S w0 a b c0)))))] H locs := w.to (by rw [e66])
  refine lv_aload_n hx hb dX7_comes_66 rfl (lv_at hl 1 rfl) ?_
  refine z_get hx hb hown hts w inX7 0 0 rfl rfl (by decide) f_7 rfl rfl dX7_comes_67 ?_
  refine lv_bipush (v := zI 77) hx hb dX7_comes_70 (by decide +kernel) ?_
  refine lv_lconst (v := zL 0) hx hb dX7_comes_72 rfl ?_
  refine z_last hx hb w 1 rfl 77 (by omega) (by decide) rfl dX7_comes_73 (fNow (zu (sAp S w0 a b c0) 77 0)) (fun i hi => fNow_zu hi) (fun H locs w => ?_)
  have w : zW D A s.heap s [(hmo, .inr (7, [.ref ha, .ref hth, .ref hpa, .int (zI (kp)), .ref hsl, .ref hhe, .ref hpd, .int (zI (pd)), .int (zI (ap)), .ref hor, .int (zI (od))])), (ha, .inl (D.2 1, 86, .inr (.inl (fNow (zu (sAp S w0 a b c0) 77 0)))))] H locs := w
  refine lv_aload_n hx hb dX7_comes_74 rfl (lv_at hl 1 rfl) ?_
  refine z_V_v (As := []) (rest := []) (Wr := []) ⟨hx, hb, hml, hown, hts⟩ (c_X7_forgets l D hmo ha hth hpa hsl hhe hpd hor kp pd ap od (zu (sAp S w0 a b c0) 77 0) hoka hokma) (cwV 0 hts gX7_comes_X7_forgets rfl rfl rfl (by decide +kernel) ⟨Nat.le_of_ble_eq_true rfl, Nat.le_of_ble_eq_true rfl⟩) w (q0 := 0) rfl rfl rfl [0, 1] rfl (by decide) [] rfl (by decide) (by decide) rfl hl.1 rfl (lv_room (Nat.le_of_ble_eq_true rfl)) dX7_comes_75 ⟨Nat.zero_le _, Nat.zero_le _⟩ (fun W1 H locs hp w => ?_)
  subst hp
  have w : zW D A s.heap s [(hmo, .inr (7, [.ref ha, .ref hth, .ref hpa, .int (zI (kp)), .ref hsl, .ref hhe, .ref hpd, .int (zI (pd)), .int (zI (ap)), .ref hor, .int (zI (od))])), (ha, .inl (D.2 1, 86, .inr (.inl (fNow (sFg (zu (sAp S w0 a b c0) 77 0))))))] H locs := w.sub [0, 1] (by decide) rfl
  refine lv_aload_n hx hb dX7_comes_78 rfl (lv_at hl 1 rfl) ?_
  refine z_get hx hb hown hts w inX7 0 0 rfl rfl (by decide) f_7 rfl rfl dX7_comes_79 ?_
  refine lv_iconst (v := zI 0) hx hb dX7_comes_82 rfl ?_
  refine z_lald hx hb w 1 rfl 0 (by omega) (by decide) rfl (v := (zL ((sFg (zu (sAp S w0 a b c0) 77 0)) 0))) (if_pos (by omega)) dX7_comes_83 ?_
  refine z_l2i hx hb dX7_comes_84 ?_
  refine lv_iconst (v := zI 1) hx hb dX7_comes_85 rfl ?_
  refine z_isub hx hb dX7_comes_86 ?_
  exact z_iret hx hb hr hlocks w dX7_comes_87 ⟨by congr 1; show oItem S w0 a b c0 0 - 1 = S 0; omega, rfl⟩
set_option maxHeartbeats 6000000 in
set_option maxRecDepth 100000 in
theorem c_X7_drops (l : Launch) (D : zD) (hmo ha hth hpa hsl hhe hpd hor : Nat) (kp pd ap od : Int) (S : Nat → Int) (hok : OkP S) (hokm : OkM (mu S)) (i : Nat) (hi : i < zn S) : zM l yX7_drops wsX7_drops (zR (4)) zE0 D [.ref hmo, .int (zI (((i : Nat) : Int)))] (wMb D hmo ha hth hpa hsl hhe hpd hor kp pd ap od S) (zQi D (fun r W1 => r = zI (S 0 - 1) ∧ W1 = (wMb D hmo ha hth hpa hsl hhe hpd hor kp pd ap od (oDrop S i)))) := by
  refine zM.of (cc := cX7_drops) (maxL := 4) (ret := (some .int)) (by decide) rfl (Nat.le_of_ble_eq_true rfl) ?_
  intro p e s m below meth c A hx hb hml hown hts hr hlocks hE hnm w ls hl
  have hown : s.vm.findClass RX7 = some m.cls := hown
  have hl : lv_has ls 4 [(0, .ref hmo), (1, .int (zI (((i : Nat) : Int))))] := hl
  have f_7 : (Cond.fieldLink RX7 7 "RelaxedStepsModel" "now" "[J").before _ s = true := hts _ (by decide +kernel)
  have inX7 : ∀ w ∈ u_ws RX7 TX7 11, w ∈ wsX7_drops := by decide +kernel
  have hn := zn_eq hok
  have h16 := zn_le hok
  have hlim := hok.2.2
  have hoka := OkP_77 (OkP_rm hok hi) (a := 0)
  have hokma : OkM (mu (zu (sRm S i) 77 0)) := OkM_cong (fun d hd => by show zu (sRm S i) 77 0 (68 + d) = S (68 + d); rw [zu_n _ _ (by omega), sRm_far h16 (by omega)]) hokm
  have e0f : oDrop S i 0 = S 0 - 1 := by unfold oDrop; rw [sFg_o (by omega) (by omega) (by omega), zu_n _ _ (by omega)]; exact if_pos rfl
  have w : zW D A s.heap s [(hmo, .inr (7, [.ref ha, .ref hth, .ref hpa, .int (zI (kp)), .ref hsl, .ref hhe, .ref hpd, .int (zI (pd)), .int (zI (ap)), .ref hor, .int (zI (od))])), (ha, .inl (D.2 1, 86, .inr (.inl (fNow S))))] s.heap [] := w
  refine lv_aload_n hx hb dX7_drops_0 rfl (lv_at hl 0 rfl) ?_
  refine z_get hx hb hown hts w inX7 0 0 rfl rfl (by decide) f_7 rfl rfl dX7_drops_1 ?_
  refine lv_iconst (v := zI 0) hx hb dX7_drops_4 rfl ?_
  refine lv_dup2_11 hx hb dX7_drops_5 rfl rfl ?_
  refine z_lald hx hb w 1 rfl 0 (by omega) (by decide) rfl (v := (zL (S 0))) (if_pos (by omega)) dX7_drops_6 ?_
  refine lv_lconst (v := zL 1) hx hb dX7_drops_7 rfl ?_
  refine z_lsub hx hb dX7_drops_8 ?_
  refine z_last hx hb w 1 rfl 0 (by omega) (by decide) rfl dX7_drops_9 (fNow (zu S 0 ((S 0) - 1))) (fun i hi => fNow_zu hi) (fun H locs w => ?_)
  have w : zW D A s.heap s [(hmo, .inr (7, [.ref ha, .ref hth, .ref hpa, .int (zI (kp)), .ref hsl, .ref hhe, .ref hpd, .int (zI (pd)), .int (zI (ap)), .ref hor, .int (zI (od))])), (ha, .inl (D.2 1, 86, .inr (.inl (fNow (zu S 0 ((S 0) - 1))))))] H locs := w
  refine lv_iconst (v := zI 1) hx hb dX7_drops_10 rfl ?_
  refine lv_iconst (v := zI 4) hx hb dX7_drops_11 rfl ?_
  refine lv_aload_n hx hb dX7_drops_12 rfl (lv_at hl 0 rfl) ?_
  refine z_get hx hb hown hts w inX7 0 0 rfl rfl (by decide) f_7 rfl rfl dX7_drops_13 ?_
  refine lv_iconst (v := zI 0) hx hb dX7_drops_16 rfl ?_
  refine z_lald hx hb w 1 rfl 0 (by omega) (by decide) rfl (v := (zL ((zu S 0 ((S 0) - 1)) 0))) (if_pos (by omega)) dX7_drops_17 ?_
  refine z_l2i hx hb dX7_drops_18 ?_
  refine z_imul hx hb dX7_drops_19 ?_
  refine z_iadd hx hb dX7_drops_20 ?_
  refine lv_istore_n (lv' := [(2, .int (zI (1 + (4 * ((zu S 0 ((S 0) - 1)) 0))))), (0, .ref hmo), (1, .int (zI (((i : Nat) : Int))))]) hx hb dX7_drops_21 rfl hl (by decide) rfl (fun ls hl => ?_)
  have e0d : (zu S 0 (S 0 - 1)) 0 = S 0 - 1 := zu_s _ _ _
  have w : zW D A s.heap s [(hmo, .inr (7, [.ref ha, .ref hth, .ref hpa, .int (zI (kp)), .ref hsl, .ref hhe, .ref hpd, .int (zI (pd)), .int (zI (ap)), .ref hor, .int (zI (od))])), (ha, .inl (D.2 1, 86, .inr (.inl (fNow (sDk S i (1 + 4 * i))))))] H locs := w.to (by rw [← sDk_0])
  refine lv_iconst (v := zI 1) hx hb dX7_drops_22 rfl ?_
  refine lv_iconst (v := zI 4) hx hb dX7_drops_23 rfl ?_
  refine lv_iload_n hx hb dX7_drops_24 rfl (lv_at hl 2 rfl) ?_
  refine z_imul hx hb dX7_drops_25 ?_
  refine z_iadd hx hb dX7_drops_26 ?_
  refine lv_istore_n (lv' := [(3, .int (zI (1 + (4 * ((i : Nat) : Int))))), (2, .int (zI (1 + (4 * ((zu S 0 ((S 0) - 1)) 0))))), (0, .ref hmo), (1, .int (zI (((i : Nat) : Int))))]) hx hb dX7_drops_27 rfl hl (by decide) rfl (fun ls hl => ?_)
  have lp_28 : ∀ (n_28 : Nat) (m9 : Nat) (x3 : Int) , 100 - m9 < n_28 → (1 + 4 * i ≤ m9 ∧ m9 + 4 ≤ 1 + 4 * zn S) → x3 = ((m9 : Nat) : Int) → ∀ (H : Heap) (locs : List Loc) (ls : Array Slot), zW D A s.heap s [(hmo, .inr (7, [.ref ha, .ref hth, .ref hpa, .int (zI (kp)), .ref hsl, .ref hhe, .ref hpd, .int (zI (pd)), .int (zI (ap)), .ref hor, .int (zI (od))])), (ha, .inl (D.2 1, 86, .inr (.inl (fNow (sDk S i m9)))))] H locs → lv_has ls 4 [(3, .int (zI (x3))), (2, .int (zI (1 + (4 * ((zu S 0 ((S 0) - 1)) 0))))), (0, .ref hmo), (1, .int (zI (((i : Nat) : Int))))] → W p l e (zR (4)) s m [.ref hmo, .int (zI (((i : Nat) : Int)))].toArray below meth c H locs 0 0 (MQ below ((zQi D (fun r W1 => r = zI (S 0 - 1) ∧ W1 = (wMb D hmo ha hth hpa hsl hhe hpd hor kp pd ap od (oDrop S i)))) A) [.ref hmo, .int (zI (((i : Nat) : Int)))].toArray s 0 0 A) (F0 m 28 ls []) := by
    intro n_28
    induction n_28 with
    | zero => intro m9 x3 h_; exact absurd h_ (Nat.not_lt_zero _)
    | succ n_28 ih_28 =>
      intro m9 x3 hf_28 hm9 ex3 H locs ls w hl
      subst ex3
      have hl : lv_has ls 4 [(3, .int (zI (((m9 : Nat) : Int)))), (2, .int (zI (1 + (4 * ((zu S 0 ((S 0) - 1)) 0))))), (0, .ref hmo), (1, .int (zI (((i : Nat) : Int))))] := hl
      refine lv_iload_n hx hb dX7_drops_28 rfl (lv_at hl 0 rfl) ?_
      refine lv_iload_n hx hb dX7_drops_29 rfl (lv_at hl 1 rfl) ?_
      refine z_icmp_ge (tgt := 53) hx hb (by omega) (by omega) dX7_drops_30 (by decide) (fun c30 => ?_) (fun c30 => ?_)
      · skip
        have em9 : m9 + 4 = 1 + 4 * zn S := (by omega)
        have w : zW D A s.heap s [(hmo, .inr (7, [.ref ha, .ref hth, .ref hpa, .int (zI (kp)), .ref hsl, .ref hhe, .ref hpd, .int (zI (pd)), .int (zI (ap)), .ref hor, .int (zI (od))])), (ha, .inl (D.2 1, 86, .inr (.inl (fNow (sRm S i)))))] H locs := w.to (by rw [sDk_e S em9])
        refine lv_aload_n hx hb dX7_drops_53 rfl (lv_at hl 2 rfl) ?_
        refine z_get hx hb hown hts w inX7 0 0 rfl rfl (by decide) f_7 rfl rfl dX7_drops_54 ?_
        refine lv_bipush (v := zI 77) hx hb dX7_drops_57 (by decide +kernel) ?_
        refine lv_lconst (v := zL 0) hx hb dX7_drops_59 rfl ?_
        refine z_last hx hb w 1 rfl 77 (by omega) (by decide) rfl dX7_drops_60 (fNow (zu (sRm S i) 77 0)) (fun i hi => fNow_zu hi) (fun H locs w => ?_)
        have w : zW D A s.heap s [(hmo, .inr (7, [.ref ha, .ref hth, .ref hpa, .int (zI (kp)), .ref hsl, .ref hhe, .ref hpd, .int (zI (pd)), .int (zI (ap)), .ref hor, .int (zI (od))])), (ha, .inl (D.2 1, 86, .inr (.inl (fNow (zu (sRm S i) 77 0)))))] H locs := w
        refine lv_aload_n hx hb dX7_drops_61 rfl (lv_at hl 2 rfl) ?_
        refine z_V_v (As := []) (rest := []) (Wr := []) ⟨hx, hb, hml, hown, hts⟩ (c_X7_forgets l D hmo ha hth hpa hsl hhe hpd hor kp pd ap od (zu (sRm S i) 77 0) hoka hokma) (cwV 0 hts gX7_drops_X7_forgets rfl rfl rfl (by decide +kernel) ⟨Nat.le_of_ble_eq_true rfl, Nat.le_of_ble_eq_true rfl⟩) w (q0 := 0) rfl rfl rfl [0, 1] rfl (by decide) [] rfl (by decide) (by decide) rfl hl.1 rfl (lv_room (Nat.le_of_ble_eq_true rfl)) dX7_drops_62 ⟨Nat.zero_le _, Nat.zero_le _⟩ (fun W1 H locs hp w => ?_)
        subst hp
        have w : zW D A s.heap s [(hmo, .inr (7, [.ref ha, .ref hth, .ref hpa, .int (zI (kp)), .ref hsl, .ref hhe, .ref hpd, .int (zI (pd)), .int (zI (ap)), .ref hor, .int (zI (od))])), (ha, .inl (D.2 1, 86, .inr (.inl (fNow (sFg (zu (sRm S i) 77 0))))))] H locs := w.sub [0, 1] (by decide) rfl
        refine lv_aload_n hx hb dX7_drops_65 rfl (lv_at hl 2 rfl) ?_
        refine z_get hx hb hown hts w inX7 0 0 rfl rfl (by decide) f_7 rfl rfl dX7_drops_66 ?_
        refine lv_iconst (v := zI 0) hx hb dX7_drops_69 rfl ?_
        refine z_lald hx hb w 1 rfl 0 (by omega) (by decide) rfl (v := (zL ((sFg (zu (sRm S i) 77 0)) 0))) (if_pos (by omega)) dX7_drops_70 ?_
        refine z_l2i hx hb dX7_drops_71 ?_
        exact z_iret hx hb hr hlocks w dX7_drops_72 ⟨by congr 1, rfl⟩
      · skip
        refine lv_aload_n hx hb dX7_drops_33 rfl (lv_at hl 2 rfl) ?_
        refine z_get hx hb hown hts w inX7 0 0 rfl rfl (by decide) f_7 rfl rfl dX7_drops_34 ?_
        refine lv_iload_n hx hb dX7_drops_37 rfl (lv_at hl 0 rfl) ?_
        refine lv_aload_n hx hb dX7_drops_38 rfl (lv_at hl 2 rfl) ?_
        refine z_get hx hb hown hts w inX7 0 0 rfl rfl (by decide) f_7 rfl rfl dX7_drops_39 ?_
        refine lv_iload_n hx hb dX7_drops_42 rfl (lv_at hl 0 rfl) ?_
        refine lv_iconst (v := zI 4) hx hb dX7_drops_43 rfl ?_
        refine z_iadd hx hb dX7_drops_44 ?_
        refine z_lald hx hb w 1 rfl (m9 + 4) (by omega) (by decide) (by omega) (v := (zL ((sDk S i m9) (m9 + 4)))) (if_pos (by omega)) dX7_drops_45 ?_
        refine z_last hx hb w 1 rfl m9 (by omega) (by decide) rfl dX7_drops_46 (fNow (zu (sDk S i m9) m9 ((sDk S i m9) (m9 + 4)))) (fun i hi => fNow_zu hi) (fun H locs w => ?_)
        have w : zW D A s.heap s [(hmo, .inr (7, [.ref ha, .ref hth, .ref hpa, .int (zI (kp)), .ref hsl, .ref hhe, .ref hpd, .int (zI (pd)), .int (zI (ap)), .ref hor, .int (zI (od))])), (ha, .inl (D.2 1, 86, .inr (.inl (fNow (zu (sDk S i m9) m9 ((sDk S i m9) (m9 + 4)))))))] H locs := w
        refine z_iinc (lv' := [(3, .int (zI (((m9 : Nat) : Int) + 1))), (2, .int (zI (1 + (4 * ((zu S 0 ((S 0) - 1)) 0))))), (0, .ref hmo), (1, .int (zI (((i : Nat) : Int))))]) hx hb dX7_drops_47 hl (k := 0) rfl (by decide) rfl (fun ls hl => ?_)
        refine lv_goto (tgt := 28) hx hb dX7_drops_50 (by decide) ?_
        exact ih_28 (m9 + 1) _ (by omega) (by omega) (by first | rfl | omega) _ _ _ (w.to (by rw [sDk_s S hm9.1])) (lv_sub hl [0, 1, 2, 3] rfl)
  exact lp_28 ((100 - (1 + 4 * i)) + 1) (1 + 4 * i) _ (by omega) (by omega) (by first | rfl | omega) _ _ _ w (lv_sub hl [0, 1, 2, 3] rfl)
set_option maxHeartbeats 6000000 in
set_option maxRecDepth 100000 in
theorem c_X7_changes (l : Launch) (D : zD) (hmo ha hth hpa hsl hhe hpd hor : Nat) (kp pd ap od : Int) (S : Nat → Int) (k : Nat) (v : Int) (hk : k < 86) (hv : zB v) : zM l yX7_changes wsX7_changes (zR (0)) zE0 D [.ref hmo, .int (zI (((k : Nat) : Int))), .int (zI (v))] (wMb D hmo ha hth hpa hsl hhe hpd hor kp pd ap od S) (zQi D (fun r W1 => r = zI (S k) ∧ W1 = (wMb D hmo ha hth hpa hsl hhe hpd hor kp pd ap od (zu S k v)))) := by
  refine zM.of (cc := cX7_changes) (maxL := 4) (ret := (some .int)) (by decide) rfl (Nat.le_of_ble_eq_true rfl) ?_
  intro p e s m below meth c A hx hb hml hown hts hr hlocks hE hnm w ls hl
  have hown : s.vm.findClass RX7 = some m.cls := hown
  have hl : lv_has ls 4 [(0, .ref hmo), (1, .int (zI (((k : Nat) : Int)))), (2, .int (zI (v)))] := hl
  have f_7 : (Cond.fieldLink RX7 7 "RelaxedStepsModel" "now" "[J").before _ s = true := hts _ (by decide +kernel)
  have inX7 : ∀ w ∈ u_ws RX7 TX7 11, w ∈ wsX7_changes := by decide +kernel
  have w : zW D A s.heap s [(hmo, .inr (7, [.ref ha, .ref hth, .ref hpa, .int (zI (kp)), .ref hsl, .ref hhe, .ref hpd, .int (zI (pd)), .int (zI (ap)), .ref hor, .int (zI (od))])), (ha, .inl (D.2 1, 86, .inr (.inl (fNow S))))] s.heap [] := w
  refine lv_aload_n hx hb dX7_changes_0 rfl (lv_at hl 0 rfl) ?_
  refine z_get hx hb hown hts w inX7 0 0 rfl rfl (by decide) f_7 rfl rfl dX7_changes_1 ?_
  refine lv_iload_n hx hb dX7_changes_4 rfl (lv_at hl 1 rfl) ?_
  refine z_lald hx hb w 1 rfl k (by omega) (by decide) rfl (v := (zL (S k))) (if_pos (by omega)) dX7_changes_5 ?_
  refine z_l2i hx hb dX7_changes_6 ?_
  refine lv_istore_n (lv' := [(3, .int (zI (S k))), (0, .ref hmo), (1, .int (zI (((k : Nat) : Int)))), (2, .int (zI (v)))]) hx hb dX7_changes_7 rfl hl (by decide) rfl (fun ls hl => ?_)
  refine lv_aload_n hx hb dX7_changes_8 rfl (lv_at hl 1 rfl) ?_
  refine z_get hx hb hown hts w inX7 0 0 rfl rfl (by decide) f_7 rfl rfl dX7_changes_9 ?_
  refine lv_iload_n hx hb dX7_changes_12 rfl (lv_at hl 2 rfl) ?_
  refine lv_iload_n hx hb dX7_changes_13 rfl (lv_at hl 3 rfl) ?_
  refine z_i2l hx hb (by omega) dX7_changes_14 ?_
  refine z_last hx hb w 1 rfl k (by omega) (by decide) rfl dX7_changes_15 (fNow (zu S k v)) (fun i hi => fNow_zu hi) (fun H locs w => ?_)
  have w : zW D A s.heap s [(hmo, .inr (7, [.ref ha, .ref hth, .ref hpa, .int (zI (kp)), .ref hsl, .ref hhe, .ref hpd, .int (zI (pd)), .int (zI (ap)), .ref hor, .int (zI (od))])), (ha, .inl (D.2 1, 86, .inr (.inl (fNow (zu S k v)))))] H locs := w
  refine lv_iload_n hx hb dX7_changes_16 rfl (lv_at hl 0 rfl) ?_
  exact z_iret hx hb hr hlocks w dX7_changes_17 ⟨rfl, rfl⟩
set_option maxHeartbeats 6000000 in
set_option maxRecDepth 100000 in
theorem c_X7_mayLimit (l : Launch) (D : zD) (d v : Int) (hd : zB d) (hv : zB v) : zM l yX7_mayLimit wsX7_mayLimit (zR (2)) zE0 D [.int (zI (d)), .int (zI (v))] [] (zQi D (fun r W1 => r = zI (mLim d v) ∧ W1 = [])) := by
  refine zM.of (cc := cX7_mayLimit) (maxL := 2) (ret := (some .int)) (by decide) rfl (Nat.le_of_ble_eq_true rfl) ?_
  intro p e s m below meth c A hx hb hml hown hts hr hlocks hE hnm w ls hl
  have hown : s.vm.findClass RX7 = some m.cls := hown
  have hl : lv_has ls 2 [(0, .int (zI (d))), (1, .int (zI (v)))] := hl
  refine lv_iload_n hx hb dX7_mayLimit_0 rfl (lv_at hl 0 rfl) ?_
  refine z_S_i (As := [.int (zI (d))]) (rest := []) (Wr := []) ⟨hx, hb, hml, hown, hts⟩ (c_X7_isWay l D d (by omega)) (va_cwS 1 hts gX7_mayLimit_X7_isWay rfl rfl rfl (by decide +kernel) ⟨Nat.le_of_ble_eq_true rfl, Nat.le_of_ble_eq_true rfl⟩) w [] rfl (by decide) [] rfl (by decide) (by decide) rfl hl.1 rfl (lv_room (Nat.le_of_ble_eq_true rfl)) dX7_mayLimit_1 ⟨Nat.zero_le _, Nat.zero_le _⟩ (fun r W1 H locs hp w => ?_)
  obtain ⟨rfl, rfl⟩ := hp
  refine z_if_ne_b (tgt := 11) hx hb dX7_mayLimit_4 (by decide) (fun c4 => ?_) (fun c4 => ?_)
  · skip
    refine lv_iload_n hx hb dX7_mayLimit_11 rfl (lv_at hl 1 rfl) ?_
    refine lv_iconst (v := zI 0) hx hb dX7_mayLimit_12 rfl ?_
    refine lv_sipush (v := zI 999) hx hb dX7_mayLimit_13 (by decide +kernel) ?_
    refine z_S_i (As := [.int (zI (v)), .int (zI (0)), .int (zI (999))]) (rest := []) (Wr := []) ⟨hx, hb, hml, hown, hts⟩ (c_X7_in l D v 0 999 (by omega) (by omega) (by omega)) (va_cwS 3 hts gX7_mayLimit_X7_in rfl rfl rfl (by decide +kernel) ⟨Nat.le_of_ble_eq_true rfl, Nat.le_of_ble_eq_true rfl⟩) w [] rfl (by decide) [] rfl (by decide) (by decide) rfl hl.1 rfl (lv_room (Nat.le_of_ble_eq_true rfl)) dX7_mayLimit_16 ⟨Nat.zero_le _, Nat.zero_le _⟩ (fun r W1 H locs hp w => ?_)
    obtain ⟨rfl, rfl⟩ := hp
    refine z_if_eq_b (tgt := 26) hx hb dX7_mayLimit_19 (by decide) (fun c19 => ?_) (fun c19 => ?_)
    · skip
      refine lv_bipush (v := zI (-2)) hx hb dX7_mayLimit_26 (by decide +kernel) ?_
      exact z_iret hx hb hr hlocks w dX7_mayLimit_28 ⟨by first | rw [show mLim d v = -1 from if_neg c4] | rw [show mLim d v = 0 from (if_pos c4).trans (if_pos c19)] | rw [show mLim d v = -2 from (if_pos c4).trans (if_neg c19)], rfl⟩
    · skip
      refine lv_iconst (v := zI 0) hx hb dX7_mayLimit_22 rfl ?_
      refine lv_goto (tgt := 28) hx hb dX7_mayLimit_23 (by decide) ?_
      exact z_iret hx hb hr hlocks w dX7_mayLimit_28 ⟨by first | rw [show mLim d v = -1 from if_neg c4] | rw [show mLim d v = 0 from (if_pos c4).trans (if_pos c19)] | rw [show mLim d v = -2 from (if_pos c4).trans (if_neg c19)], rfl⟩
  · skip
    refine lv_iconst (v := zI (-1)) hx hb dX7_mayLimit_7 rfl ?_
    refine lv_goto (tgt := 28) hx hb dX7_mayLimit_8 (by decide) ?_
    exact z_iret hx hb hr hlocks w dX7_mayLimit_28 ⟨by first | rw [show mLim d v = -1 from if_neg c4] | rw [show mLim d v = 0 from (if_pos c4).trans (if_pos c19)] | rw [show mLim d v = -2 from (if_pos c4).trans (if_neg c19)], rfl⟩
set_option maxHeartbeats 6000000 in
set_option maxRecDepth 100000 in
theorem c_X7_limits (l : Launch) (D : zD) (hmo ha hth hpa hsl hhe hpd hor : Nat) (kp pd ap od : Int) (S : Nat → Int) (hok : OkP S) (hokm : OkM (mu S)) (d : Nat) (v : Int) (hd : d < 3) (hv : 0 ≤ v ∧ v ≤ 999) : zM l yX7_limits wsX7_limits (zR (4)) zE0 D [.ref hmo, .int (zI (((d : Nat) : Int))), .int (zI (v))] (wMb D hmo ha hth hpa hsl hhe hpd hor kp pd ap od S) (zQi D (fun r W1 => r = zI (S (65 + d)) ∧ W1 = (wMb D hmo ha hth hpa hsl hhe hpd hor kp pd ap od (oLimit S d v)))) := by
  refine zM.of (cc := cX7_limits) (maxL := 4) (ret := (some .int)) (by decide) rfl (Nat.le_of_ble_eq_true rfl) ?_
  intro p e s m below meth c A hx hb hml hown hts hr hlocks hE hnm w ls hl
  have hown : s.vm.findClass RX7 = some m.cls := hown
  have hl : lv_has ls 4 [(0, .ref hmo), (1, .int (zI (((d : Nat) : Int)))), (2, .int (zI (v)))] := hl
  have hn := zn_eq hok
  have h16 := zn_le hok
  have hlim := hok.2.2
  have hoka := OkP_lim hok hd hv
  have hokma : OkM (mu (zu S (65 + d) v)) := OkM_cong (fun k hk => zu_n _ _ (by omega)) hokm
  have w : zW D A s.heap s [(hmo, .inr (7, [.ref ha, .ref hth, .ref hpa, .int (zI (kp)), .ref hsl, .ref hhe, .ref hpd, .int (zI (pd)), .int (zI (ap)), .ref hor, .int (zI (od))])), (ha, .inl (D.2 1, 86, .inr (.inl (fNow S))))] s.heap [] := w
  refine lv_aload_n hx hb dX7_limits_0 rfl (lv_at hl 0 rfl) ?_
  refine lv_bipush (v := zI 65) hx hb dX7_limits_1 (by decide +kernel) ?_
  refine lv_iload_n hx hb dX7_limits_3 rfl (lv_at hl 1 rfl) ?_
  refine z_iadd hx hb dX7_limits_4 ?_
  refine lv_iload_n hx hb dX7_limits_5 rfl (lv_at hl 2 rfl) ?_
  refine z_V_i (As := [.int (zI (65 + ((d : Nat) : Int))), .int (zI (v))]) (rest := []) (Wr := []) ⟨hx, hb, hml, hown, hts⟩ (c_X7_changes l D hmo ha hth hpa hsl hhe hpd hor kp pd ap od S (65 + d) v (by omega) (by omega)) (cwV 2 hts gX7_limits_X7_changes rfl rfl rfl (by decide +kernel) ⟨Nat.le_of_ble_eq_true rfl, Nat.le_of_ble_eq_true rfl⟩) w (q0 := 0) rfl rfl rfl [0, 1] rfl (by decide) [] rfl (by decide) (by decide) rfl hl.1 rfl (lv_room (Nat.le_of_ble_eq_true rfl)) dX7_limits_6 ⟨Nat.zero_le _, Nat.zero_le _⟩ (fun r W1 H locs hp w => ?_)
  obtain ⟨rfl, rfl⟩ := hp
  have w : zW D A s.heap s [(hmo, .inr (7, [.ref ha, .ref hth, .ref hpa, .int (zI (kp)), .ref hsl, .ref hhe, .ref hpd, .int (zI (pd)), .int (zI (ap)), .ref hor, .int (zI (od))])), (ha, .inl (D.2 1, 86, .inr (.inl (fNow (zu S (65 + d) v)))))] H locs := w.sub [0, 1] (by decide) rfl
  refine lv_istore_n (lv' := [(3, .int (zI (S (65 + d)))), (0, .ref hmo), (1, .int (zI (((d : Nat) : Int)))), (2, .int (zI (v)))]) hx hb dX7_limits_9 rfl hl (by decide) rfl (fun ls hl => ?_)
  refine lv_aload_n hx hb dX7_limits_10 rfl (lv_at hl 1 rfl) ?_
  refine z_V_v (As := []) (rest := []) (Wr := []) ⟨hx, hb, hml, hown, hts⟩ (c_X7_forgets l D hmo ha hth hpa hsl hhe hpd hor kp pd ap od (zu S (65 + d) v) hoka hokma) (cwV 0 hts gX7_limits_X7_forgets rfl rfl rfl (by decide +kernel) ⟨Nat.le_of_ble_eq_true rfl, Nat.le_of_ble_eq_true rfl⟩) w (q0 := 0) rfl rfl rfl [0, 1] rfl (by decide) [] rfl (by decide) (by decide) rfl hl.1 rfl (lv_room (Nat.le_of_ble_eq_true rfl)) dX7_limits_11 ⟨Nat.zero_le _, Nat.zero_le _⟩ (fun W1 H locs hp w => ?_)
  subst hp
  have w : zW D A s.heap s [(hmo, .inr (7, [.ref ha, .ref hth, .ref hpa, .int (zI (kp)), .ref hsl, .ref hhe, .ref hpd, .int (zI (pd)), .int (zI (ap)), .ref hor, .int (zI (od))])), (ha, .inl (D.2 1, 86, .inr (.inl (fNow (sFg (zu S (65 + d) v))))))] H locs := w.sub [0, 1] (by decide) rfl
  refine lv_iload_n hx hb dX7_limits_14 rfl (lv_at hl 0 rfl) ?_
  exact z_iret hx hb hr hlocks w dX7_limits_15 ⟨rfl, rfl⟩
set_option maxHeartbeats 6000000 in
set_option maxRecDepth 100000 in
theorem c_X7_repairsNow (l : Launch) (D : zD) (hmo ha hth hpa hsl hhe hpd hor : Nat) (kp pd ap od : Int) (S : Nat → Int) (B : Int) (hB : B ≤ 2000000000) (hokS : OkS B S) : zM l yX7_repairsNow wsX7_repairsNow (zR (4)) zE0 D [.ref hmo] (wMb D hmo ha hth hpa hsl hhe hpd hor kp pd ap od S) (zQi D (fun r W1 => r = zI (sUse S (sRp S) 0) ∧ W1 = (wMb D hmo ha hth hpa hsl hhe hpd hor kp pd ap od (oRep S)))) := by
  refine zM.of (cc := cX7_repairsNow) (maxL := 3) (ret := (some .int)) (by decide) rfl (Nat.le_of_ble_eq_true rfl) ?_
  intro p e s m below meth c A hx hb hml hown hts hr hlocks hE hnm w ls hl
  have hown : s.vm.findClass RX7 = some m.cls := hown
  have hl : lv_has ls 3 [(0, .ref hmo)] := hl
  have f_7 : (Cond.fieldLink RX7 7 "RelaxedStepsModel" "now" "[J").before _ s = true := hts _ (by decide +kernel)
  have inX7 : ∀ w ∈ u_ws RX7 TX7 11, w ∈ wsX7_repairsNow := by decide +kernel
  obtain ⟨hok, hokm, hokb, hsc, hbe⟩ := id hokS
  have hokp := hok
  have hn := zn_eq hok
  have h16 := zn_le hok
  have hlim := hok.2.2
  have hm1 := hokm
  unfold OkM mu at hm1
  have hbd := sBd_b hok hokm
  have hkb := hokb.1
  have hbw := sBw_b hok
  have hrl := sRel_16 (M := mu S) hok
  have hrp := sRp_lt hok
  have hub := sUse_b hok (sRp S) (what := 0) (by omega)
  have w : zW D A s.heap s [(hmo, .inr (7, [.ref ha, .ref hth, .ref hpa, .int (zI (kp)), .ref hsl, .ref hhe, .ref hpd, .int (zI (pd)), .int (zI (ap)), .ref hor, .int (zI (od))])), (ha, .inl (D.2 1, 86, .inr (.inl (fNow S))))] s.heap [] := w
  refine lv_aload_n hx hb dX7_repairsNow_0 rfl (lv_at hl 0 rfl) ?_
  refine z_get hx hb hown hts w inX7 0 0 rfl rfl (by decide) f_7 rfl rfl dX7_repairsNow_1 ?_
  refine lv_aload_n hx hb dX7_repairsNow_4 rfl (lv_at hl 0 rfl) ?_
  refine z_get hx hb hown hts w inX7 0 0 rfl rfl (by decide) f_7 rfl rfl dX7_repairsNow_5 ?_
  refine z_S_i (As := [.ref ha]) (rest := [.ref ha]) (Wr := [(hmo, .inr (7, [.ref ha, .ref hth, .ref hpa, .int (zI (kp)), .ref hsl, .ref hhe, .ref hpd, .int (zI (pd)), .int (zI (ap)), .ref hor, .int (zI (od))]))]) ⟨hx, hb, hml, hown, hts⟩ (c_X7_relaxed l D ha S hok hokm) (va_cwS 1 hts gX7_repairsNow_X7_relaxed rfl rfl rfl (by decide +kernel) ⟨Nat.le_of_ble_eq_true rfl, Nat.le_of_ble_eq_true rfl⟩) w [1] rfl (by decide) [0] rfl (by decide) (by decide) rfl hl.1 rfl (lv_room (Nat.le_of_ble_eq_true rfl)) dX7_repairsNow_8 ⟨Nat.zero_le _, Nat.zero_le _⟩ (fun r W1 H locs hp w => ?_)
  obtain ⟨rfl, rfl⟩ := hp
  have w : zW D A s.heap s [(hmo, .inr (7, [.ref ha, .ref hth, .ref hpa, .int (zI (kp)), .ref hsl, .ref hhe, .ref hpd, .int (zI (pd)), .int (zI (ap)), .ref hor, .int (zI (od))])), (ha, .inl (D.2 1, 86, .inr (.inl (fNow S))))] H locs := w.sub [0, 1] (by decide) rfl
  refine z_S_i (As := [.ref ha, .int (zI (((sRel S (mu S) : Nat) : Int)))]) (rest := []) (Wr := [(hmo, .inr (7, [.ref ha, .ref hth, .ref hpa, .int (zI (kp)), .ref hsl, .ref hhe, .ref hpd, .int (zI (pd)), .int (zI (ap)), .ref hor, .int (zI (od))]))]) ⟨hx, hb, hml, hown, hts⟩ (c_X7_repairs l D ha S hok (sRel S (mu S)) (by omega)) (va_cwS 2 hts gX7_repairsNow_X7_repairs rfl rfl rfl (by decide +kernel) ⟨Nat.le_of_ble_eq_true rfl, Nat.le_of_ble_eq_true rfl⟩) w [1] rfl (by decide) [0] rfl (by decide) (by decide) rfl hl.1 rfl (lv_room (Nat.le_of_ble_eq_true rfl)) dX7_repairsNow_11 ⟨Nat.zero_le _, Nat.zero_le _⟩ (fun r W1 H locs hp w => ?_)
  obtain ⟨rfl, rfl⟩ := hp
  have w : zW D A s.heap s [(hmo, .inr (7, [.ref ha, .ref hth, .ref hpa, .int (zI (kp)), .ref hsl, .ref hhe, .ref hpd, .int (zI (pd)), .int (zI (ap)), .ref hor, .int (zI (od))])), (ha, .inl (D.2 1, 86, .inr (.inl (fNow S))))] H locs := w.sub [0, 1] (by decide) rfl
  refine lv_istore_n (lv' := [(1, .int (zI (((sRp S : Nat) : Int)))), (0, .ref hmo)]) hx hb dX7_repairsNow_14 rfl hl (by decide) rfl (fun ls hl => ?_)
  refine lv_aload_n hx hb dX7_repairsNow_15 rfl (lv_at hl 1 rfl) ?_
  refine z_get hx hb hown hts w inX7 0 0 rfl rfl (by decide) f_7 rfl rfl dX7_repairsNow_16 ?_
  refine lv_iload_n hx hb dX7_repairsNow_19 rfl (lv_at hl 0 rfl) ?_
  refine lv_iconst (v := zI 0) hx hb dX7_repairsNow_20 rfl ?_
  refine z_S_i (As := [.ref ha, .int (zI (((sRp S : Nat) : Int))), .int (zI (0))]) (rest := []) (Wr := [(hmo, .inr (7, [.ref ha, .ref hth, .ref hpa, .int (zI (kp)), .ref hsl, .ref hhe, .ref hpd, .int (zI (pd)), .int (zI (ap)), .ref hor, .int (zI (od))]))]) ⟨hx, hb, hml, hown, hts⟩ (c_X7_sum l D ha S hok (sRp S) 0 (by omega) (by omega)) (va_cwS 3 hts gX7_repairsNow_X7_sum rfl rfl rfl (by decide +kernel) ⟨Nat.le_of_ble_eq_true rfl, Nat.le_of_ble_eq_true rfl⟩) w [1] rfl (by decide) [0] rfl (by decide) (by decide) rfl hl.1 rfl (lv_room (Nat.le_of_ble_eq_true rfl)) dX7_repairsNow_21 ⟨Nat.zero_le _, Nat.zero_le _⟩ (fun r W1 H locs hp w => ?_)
  obtain ⟨rfl, rfl⟩ := hp
  have w : zW D A s.heap s [(hmo, .inr (7, [.ref ha, .ref hth, .ref hpa, .int (zI (kp)), .ref hsl, .ref hhe, .ref hpd, .int (zI (pd)), .int (zI (ap)), .ref hor, .int (zI (od))])), (ha, .inl (D.2 1, 86, .inr (.inl (fNow S))))] H locs := w.sub [0, 1] (by decide) rfl
  refine lv_istore_n (lv' := [(2, .int (zI (sUse S (sRp S) 0))), (1, .int (zI (((sRp S : Nat) : Int)))), (0, .ref hmo)]) hx hb dX7_repairsNow_24 rfl hl (by decide) rfl (fun ls hl => ?_)
  refine lv_aload_n hx hb dX7_repairsNow_25 rfl (lv_at hl 2 rfl) ?_
  refine z_get hx hb hown hts w inX7 0 0 rfl rfl (by decide) f_7 rfl rfl dX7_repairsNow_26 ?_
  refine lv_bipush (v := zI 76) hx hb dX7_repairsNow_29 (by decide +kernel) ?_
  refine lv_aload_n hx hb dX7_repairsNow_31 rfl (lv_at hl 2 rfl) ?_
  refine z_get hx hb hown hts w inX7 0 0 rfl rfl (by decide) f_7 rfl rfl dX7_repairsNow_32 ?_
  refine lv_bipush (v := zI 76) hx hb dX7_repairsNow_35 (by decide +kernel) ?_
  refine z_lald hx hb w 1 rfl 76 (by omega) (by decide) rfl (v := (zL (S 76))) (if_pos (by omega)) dX7_repairsNow_37 ?_
  refine lv_ldc2 (v := zL (-6)) hx hb hown (hts (.constantLong RX7 81 (zL (-6))) (by decide +kernel)) dX7_repairsNow_38 ?_
  refine z_lcmp_eq (tgt := 56) hx hb (by omega) (by omega) dX7_repairsNow_41 dX7_repairsNow_42 (by decide) (fun c41 => ?_) (fun c41 => ?_)
  · skip
    refine lv_iload_n hx hb dX7_repairsNow_56 rfl (lv_at hl 1 rfl) ?_
    refine z_i2l hx hb (by omega) dX7_repairsNow_57 ?_
    refine lv_goto (tgt := 68) hx hb dX7_repairsNow_58 (by decide) ?_
    refine z_last hx hb w 1 rfl 76 (by omega) (by decide) rfl dX7_repairsNow_68 (fNow (zu S 76 ((sRp S : Nat) : Int))) (fun i hi => fNow_zu hi) (fun H locs w => ?_)
    have w : zW D A s.heap s [(hmo, .inr (7, [.ref ha, .ref hth, .ref hpa, .int (zI (kp)), .ref hsl, .ref hhe, .ref hpd, .int (zI (pd)), .int (zI (ap)), .ref hor, .int (zI (od))])), (ha, .inl (D.2 1, 86, .inr (.inl (fNow (zu S 76 ((sRp S : Nat) : Int))))))] H locs := w
    refine lv_iload_n hx hb dX7_repairsNow_69 rfl (lv_at hl 0 rfl) ?_
    exact z_iret hx hb hr hlocks w dX7_repairsNow_70 ⟨rfl, by rw [oRep_eq hok hbe]; first | (rw [if_pos (by omega)]; rfl) | (rw [if_neg (by omega)]; rfl)⟩
  · skip
    refine lv_iload_n hx hb dX7_repairsNow_45 rfl (lv_at hl 0 rfl) ?_
    refine lv_aload_n hx hb dX7_repairsNow_46 rfl (lv_at hl 2 rfl) ?_
    refine z_get hx hb hown hts w inX7 0 0 rfl rfl (by decide) f_7 rfl rfl dX7_repairsNow_47 ?_
    refine z_S_i (As := [.ref ha]) (rest := [.int (zI (sUse S (sRp S) 0)), .int (zI (76)), .ref ha]) (Wr := [(hmo, .inr (7, [.ref ha, .ref hth, .ref hpa, .int (zI (kp)), .ref hsl, .ref hhe, .ref hpd, .int (zI (pd)), .int (zI (ap)), .ref hor, .int (zI (od))]))]) ⟨hx, hb, hml, hown, hts⟩ (c_X7_bestWorth l D ha S hok hbe) (va_cwS 1 hts gX7_repairsNow_X7_bestWorth rfl rfl rfl (by decide +kernel) ⟨Nat.le_of_ble_eq_true rfl, Nat.le_of_ble_eq_true rfl⟩) w [1] rfl (by decide) [0] rfl (by decide) (by decide) rfl hl.1 rfl (lv_room (Nat.le_of_ble_eq_true rfl)) dX7_repairsNow_50 ⟨Nat.zero_le _, Nat.zero_le _⟩ (fun r W1 H locs hp w => ?_)
    obtain ⟨rfl, rfl⟩ := hp
    have w : zW D A s.heap s [(hmo, .inr (7, [.ref ha, .ref hth, .ref hpa, .int (zI (kp)), .ref hsl, .ref hhe, .ref hpd, .int (zI (pd)), .int (zI (ap)), .ref hor, .int (zI (od))])), (ha, .inl (D.2 1, 86, .inr (.inl (fNow S))))] H locs := w.sub [0, 1] (by decide) rfl
    refine z_icmp_le (tgt := 61) hx hb (by omega) (by omega) dX7_repairsNow_53 (by decide) (fun c53 => ?_) (fun c53 => ?_)
    · skip
      refine lv_aload_n hx hb dX7_repairsNow_61 rfl (lv_at hl 2 rfl) ?_
      refine z_get hx hb hown hts w inX7 0 0 rfl rfl (by decide) f_7 rfl rfl dX7_repairsNow_62 ?_
      refine lv_bipush (v := zI 76) hx hb dX7_repairsNow_65 (by decide +kernel) ?_
      refine z_lald hx hb w 1 rfl 76 (by omega) (by decide) rfl (v := (zL (S 76))) (if_pos (by omega)) dX7_repairsNow_67 ?_
      refine z_last hx hb w 1 rfl 76 (by omega) (by decide) rfl dX7_repairsNow_68 (fNow (zu S 76 (S 76))) (fun i hi => fNow_zu hi) (fun H locs w => ?_)
      have w : zW D A s.heap s [(hmo, .inr (7, [.ref ha, .ref hth, .ref hpa, .int (zI (kp)), .ref hsl, .ref hhe, .ref hpd, .int (zI (pd)), .int (zI (ap)), .ref hor, .int (zI (od))])), (ha, .inl (D.2 1, 86, .inr (.inl (fNow (zu S 76 (S 76))))))] H locs := w
      refine lv_iload_n hx hb dX7_repairsNow_69 rfl (lv_at hl 0 rfl) ?_
      exact z_iret hx hb hr hlocks w dX7_repairsNow_70 ⟨rfl, by rw [oRep_eq hok hbe]; first | (rw [if_pos (by omega)]; rfl) | (rw [if_neg (by omega)]; rfl)⟩
    · skip
      refine lv_iload_n hx hb dX7_repairsNow_56 rfl (lv_at hl 1 rfl) ?_
      refine z_i2l hx hb (by omega) dX7_repairsNow_57 ?_
      refine lv_goto (tgt := 68) hx hb dX7_repairsNow_58 (by decide) ?_
      refine z_last hx hb w 1 rfl 76 (by omega) (by decide) rfl dX7_repairsNow_68 (fNow (zu S 76 ((sRp S : Nat) : Int))) (fun i hi => fNow_zu hi) (fun H locs w => ?_)
      have w : zW D A s.heap s [(hmo, .inr (7, [.ref ha, .ref hth, .ref hpa, .int (zI (kp)), .ref hsl, .ref hhe, .ref hpd, .int (zI (pd)), .int (zI (ap)), .ref hor, .int (zI (od))])), (ha, .inl (D.2 1, 86, .inr (.inl (fNow (zu S 76 ((sRp S : Nat) : Int))))))] H locs := w
      refine lv_iload_n hx hb dX7_repairsNow_69 rfl (lv_at hl 0 rfl) ?_
      exact z_iret hx hb hr hlocks w dX7_repairsNow_70 ⟨rfl, by rw [oRep_eq hok hbe]; first | (rw [if_pos (by omega)]; rfl) | (rw [if_neg (by omega)]; rfl)⟩
