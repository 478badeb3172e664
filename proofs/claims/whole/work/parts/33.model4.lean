set_option maxHeartbeats 6000000 in
set_option maxRecDepth 100000 in
theorem c_X7_forgets (l : Launch) (D : zD) (hmo ha hth hpa hsl hhe hpd hor : Nat) (kp pd ap od : Int) (S : Nat → Int) (hok : OkP S) (hokm : OkM (mu S)) : zM l yX7_forgets wsX7_forgets (zR (3)) zE0 D [.ref hmo] (wMb D hmo ha hth hpa hsl hhe hpd hor kp pd ap od S) (zQv D (fun W1 => W1 = (wMb D hmo ha hth hpa hsl hhe hpd hor kp pd ap od (sFg S)))) := by
  refine zM.of (cc := cX7_forgets) (maxL := 1) (ret := none) (by decide) rfl (Nat.le_of_ble_eq_true rfl) ?_
  intro p e s m below meth c A hx hb hml hown hts hr hlocks hE hnm w ls hl
  have hown : s.vm.findClass RX7 = some m.cls := hown
  have hl : lv_has ls 1 [(0, .ref hmo)] := hl
  have f_7 : (Cond.fieldLink RX7 7 "RelaxedStepsModel" "now" "[J").before _ s = true := hts _ (by decide +kernel)
  have inX7 : ∀ w ∈ u_ws RX7 TX7 11, w ∈ wsX7_forgets := by decide +kernel
  have hn := zn_eq hok
  have h16 := zn_le hok
  have hlim := hok.2.2
  have okA := OkP_z2 hok (a := 0) (b := -6)
  have okB : OkM (mu (zu (zu S 73 0) 76 (-6))) := OkM_cong (c3 rfl rfl rfl) hokm
  have w : zW D A s.heap s [(hmo, .inr (7, [.ref ha, .ref hth, .ref hpa, .int (zI (kp)), .ref hsl, .ref hhe, .ref hpd, .int (zI (pd)), .int (zI (ap)), .ref hor, .int (zI (od))])), (ha, .inl (D.2 1, 86, .inr (.inl (fNow S))))] s.heap [] := w
  refine lv_aload_n hx hb dX7_forgets_0 rfl (lv_at hl 0 rfl) ?_
  refine z_get hx hb hown hts w inX7 0 0 rfl rfl (by decide) f_7 rfl rfl dX7_forgets_1 ?_
  refine lv_bipush (v := zI 73) hx hb dX7_forgets_4 (by decide +kernel) ?_
  refine lv_lconst (v := zL 0) hx hb dX7_forgets_6 rfl ?_
  refine z_last hx hb w 1 rfl 73 (by omega) (by decide) rfl dX7_forgets_7 (fNow (zu S 73 0)) (fun i hi => fNow_zu hi) (fun H locs w => ?_)
  have w : zW D A s.heap s [(hmo, .inr (7, [.ref ha, .ref hth, .ref hpa, .int (zI (kp)), .ref hsl, .ref hhe, .ref hpd, .int (zI (pd)), .int (zI (ap)), .ref hor, .int (zI (od))])), (ha, .inl (D.2 1, 86, .inr (.inl (fNow (zu S 73 0)))))] H locs := w
  refine lv_aload_n hx hb dX7_forgets_8 rfl (lv_at hl 0 rfl) ?_
  refine z_get hx hb hown hts w inX7 0 0 rfl rfl (by decide) f_7 rfl rfl dX7_forgets_9 ?_
  refine lv_bipush (v := zI 76) hx hb dX7_forgets_12 (by decide +kernel) ?_
  refine lv_ldc2 (v := zL (-6)) hx hb hown (hts (.constantLong RX7 81 (zL (-6))) (by decide +kernel)) dX7_forgets_14 ?_
  refine z_last hx hb w 1 rfl 76 (by omega) (by decide) rfl dX7_forgets_17 (fNow (zu (zu S 73 0) 76 (-6))) (fun i hi => fNow_zu hi) (fun H locs w => ?_)
  have w : zW D A s.heap s [(hmo, .inr (7, [.ref ha, .ref hth, .ref hpa, .int (zI (kp)), .ref hsl, .ref hhe, .ref hpd, .int (zI (pd)), .int (zI (ap)), .ref hor, .int (zI (od))])), (ha, .inl (D.2 1, 86, .inr (.inl (fNow (zu (zu S 73 0) 76 (-6))))))] H locs := w
  refine lv_aload_n hx hb dX7_forgets_18 rfl (lv_at hl 0 rfl) ?_
  refine z_get hx hb hown hts w inX7 0 0 rfl rfl (by decide) f_7 rfl rfl dX7_forgets_19 ?_
  refine lv_bipush (v := zI 75) hx hb dX7_forgets_22 (by decide +kernel) ?_
  refine lv_aload_n hx hb dX7_forgets_24 rfl (lv_at hl 0 rfl) ?_
  refine z_get hx hb hown hts w inX7 0 0 rfl rfl (by decide) f_7 rfl rfl dX7_forgets_25 ?_
  refine z_S_l (As := [.ref ha]) (rest := [.int (zI (75)), .ref ha]) (Wr := [(hmo, .inr (7, [.ref ha, .ref hth, .ref hpa, .int (zI (kp)), .ref hsl, .ref hhe, .ref hpd, .int (zI (pd)), .int (zI (ap)), .ref hor, .int (zI (od))]))]) ⟨hx, hb, hml, hown, hts⟩ (c_X7_boundOf l D ha (zu (zu S 73 0) 76 (-6)) okA okB) (va_cwS 1 hts gX7_forgets_X7_boundOf rfl rfl rfl (by decide +kernel) ⟨Nat.le_of_ble_eq_true rfl, Nat.le_of_ble_eq_true rfl⟩) w [1] rfl (by decide) [0] rfl (by decide) (by decide) rfl hl.1 rfl (lv_room (Nat.le_of_ble_eq_true rfl)) dX7_forgets_28 ⟨Nat.zero_le _, Nat.zero_le _⟩ (fun r W1 H locs hp w => ?_)
  obtain ⟨rfl, rfl⟩ := hp
  have w : zW D A s.heap s [(hmo, .inr (7, [.ref ha, .ref hth, .ref hpa, .int (zI (kp)), .ref hsl, .ref hhe, .ref hpd, .int (zI (pd)), .int (zI (ap)), .ref hor, .int (zI (od))])), (ha, .inl (D.2 1, 86, .inr (.inl (fNow (zu (zu S 73 0) 76 (-6))))))] H locs := w.sub [0, 1] (by decide) rfl
  refine z_last hx hb w 1 rfl 75 (by omega) (by decide) rfl dX7_forgets_31 (fNow (zu (zu (zu S 73 0) 76 (-6)) 75 (sBd (zu (zu S 73 0) 76 (-6)) (mu (zu (zu S 73 0) 76 (-6)))))) (fun i hi => fNow_zu hi) (fun H locs w => ?_)
  have w : zW D A s.heap s [(hmo, .inr (7, [.ref ha, .ref hth, .ref hpa, .int (zI (kp)), .ref hsl, .ref hhe, .ref hpd, .int (zI (pd)), .int (zI (ap)), .ref hor, .int (zI (od))])), (ha, .inl (D.2 1, 86, .inr (.inl (fNow (zu (zu (zu S 73 0) 76 (-6)) 75 (sBd (zu (zu S 73 0) 76 (-6)) (mu (zu (zu S 73 0) 76 (-6)))))))))] H locs := w
  exact z_vret hx hb hr hlocks w dX7_forgets_32 (by rw [sFg_eq hok]; rfl)
set_option maxHeartbeats 6000000 in
set_option maxRecDepth 100000 in
theorem c_X7_length (l : Launch) (D : zD) (ha : Nat) (S : Nat → Int) (B : Int) (hB : B ≤ 2000000000) (hokS : OkS B S) : zM l yX7_length wsX7_length (zR (4)) zE0 D [.ref ha] (wMo D ha S) (zQl D (fun r W1 => r = zL (sLn S) ∧ W1 = (wMo D ha S))) := by
  refine zM.of (cc := cX7_length) (maxL := 5) (ret := (some .long)) (by decide) rfl (Nat.le_of_ble_eq_true rfl) ?_
  intro p e s m below meth c A hx hb hml hown hts hr hlocks hE hnm w ls hl
  have hown : s.vm.findClass RX7 = some m.cls := hown
  have hl : lv_has ls 5 [(0, .ref ha)] := hl
  obtain ⟨hok, hokm, hokb, hsc, hbe⟩ := id hokS
  have hokp := hok
  have hn := zn_eq hok
  have h16 := zn_le hok
  have hlim := hok.2.2
  have hm1 := hokm
  unfold OkM mu at hm1
  have hbd := sBd_b hok hokm
  have hkb := hokb.1
  have hbw := sBw_b hok
  have hhu := sBw_hu hok
  have hsq := sSq_b (M := mu S) hok
  have t0 := sSlo_b (M := mu S) hok (d := 0) (by omega)
  have t1 := sSlo_b (M := mu S) hok (d := 1) (by omega)
  have t2 := sSlo_b (M := mu S) hok (d := 2) (by omega)
  have hdv := tdb (a := S 72) (q := S 73 + 1) (by omega) (by omega) (by omega)
  have hem : max 1 (S 73 + 1) = S 73 + 1 := (by omega)
  have hed := tdm (a := S 72) (q := S 73 + 1) (by omega)
  have w : zW D A s.heap s [(ha, .inl (D.2 1, 86, .inr (.inl (fNow S))))] s.heap [] := w
  refine lv_aload_n hx hb dX7_length_0 rfl (lv_at hl 0 rfl) ?_
  refine lv_bipush (v := zI 71) hx hb dX7_length_1 (by decide +kernel) ?_
  refine z_lald hx hb w 0 rfl 71 (by omega) (by decide) rfl (v := (zL (S 71))) (if_pos (by omega)) dX7_length_3 ?_
  refine lv_lconst (v := zL 0) hx hb dX7_length_4 rfl ?_
  refine z_lcmp_ne (tgt := 14) hx hb (by omega) (by omega) dX7_length_5 dX7_length_6 (by decide) (fun c5 => ?_) (fun c5 => ?_)
  · skip
    refine lv_aload_n hx hb dX7_length_14 rfl (lv_at hl 0 rfl) ?_
    refine lv_bipush (v := zI 71) hx hb dX7_length_15 (by decide +kernel) ?_
    refine z_lald hx hb w 0 rfl 71 (by omega) (by decide) rfl (v := (zL (S 71))) (if_pos (by omega)) dX7_length_17 ?_
    refine lv_lconst (v := zL 1) hx hb dX7_length_18 rfl ?_
    refine z_lcmp_ne (tgt := 47) hx hb (by omega) (by omega) dX7_length_19 dX7_length_20 (by decide) (fun c19 => ?_) (fun c19 => ?_)
    · skip
      refine lv_lconst (v := zL 0) hx hb dX7_length_47 rfl ?_
      refine lv_lstore_n (lv' := [(1, .long (zL (0))), (0, .ref ha)]) hx hb dX7_length_48 rfl hl (by decide) rfl (fun ls hl => ?_)
      refine lv_iconst (v := zI 0) hx hb dX7_length_49 rfl ?_
      refine lv_istore_n (lv' := [(3, .int (zI (0))), (1, .long (zL (0))), (0, .ref ha)]) hx hb dX7_length_50 rfl hl (by decide) rfl (fun ls hl => ?_)
      refine lv_iload_n hx hb dX7_length_51 rfl (lv_at hl 0 rfl) ?_
      refine lv_iconst (v := zI 3) hx hb dX7_length_52 rfl ?_
      refine z_icmp_ge (tgt := 78) hx hb (by omega) (by omega) dX7_length_53 (by decide) (fun c53 => ?_) (fun c53 => ?_)
      · skip
        exact absurd c53 (by omega)
      · skip
        refine lv_lload_n hx hb dX7_length_56 rfl (lv_at hl 1 rfl) ?_
        refine lv_aload_n hx hb dX7_length_57 rfl (lv_at hl 2 rfl) ?_
        refine lv_iload_n hx hb dX7_length_58 rfl (lv_at hl 0 rfl) ?_
        refine z_S_i (As := [.ref ha, .int (zI (0))]) (rest := [.long (zL (0))]) (Wr := []) ⟨hx, hb, hml, hown, hts⟩ (c_X7_slope l D ha S hok hokm 0 (by omega)) (va_cwS 2 hts gX7_length_X7_slope rfl rfl rfl (by decide +kernel) ⟨Nat.le_of_ble_eq_true rfl, Nat.le_of_ble_eq_true rfl⟩) w [0] rfl (by decide) [] rfl (by decide) (by decide) rfl hl.1 rfl (lv_room (Nat.le_of_ble_eq_true rfl)) dX7_length_59 ⟨Nat.zero_le _, Nat.zero_le _⟩ (fun r W1 H locs hp w => ?_)
        obtain ⟨rfl, rfl⟩ := hp
        have w : zW D A s.heap s [(ha, .inl (D.2 1, 86, .inr (.inl (fNow S))))] H locs := w.sub [0] (by decide) rfl
        refine z_i2l hx hb (by omega) dX7_length_62 ?_
        refine lv_aload_n hx hb dX7_length_63 rfl (lv_at hl 2 rfl) ?_
        refine lv_iload_n hx hb dX7_length_64 rfl (lv_at hl 0 rfl) ?_
        refine z_S_i (As := [.ref ha, .int (zI (0))]) (rest := [.long (zL (sSlo S (mu S) 0)), .long (zL (0))]) (Wr := []) ⟨hx, hb, hml, hown, hts⟩ (c_X7_slope l D ha S hok hokm 0 (by omega)) (va_cwS 2 hts gX7_length_X7_slope rfl rfl rfl (by decide +kernel) ⟨Nat.le_of_ble_eq_true rfl, Nat.le_of_ble_eq_true rfl⟩) w [0] rfl (by decide) [] rfl (by decide) (by decide) rfl hl.1 rfl (lv_room (Nat.le_of_ble_eq_true rfl)) dX7_length_65 ⟨Nat.zero_le _, Nat.zero_le _⟩ (fun r W1 H locs hp w => ?_)
        obtain ⟨rfl, rfl⟩ := hp
        have w : zW D A s.heap s [(ha, .inl (D.2 1, 86, .inr (.inl (fNow S))))] H locs := w.sub [0] (by decide) rfl
        refine z_i2l hx hb (by omega) dX7_length_68 ?_
        refine z_lmul hx hb dX7_length_69 ?_
        refine z_ladd hx hb dX7_length_70 ?_
        refine lv_lstore_n (lv' := [(1, .long (zL (0 + ((sSlo S (mu S) 0) * (sSlo S (mu S) 0))))), (3, .int (zI (0))), (0, .ref ha)]) hx hb dX7_length_71 rfl hl (by decide) rfl (fun ls hl => ?_)
        refine z_iinc (lv' := [(3, .int (zI (0 + 1))), (1, .long (zL (0 + ((sSlo S (mu S) 0) * (sSlo S (mu S) 0))))), (0, .ref ha)]) hx hb dX7_length_72 hl (k := 1) rfl (by decide) rfl (fun ls hl => ?_)
        have hl : lv_has ls 5 [(3, .int (zI (1))), (1, .long (zL (0 + ((sSlo S (mu S) 0) * (sSlo S (mu S) 0))))), (0, .ref ha)] := hl
        refine lv_goto (tgt := 51) hx hb dX7_length_75 (by decide) ?_
        refine lv_iload_n hx hb dX7_length_51 rfl (lv_at hl 0 rfl) ?_
        refine lv_iconst (v := zI 3) hx hb dX7_length_52 rfl ?_
        refine z_icmp_ge (tgt := 78) hx hb (by omega) (by omega) dX7_length_53 (by decide) (fun c53 => ?_) (fun c53 => ?_)
        · skip
          exact absurd c53 (by omega)
        · skip
          refine lv_lload_n hx hb dX7_length_56 rfl (lv_at hl 1 rfl) ?_
          refine lv_aload_n hx hb dX7_length_57 rfl (lv_at hl 2 rfl) ?_
          refine lv_iload_n hx hb dX7_length_58 rfl (lv_at hl 0 rfl) ?_
          refine z_S_i (As := [.ref ha, .int (zI (1))]) (rest := [.long (zL (0 + ((sSlo S (mu S) 0) * (sSlo S (mu S) 0))))]) (Wr := []) ⟨hx, hb, hml, hown, hts⟩ (c_X7_slope l D ha S hok hokm 1 (by omega)) (va_cwS 2 hts gX7_length_X7_slope rfl rfl rfl (by decide +kernel) ⟨Nat.le_of_ble_eq_true rfl, Nat.le_of_ble_eq_true rfl⟩) w [0] rfl (by decide) [] rfl (by decide) (by decide) rfl hl.1 rfl (lv_room (Nat.le_of_ble_eq_true rfl)) dX7_length_59 ⟨Nat.zero_le _, Nat.zero_le _⟩ (fun r W1 H locs hp w => ?_)
          obtain ⟨rfl, rfl⟩ := hp
          have w : zW D A s.heap s [(ha, .inl (D.2 1, 86, .inr (.inl (fNow S))))] H locs := w.sub [0] (by decide) rfl
          refine z_i2l hx hb (by omega) dX7_length_62 ?_
          refine lv_aload_n hx hb dX7_length_63 rfl (lv_at hl 2 rfl) ?_
          refine lv_iload_n hx hb dX7_length_64 rfl (lv_at hl 0 rfl) ?_
          refine z_S_i (As := [.ref ha, .int (zI (1))]) (rest := [.long (zL (sSlo S (mu S) 1)), .long (zL (0 + ((sSlo S (mu S) 0) * (sSlo S (mu S) 0))))]) (Wr := []) ⟨hx, hb, hml, hown, hts⟩ (c_X7_slope l D ha S hok hokm 1 (by omega)) (va_cwS 2 hts gX7_length_X7_slope rfl rfl rfl (by decide +kernel) ⟨Nat.le_of_ble_eq_true rfl, Nat.le_of_ble_eq_true rfl⟩) w [0] rfl (by decide) [] rfl (by decide) (by decide) rfl hl.1 rfl (lv_room (Nat.le_of_ble_eq_true rfl)) dX7_length_65 ⟨Nat.zero_le _, Nat.zero_le _⟩ (fun r W1 H locs hp w => ?_)
          obtain ⟨rfl, rfl⟩ := hp
          have w : zW D A s.heap s [(ha, .inl (D.2 1, 86, .inr (.inl (fNow S))))] H locs := w.sub [0] (by decide) rfl
          refine z_i2l hx hb (by omega) dX7_length_68 ?_
          refine z_lmul hx hb dX7_length_69 ?_
          refine z_ladd hx hb dX7_length_70 ?_
          refine lv_lstore_n (lv' := [(1, .long (zL ((0 + ((sSlo S (mu S) 0) * (sSlo S (mu S) 0))) + ((sSlo S (mu S) 1) * (sSlo S (mu S) 1))))), (3, .int (zI (1))), (0, .ref ha)]) hx hb dX7_length_71 rfl hl (by decide) rfl (fun ls hl => ?_)
          refine z_iinc (lv' := [(3, .int (zI (1 + 1))), (1, .long (zL ((0 + ((sSlo S (mu S) 0) * (sSlo S (mu S) 0))) + ((sSlo S (mu S) 1) * (sSlo S (mu S) 1))))), (0, .ref ha)]) hx hb dX7_length_72 hl (k := 1) rfl (by decide) rfl (fun ls hl => ?_)
          have hl : lv_has ls 5 [(3, .int (zI (2))), (1, .long (zL ((0 + ((sSlo S (mu S) 0) * (sSlo S (mu S) 0))) + ((sSlo S (mu S) 1) * (sSlo S (mu S) 1))))), (0, .ref ha)] := hl
          refine lv_goto (tgt := 51) hx hb dX7_length_75 (by decide) ?_
          refine lv_iload_n hx hb dX7_length_51 rfl (lv_at hl 0 rfl) ?_
          refine lv_iconst (v := zI 3) hx hb dX7_length_52 rfl ?_
          refine z_icmp_ge (tgt := 78) hx hb (by omega) (by omega) dX7_length_53 (by decide) (fun c53 => ?_) (fun c53 => ?_)
          · skip
            exact absurd c53 (by omega)
          · skip
            refine lv_lload_n hx hb dX7_length_56 rfl (lv_at hl 1 rfl) ?_
            refine lv_aload_n hx hb dX7_length_57 rfl (lv_at hl 2 rfl) ?_
            refine lv_iload_n hx hb dX7_length_58 rfl (lv_at hl 0 rfl) ?_
            refine z_S_i (As := [.ref ha, .int (zI (2))]) (rest := [.long (zL ((0 + ((sSlo S (mu S) 0) * (sSlo S (mu S) 0))) + ((sSlo S (mu S) 1) * (sSlo S (mu S) 1))))]) (Wr := []) ⟨hx, hb, hml, hown, hts⟩ (c_X7_slope l D ha S hok hokm 2 (by omega)) (va_cwS 2 hts gX7_length_X7_slope rfl rfl rfl (by decide +kernel) ⟨Nat.le_of_ble_eq_true rfl, Nat.le_of_ble_eq_true rfl⟩) w [0] rfl (by decide) [] rfl (by decide) (by decide) rfl hl.1 rfl (lv_room (Nat.le_of_ble_eq_true rfl)) dX7_length_59 ⟨Nat.zero_le _, Nat.zero_le _⟩ (fun r W1 H locs hp w => ?_)
            obtain ⟨rfl, rfl⟩ := hp
            have w : zW D A s.heap s [(ha, .inl (D.2 1, 86, .inr (.inl (fNow S))))] H locs := w.sub [0] (by decide) rfl
            refine z_i2l hx hb (by omega) dX7_length_62 ?_
            refine lv_aload_n hx hb dX7_length_63 rfl (lv_at hl 2 rfl) ?_
            refine lv_iload_n hx hb dX7_length_64 rfl (lv_at hl 0 rfl) ?_
            refine z_S_i (As := [.ref ha, .int (zI (2))]) (rest := [.long (zL (sSlo S (mu S) 2)), .long (zL ((0 + ((sSlo S (mu S) 0) * (sSlo S (mu S) 0))) + ((sSlo S (mu S) 1) * (sSlo S (mu S) 1))))]) (Wr := []) ⟨hx, hb, hml, hown, hts⟩ (c_X7_slope l D ha S hok hokm 2 (by omega)) (va_cwS 2 hts gX7_length_X7_slope rfl rfl rfl (by decide +kernel) ⟨Nat.le_of_ble_eq_true rfl, Nat.le_of_ble_eq_true rfl⟩) w [0] rfl (by decide) [] rfl (by decide) (by decide) rfl hl.1 rfl (lv_room (Nat.le_of_ble_eq_true rfl)) dX7_length_65 ⟨Nat.zero_le _, Nat.zero_le _⟩ (fun r W1 H locs hp w => ?_)
            obtain ⟨rfl, rfl⟩ := hp
            have w : zW D A s.heap s [(ha, .inl (D.2 1, 86, .inr (.inl (fNow S))))] H locs := w.sub [0] (by decide) rfl
            refine z_i2l hx hb (by omega) dX7_length_68 ?_
            refine z_lmul hx hb dX7_length_69 ?_
            refine z_ladd hx hb dX7_length_70 ?_
            refine lv_lstore_n (lv' := [(1, .long (zL (((0 + ((sSlo S (mu S) 0) * (sSlo S (mu S) 0))) + ((sSlo S (mu S) 1) * (sSlo S (mu S) 1))) + ((sSlo S (mu S) 2) * (sSlo S (mu S) 2))))), (3, .int (zI (2))), (0, .ref ha)]) hx hb dX7_length_71 rfl hl (by decide) rfl (fun ls hl => ?_)
            refine z_iinc (lv' := [(3, .int (zI (2 + 1))), (1, .long (zL (((0 + ((sSlo S (mu S) 0) * (sSlo S (mu S) 0))) + ((sSlo S (mu S) 1) * (sSlo S (mu S) 1))) + ((sSlo S (mu S) 2) * (sSlo S (mu S) 2))))), (0, .ref ha)]) hx hb dX7_length_72 hl (k := 1) rfl (by decide) rfl (fun ls hl => ?_)
            have hl : lv_has ls 5 [(3, .int (zI (3))), (1, .long (zL (((0 + ((sSlo S (mu S) 0) * (sSlo S (mu S) 0))) + ((sSlo S (mu S) 1) * (sSlo S (mu S) 1))) + ((sSlo S (mu S) 2) * (sSlo S (mu S) 2))))), (0, .ref ha)] := hl
            refine lv_goto (tgt := 51) hx hb dX7_length_75 (by decide) ?_
            refine lv_iload_n hx hb dX7_length_51 rfl (lv_at hl 0 rfl) ?_
            refine lv_iconst (v := zI 3) hx hb dX7_length_52 rfl ?_
            refine z_icmp_ge (tgt := 78) hx hb (by omega) (by omega) dX7_length_53 (by decide) (fun c53 => ?_) (fun c53 => ?_)
            · skip
              refine lv_lload_n hx hb dX7_length_78 rfl (lv_at hl 1 rfl) ?_
              have esq : 0 + sSlo S (mu S) 0 * sSlo S (mu S) 0 + sSlo S (mu S) 1 * sSlo S (mu S) 1 + sSlo S (mu S) 2 * sSlo S (mu S) 2 = sSq S (mu S) := rfl
              rw [esq]
              have hl : lv_has ls 5 [(3, .int (zI (3))), (1, .long (zL (sSq S (mu S)))), (0, .ref ha)] := hl
              refine lv_lconst (v := zL 0) hx hb dX7_length_79 rfl ?_
              refine z_lcmp_ne (tgt := 86) hx hb (by omega) (by omega) dX7_length_80 dX7_length_81 (by decide) (fun c80 => ?_) (fun c80 => ?_)
              · skip
                refine lv_aload_n hx hb dX7_length_86 rfl (lv_at hl 2 rfl) ?_
                refine z_S_l (As := [.ref ha]) (rest := []) (Wr := []) ⟨hx, hb, hml, hown, hts⟩ (c_X7_boundOf l D ha S hok hokm) (va_cwS 1 hts gX7_length_X7_boundOf rfl rfl rfl (by decide +kernel) ⟨Nat.le_of_ble_eq_true rfl, Nat.le_of_ble_eq_true rfl⟩) w [0] rfl (by decide) [] rfl (by decide) (by decide) rfl hl.1 rfl (lv_room (Nat.le_of_ble_eq_true rfl)) dX7_length_87 ⟨Nat.zero_le _, Nat.zero_le _⟩ (fun r W1 H locs hp w => ?_)
                obtain ⟨rfl, rfl⟩ := hp
                have w : zW D A s.heap s [(ha, .inl (D.2 1, 86, .inr (.inl (fNow S))))] H locs := w.sub [0] (by decide) rfl
                refine lv_ldc2 (v := zL 100) hx hb hown (hts (.constantLong RX7 35 (zL 100)) (by decide +kernel)) dX7_length_90 ?_
                refine lv_aload_n hx hb dX7_length_93 rfl (lv_at hl 2 rfl) ?_
                refine z_S_i (As := [.ref ha]) (rest := [.long (zL (100)), .long (zL (sBd S (mu S)))]) (Wr := []) ⟨hx, hb, hml, hown, hts⟩ (c_X7_bestWorth l D ha S hok hbe) (va_cwS 1 hts gX7_length_X7_bestWorth rfl rfl rfl (by decide +kernel) ⟨Nat.le_of_ble_eq_true rfl, Nat.le_of_ble_eq_true rfl⟩) w [0] rfl (by decide) [] rfl (by decide) (by decide) rfl hl.1 rfl (lv_room (Nat.le_of_ble_eq_true rfl)) dX7_length_94 ⟨Nat.zero_le _, Nat.zero_le _⟩ (fun r W1 H locs hp w => ?_)
                obtain ⟨rfl, rfl⟩ := hp
                have w : zW D A s.heap s [(ha, .inl (D.2 1, 86, .inr (.inl (fNow S))))] H locs := w.sub [0] (by decide) rfl
                refine z_i2l hx hb (by omega) dX7_length_97 ?_
                refine z_lmul hx hb dX7_length_98 ?_
                refine z_lsub hx hb dX7_length_99 ?_
                refine lv_lload_n hx hb dX7_length_100 rfl (lv_at hl 1 rfl) ?_
                have hdq := tdb (a := sBd S (mu S) - 100 * sBw S) (q := sSq S (mu S)) (by omega) (by omega) (by omega)
                have hdm := tdm (a := sBd S (mu S) - 100 * sBw S) (q := sSq S (mu S)) (by omega)
                refine z_ldiv hx hb (by omega) dX7_length_101 ?_
                refine lv_lstore_n (lv' := [(3, .long (zL (((sBd S (mu S)) - (100 * (sBw S))).tdiv (sSq S (mu S))))), (1, .long (zL (sSq S (mu S)))), (0, .ref ha)]) hx hb dX7_length_102 rfl hl (by decide) rfl (fun ls hl => ?_)
                refine lv_lload_n hx hb dX7_length_103 rfl (lv_at hl 0 rfl) ?_
                refine lv_lconst (v := zL 1) hx hb dX7_length_104 rfl ?_
                refine z_lcmp_ge (tgt := 113) hx hb (by omega) (by omega) dX7_length_105 dX7_length_106 (by decide) (fun c105 => ?_) (fun c105 => ?_)
                · skip
                  refine lv_lload_n hx hb dX7_length_113 rfl (lv_at hl 0 rfl) ?_
                  exact z_lret hx hb hr hlocks w dX7_length_114 ⟨by unfold sLn sLen; rw [if_neg (by omega), if_pos (by omega), if_neg (by omega), hhu, hdm]; first | rw [if_pos (by omega)] | rw [if_neg (by omega)], rfl⟩
                · skip
                  refine lv_lconst (v := zL 1) hx hb dX7_length_109 rfl ?_
                  refine lv_goto (tgt := 114) hx hb dX7_length_110 (by decide) ?_
                  exact z_lret hx hb hr hlocks w dX7_length_114 ⟨by unfold sLn sLen; rw [if_neg (by omega), if_pos (by omega), if_neg (by omega), hhu, hdm]; first | rw [if_pos (by omega)] | rw [if_neg (by omega)], rfl⟩
              · skip
                refine lv_lconst (v := zL 0) hx hb dX7_length_84 rfl ?_
                exact z_lret hx hb hr hlocks w dX7_length_85 ⟨by unfold sLn sLen; rw [if_neg (by omega), if_pos (by omega), if_pos (by omega)], rfl⟩
            · skip
              exact absurd c53 (by omega)
    · skip
      refine lv_aload_n hx hb dX7_length_23 rfl (lv_at hl 0 rfl) ?_
      refine lv_bipush (v := zI 72) hx hb dX7_length_24 (by decide +kernel) ?_
      refine z_lald hx hb w 0 rfl 72 (by omega) (by decide) rfl (v := (zL (S 72))) (if_pos (by omega)) dX7_length_26 ?_
      refine lv_aload_n hx hb dX7_length_27 rfl (lv_at hl 0 rfl) ?_
      refine lv_bipush (v := zI 73) hx hb dX7_length_28 (by decide +kernel) ?_
      refine z_lald hx hb w 0 rfl 73 (by omega) (by decide) rfl (v := (zL (S 73))) (if_pos (by omega)) dX7_length_30 ?_
      refine lv_lconst (v := zL 1) hx hb dX7_length_31 rfl ?_
      refine z_ladd hx hb dX7_length_32 ?_
      refine z_ldiv hx hb (by omega) dX7_length_33 ?_
      refine lv_lstore_n (lv' := [(1, .long (zL ((S 72).tdiv ((S 73) + 1)))), (0, .ref ha)]) hx hb dX7_length_34 rfl hl (by decide) rfl (fun ls hl => ?_)
      refine lv_lload_n hx hb dX7_length_35 rfl (lv_at hl 0 rfl) ?_
      refine lv_lconst (v := zL 1) hx hb dX7_length_36 rfl ?_
      refine z_lcmp_ge (tgt := 45) hx hb (by omega) (by omega) dX7_length_37 dX7_length_38 (by decide) (fun c37 => ?_) (fun c37 => ?_)
      · skip
        refine lv_lload_n hx hb dX7_length_45 rfl (lv_at hl 0 rfl) ?_
        exact z_lret hx hb hr hlocks w dX7_length_46 ⟨by unfold sLn sLen; rw [if_pos (by omega), hem, hed]; first | rw [if_pos (by omega)] | rw [if_neg (by omega)], rfl⟩
      · skip
        refine lv_lconst (v := zL 1) hx hb dX7_length_41 rfl ?_
        refine lv_goto (tgt := 46) hx hb dX7_length_42 (by decide) ?_
        exact z_lret hx hb hr hlocks w dX7_length_46 ⟨by unfold sLn sLen; rw [if_pos (by omega), hem, hed]; first | rw [if_pos (by omega)] | rw [if_neg (by omega)], rfl⟩
  · skip
    refine lv_aload_n hx hb dX7_length_9 rfl (lv_at hl 0 rfl) ?_
    refine lv_bipush (v := zI 72) hx hb dX7_length_10 (by decide +kernel) ?_
    refine z_lald hx hb w 0 rfl 72 (by omega) (by decide) rfl (v := (zL (S 72))) (if_pos (by omega)) dX7_length_12 ?_
    exact z_lret hx hb hr hlocks w dX7_length_13 ⟨by unfold sLn sLen; rw [if_neg (by omega), if_neg (by omega)], rfl⟩
set_option maxHeartbeats 6000000 in
set_option maxRecDepth 100000 in
theorem c_X7_bundles (l : Launch) (D : zD) (ha : Nat) (S : Nat → Int) (hokb : OkB S) (x : Nat) (hxb : x < 65536) : zM l yX7_bundles wsX7_bundles (zR (0)) zE0 D [.ref ha, .int (zI (((x : Nat) : Int)))] (wMo D ha S) (zQv D (fun W1 => W1 = (wMo D ha (sBuM S ((x : Nat) : Int))))) := by
  refine zM.of (cc := cX7_bundles) (maxL := 5) (ret := none) (by decide) rfl (Nat.le_of_ble_eq_true rfl) ?_
  intro p e s m below meth c A hx hb hml hown hts hr hlocks hE hnm w ls hl
  have hown : s.vm.findClass RX7 = some m.cls := hown
  have hl : lv_has ls 5 [(0, .ref ha), (1, .int (zI (((x : Nat) : Int))))] := hl
  have hkn := zk_eq hokb
  have hk8 := hokb.1
  have w : zW D A s.heap s [(ha, .inl (D.2 1, 86, .inr (.inl (fNow S))))] s.heap [] := w
  refine lv_iconst (v := zI 0) hx hb dX7_bundles_0 rfl ?_
  refine lv_istore_n (lv' := [(2, .int (zI (0))), (0, .ref ha), (1, .int (zI (((x : Nat) : Int))))]) hx hb dX7_bundles_1 rfl hl (by decide) rfl (fun ls hl => ?_)
  refine lv_aload_n hx hb dX7_bundles_2 rfl (lv_at hl 1 rfl) ?_
  refine lv_bipush (v := zI 77) hx hb dX7_bundles_3 (by decide +kernel) ?_
  refine z_lald hx hb w 0 rfl 77 (by omega) (by decide) rfl (v := (zL (S 77))) (if_pos (by omega)) dX7_bundles_5 ?_
  refine z_l2i hx hb dX7_bundles_6 ?_
  refine lv_istore_n (lv' := [(3, .int (zI (S 77))), (2, .int (zI (0))), (0, .ref ha), (1, .int (zI (((x : Nat) : Int))))]) hx hb dX7_bundles_7 rfl hl (by decide) rfl (fun ls hl => ?_)
  refine lv_iconst (v := zI 0) hx hb dX7_bundles_8 rfl ?_
  refine lv_istore (lv' := [(4, .int (zI (0))), (3, .int (zI (S 77))), (2, .int (zI (0))), (0, .ref ha), (1, .int (zI (((x : Nat) : Int))))]) hx hb dX7_bundles_9 hl (by decide) rfl (fun ls hl => ?_)
  have lp_11 : ∀ (n_11 : Nat) (k : Nat) (x4 : Int) (x2 : Int) , zk S - k < n_11 → (k ≤ zk S) → x4 = ((k : Nat) : Int) → x2 = (((sTo S ((x : Nat) : Int) k).1 : Nat) : Int) → ∀ (H : Heap) (locs : List Loc) (ls : Array Slot), zW D A s.heap s [(ha, .inl (D.2 1, 86, .inr (.inl (fNow (sTo S ((x : Nat) : Int) k).2))))] H locs → lv_has ls 5 [(4, .int (zI (x4))), (3, .int (zI (S 77))), (2, .int (zI (x2))), (0, .ref ha), (1, .int (zI (((x : Nat) : Int))))] → W p l e (zR (0)) s m [.ref ha, .int (zI (((x : Nat) : Int)))].toArray below meth c H locs 0 0 (MQ below ((zQv D (fun W1 => W1 = (wMo D ha (sBuM S ((x : Nat) : Int))))) A) [.ref ha, .int (zI (((x : Nat) : Int)))].toArray s 0 0 A) (F0 m 11 ls []) := by
    intro n_11
    induction n_11 with
    | zero => intro k x4 x2 h_; exact absurd h_ (Nat.not_lt_zero _)
    | succ n_11 ih_11 =>
      intro k x4 x2 hf_11 hi ex4 ex2 H locs ls w hl
      subst ex4
      subst ex2
      have htl := sTo_le S ((x : Nat) : Int) k
      have htf := sTo_far S ((x : Nat) : Int) k
      have hl : lv_has ls 5 [(4, .int (zI (((k : Nat) : Int)))), (3, .int (zI (S 77))), (2, .int (zI ((((sTo S ((x : Nat) : Int) k).1 : Nat) : Int)))), (0, .ref ha), (1, .int (zI (((x : Nat) : Int))))] := hl
      refine lv_iload hx hb dX7_bundles_11 (lv_at hl 0 rfl) ?_
      refine lv_iload_n hx hb dX7_bundles_13 rfl (lv_at hl 1 rfl) ?_
      refine z_icmp_ge (tgt := 52) hx hb (by omega) (by omega) dX7_bundles_14 (by decide) (fun c14 => ?_) (fun c14 => ?_)
      · skip
        refine lv_iload_n hx hb dX7_bundles_52 rfl (lv_at hl 2 rfl) ?_
        refine lv_bipush (v := zI 8) hx hb dX7_bundles_53 (by decide +kernel) ?_
        refine z_icmp_ne (tgt := 93) hx hb (by omega) (by omega) dX7_bundles_55 (by decide) (fun c55 => ?_) (fun c55 => ?_)
        · skip
          have ek9 : k = zk S := (by omega)
          refine lv_aload_n hx hb dX7_bundles_93 rfl (lv_at hl 3 rfl) ?_
          refine lv_bipush (v := zI 78) hx hb dX7_bundles_94 (by decide +kernel) ?_
          refine lv_iload_n hx hb dX7_bundles_96 rfl (lv_at hl 2 rfl) ?_
          refine z_iadd hx hb dX7_bundles_97 ?_
          refine lv_iload_n hx hb dX7_bundles_98 rfl (lv_at hl 4 rfl) ?_
          refine z_i2l hx hb (by omega) dX7_bundles_99 ?_
          refine z_last hx hb w 0 rfl (78 + ((sTo S ((x : Nat) : Int) k).1)) (by omega) (by decide) (by omega) dX7_bundles_100 (fNow (zu ((sTo S ((x : Nat) : Int) k).2) (78 + ((sTo S ((x : Nat) : Int) k).1)) ((x : Nat) : Int))) (fun i hi => fNow_zu hi) (fun H locs w => ?_)
          have w : zW D A s.heap s [(ha, .inl (D.2 1, 86, .inr (.inl (fNow (zu ((sTo S ((x : Nat) : Int) k).2) (78 + ((sTo S ((x : Nat) : Int) k).1)) ((x : Nat) : Int))))))] H locs := w
          refine lv_aload_n hx hb dX7_bundles_101 rfl (lv_at hl 3 rfl) ?_
          refine lv_bipush (v := zI 77) hx hb dX7_bundles_102 (by decide +kernel) ?_
          refine lv_iload_n hx hb dX7_bundles_104 rfl (lv_at hl 2 rfl) ?_
          refine lv_iconst (v := zI 1) hx hb dX7_bundles_105 rfl ?_
          refine z_iadd hx hb dX7_bundles_106 ?_
          refine z_i2l hx hb (by omega) dX7_bundles_107 ?_
          refine z_last hx hb w 0 rfl 77 (by omega) (by decide) rfl dX7_bundles_108 (fNow (zu (zu ((sTo S ((x : Nat) : Int) k).2) (78 + ((sTo S ((x : Nat) : Int) k).1)) ((x : Nat) : Int)) 77 ((((sTo S ((x : Nat) : Int) k).1 : Nat) : Int) + 1))) (fun i hi => fNow_zu hi) (fun H locs w => ?_)
          have w : zW D A s.heap s [(ha, .inl (D.2 1, 86, .inr (.inl (fNow (zu (zu ((sTo S ((x : Nat) : Int) k).2) (78 + ((sTo S ((x : Nat) : Int) k).1)) ((x : Nat) : Int)) 77 ((((sTo S ((x : Nat) : Int) k).1 : Nat) : Int) + 1))))))] H locs := w
          exact z_vret hx hb hr hlocks w dX7_bundles_109 (by subst ek9; unfold sBuM; first | (rw [if_pos (by omega)]; subst eq9; rfl) | (rw [if_neg (by omega)]; rfl))
        · skip
          have ek9 : k = zk S := (by omega)
          refine lv_iconst (v := zI 1) hx hb dX7_bundles_58 rfl ?_
          refine lv_istore (lv' := [(4, .int (zI (1))), (3, .int (zI (S 77))), (2, .int (zI ((((sTo S ((x : Nat) : Int) k).1 : Nat) : Int)))), (0, .ref ha), (1, .int (zI (((x : Nat) : Int))))]) hx hb dX7_bundles_59 hl (by decide) rfl (fun ls hl => ?_)
          have lp_61 : ∀ (n_61 : Nat) (q : Nat) (x4 : Int) , 7 - q < n_61 → (q ≤ 7) → x4 = ((q + 1 : Nat) : Int) → ∀ (H : Heap) (locs : List Loc) (ls : Array Slot), zW D A s.heap s [(ha, .inl (D.2 1, 86, .inr (.inl (fNow (sShk (sTo S ((x : Nat) : Int) k).2 q)))))] H locs → lv_has ls 5 [(4, .int (zI (x4))), (3, .int (zI (S 77))), (2, .int (zI ((((sTo S ((x : Nat) : Int) k).1 : Nat) : Int)))), (0, .ref ha), (1, .int (zI (((x : Nat) : Int))))] → W p l e (zR (0)) s m [.ref ha, .int (zI (((x : Nat) : Int)))].toArray below meth c H locs 0 0 (MQ below ((zQv D (fun W1 => W1 = (wMo D ha (sBuM S ((x : Nat) : Int))))) A) [.ref ha, .int (zI (((x : Nat) : Int)))].toArray s 0 0 A) (F0 m 61 ls []) := by
            intro n_61
            induction n_61 with
            | zero => intro q x4 h_; exact absurd h_ (Nat.not_lt_zero _)
            | succ n_61 ih_61 =>
              intro q x4 hf_61 hq ex4 H locs ls w hl
              subst ex4
              have hl : lv_has ls 5 [(4, .int (zI (((q + 1 : Nat) : Int)))), (3, .int (zI (S 77))), (2, .int (zI ((((sTo S ((x : Nat) : Int) k).1 : Nat) : Int)))), (0, .ref ha), (1, .int (zI (((x : Nat) : Int))))] := hl
              refine lv_iload hx hb dX7_bundles_61 (lv_at hl 0 rfl) ?_
              refine lv_bipush (v := zI 8) hx hb dX7_bundles_63 (by decide +kernel) ?_
              refine z_icmp_ge (tgt := 90) hx hb (by omega) (by omega) dX7_bundles_65 (by decide) (fun c65 => ?_) (fun c65 => ?_)
              · skip
                have eq9 : q = 7 := (by omega)
                refine z_iinc (lv' := [(2, .int (zI ((((sTo S ((x : Nat) : Int) k).1 : Nat) : Int) + (-1)))), (4, .int (zI (((q + 1 : Nat) : Int)))), (3, .int (zI (S 77))), (0, .ref ha), (1, .int (zI (((x : Nat) : Int))))]) hx hb dX7_bundles_90 hl (k := 2) rfl (by decide) rfl (fun ls hl => ?_)
                have e97 : (((sTo S ((x : Nat) : Int) k).1 : Nat) : Int) + (-1) = 7 := (by omega)
                rw [e97] at hl
                refine lv_aload_n hx hb dX7_bundles_93 rfl (lv_at hl 3 rfl) ?_
                refine lv_bipush (v := zI 78) hx hb dX7_bundles_94 (by decide +kernel) ?_
                refine lv_iload_n hx hb dX7_bundles_96 rfl (lv_at hl 0 rfl) ?_
                refine z_iadd hx hb dX7_bundles_97 ?_
                refine lv_iload_n hx hb dX7_bundles_98 rfl (lv_at hl 4 rfl) ?_
                refine z_i2l hx hb (by omega) dX7_bundles_99 ?_
                refine z_last hx hb w 0 rfl 85 (by omega) (by decide) rfl dX7_bundles_100 (fNow (zu (sShk (sTo S ((x : Nat) : Int) k).2 q) 85 ((x : Nat) : Int))) (fun i hi => fNow_zu hi) (fun H locs w => ?_)
                have w : zW D A s.heap s [(ha, .inl (D.2 1, 86, .inr (.inl (fNow (zu (sShk (sTo S ((x : Nat) : Int) k).2 q) 85 ((x : Nat) : Int))))))] H locs := w
                refine lv_aload_n hx hb dX7_bundles_101 rfl (lv_at hl 3 rfl) ?_
                refine lv_bipush (v := zI 77) hx hb dX7_bundles_102 (by decide +kernel) ?_
                refine lv_iload_n hx hb dX7_bundles_104 rfl (lv_at hl 0 rfl) ?_
                refine lv_iconst (v := zI 1) hx hb dX7_bundles_105 rfl ?_
                refine z_iadd hx hb dX7_bundles_106 ?_
                refine z_i2l hx hb (by omega) dX7_bundles_107 ?_
                refine z_last hx hb w 0 rfl 77 (by omega) (by decide) rfl dX7_bundles_108 (fNow (zu (zu (sShk (sTo S ((x : Nat) : Int) k).2 q) 85 ((x : Nat) : Int)) 77 (7 + 1))) (fun i hi => fNow_zu hi) (fun H locs w => ?_)
                have w : zW D A s.heap s [(ha, .inl (D.2 1, 86, .inr (.inl (fNow (zu (zu (sShk (sTo S ((x : Nat) : Int) k).2 q) 85 ((x : Nat) : Int)) 77 (7 + 1))))))] H locs := w
                exact z_vret hx hb hr hlocks w dX7_bundles_109 (by subst ek9; unfold sBuM; first | (rw [if_pos (by omega)]; subst eq9; rfl) | (rw [if_neg (by omega)]; rfl))
              · skip
                refine lv_aload_n hx hb dX7_bundles_68 rfl (lv_at hl 3 rfl) ?_
                refine lv_bipush (v := zI 78) hx hb dX7_bundles_69 (by decide +kernel) ?_
                refine lv_iload hx hb dX7_bundles_71 (lv_at hl 0 rfl) ?_
                refine z_iadd hx hb dX7_bundles_73 ?_
                refine lv_iconst (v := zI 1) hx hb dX7_bundles_74 rfl ?_
                refine z_isub hx hb dX7_bundles_75 ?_
                refine lv_aload_n hx hb dX7_bundles_76 rfl (lv_at hl 3 rfl) ?_
                refine lv_bipush (v := zI 78) hx hb dX7_bundles_77 (by decide +kernel) ?_
                refine lv_iload hx hb dX7_bundles_79 (lv_at hl 0 rfl) ?_
                refine z_iadd hx hb dX7_bundles_81 ?_
                refine z_lald hx hb w 0 rfl (78 + q + 1) (by omega) (by decide) (by omega) (v := (zL ((sShk (sTo S ((x : Nat) : Int) k).2 q) (78 + q + 1)))) (if_pos (by omega)) dX7_bundles_82 ?_
                refine z_last hx hb w 0 rfl (78 + q) (by omega) (by decide) (by omega) dX7_bundles_83 (fNow (zu (sShk (sTo S ((x : Nat) : Int) k).2 q) (78 + q) ((sShk (sTo S ((x : Nat) : Int) k).2 q) (78 + q + 1)))) (fun i hi => fNow_zu hi) (fun H locs w => ?_)
                have w : zW D A s.heap s [(ha, .inl (D.2 1, 86, .inr (.inl (fNow (zu (sShk (sTo S ((x : Nat) : Int) k).2 q) (78 + q) ((sShk (sTo S ((x : Nat) : Int) k).2 q) (78 + q + 1)))))))] H locs := w
                refine z_iinc (lv' := [(4, .int (zI (((q + 1 : Nat) : Int) + 1))), (3, .int (zI (S 77))), (2, .int (zI ((((sTo S ((x : Nat) : Int) k).1 : Nat) : Int)))), (0, .ref ha), (1, .int (zI (((x : Nat) : Int))))]) hx hb dX7_bundles_84 hl (k := 0) rfl (by decide) rfl (fun ls hl => ?_)
                refine lv_goto (tgt := 61) hx hb dX7_bundles_87 (by decide) ?_
                exact ih_61 (q + 1) _ (by omega) (by omega) (by first | rfl | omega) _ _ _ (w.to (by rw [sShk_s])) (lv_sub hl [0, 1, 2, 3, 4] rfl)
          exact lp_61 ((7 - 0) + 1) 0 _ (by omega) (by omega) (by first | rfl | omega) _ _ _ (w.to (by rw [sShk_0])) (lv_sub hl [0, 1, 2, 3, 4] rfl)
      · skip
        refine lv_aload_n hx hb dX7_bundles_17 rfl (lv_at hl 3 rfl) ?_
        refine lv_bipush (v := zI 78) hx hb dX7_bundles_18 (by decide +kernel) ?_
        refine lv_iload hx hb dX7_bundles_20 (lv_at hl 0 rfl) ?_
        refine z_iadd hx hb dX7_bundles_22 ?_
        refine z_lald hx hb w 0 rfl (78 + k) (by omega) (by decide) (by omega) (v := (zL ((sTo S ((x : Nat) : Int) k).2 (78 + k)))) (if_pos (by omega)) dX7_bundles_23 ?_
        refine lv_iload_n hx hb dX7_bundles_24 rfl (lv_at hl 4 rfl) ?_
        refine z_i2l hx hb (by omega) dX7_bundles_25 ?_
        have htk : (sTo S ((x : Nat) : Int) k).2 (78 + k) = S (78 + k) := htf _ (Or.inr (Nat.le_refl _))
        have htb := hokb.2.1 k (by omega)
        refine z_lcmp_eq (tgt := 46) hx hb (by omega) (by omega) dX7_bundles_26 dX7_bundles_27 (by decide) (fun c26 => ?_) (fun c26 => ?_)
        · skip
          refine z_iinc (lv' := [(4, .int (zI (((k : Nat) : Int) + 1))), (3, .int (zI (S 77))), (2, .int (zI ((((sTo S ((x : Nat) : Int) k).1 : Nat) : Int)))), (0, .ref ha), (1, .int (zI (((x : Nat) : Int))))]) hx hb dX7_bundles_46 hl (k := 0) rfl (by decide) rfl (fun ls hl => ?_)
          refine lv_goto (tgt := 11) hx hb dX7_bundles_49 (by decide) ?_
          exact ih_11 (k + 1) _ _ (by omega) (by omega) (by first | rfl | omega) (by rw [sTo_s]; first | rw [if_pos c26] | (rw [if_neg c26]; first | rfl | omega)) _ _ _ (w.to (by rw [sTo_s]; first | rw [if_pos c26] | rw [if_neg c26])) (lv_sub hl [0, 1, 2, 3, 4] rfl)
        · skip
          refine lv_aload_n hx hb dX7_bundles_30 rfl (lv_at hl 3 rfl) ?_
          refine lv_bipush (v := zI 78) hx hb dX7_bundles_31 (by decide +kernel) ?_
          refine lv_iload_n hx hb dX7_bundles_33 rfl (lv_at hl 2 rfl) ?_
          refine z_iadd hx hb dX7_bundles_34 ?_
          refine lv_aload_n hx hb dX7_bundles_35 rfl (lv_at hl 3 rfl) ?_
          refine lv_bipush (v := zI 78) hx hb dX7_bundles_36 (by decide +kernel) ?_
          refine lv_iload hx hb dX7_bundles_38 (lv_at hl 0 rfl) ?_
          refine z_iadd hx hb dX7_bundles_40 ?_
          refine z_lald hx hb w 0 rfl (78 + k) (by omega) (by decide) (by omega) (v := (zL ((sTo S ((x : Nat) : Int) k).2 (78 + k)))) (if_pos (by omega)) dX7_bundles_41 ?_
          refine z_last hx hb w 0 rfl (78 + ((sTo S ((x : Nat) : Int) k).1)) (by omega) (by decide) (by omega) dX7_bundles_42 (fNow (zu ((sTo S ((x : Nat) : Int) k).2) (78 + ((sTo S ((x : Nat) : Int) k).1)) ((sTo S ((x : Nat) : Int) k).2 (78 + k)))) (fun i hi => fNow_zu hi) (fun H locs w => ?_)
          have w : zW D A s.heap s [(ha, .inl (D.2 1, 86, .inr (.inl (fNow (zu ((sTo S ((x : Nat) : Int) k).2) (78 + ((sTo S ((x : Nat) : Int) k).1)) ((sTo S ((x : Nat) : Int) k).2 (78 + k)))))))] H locs := w
          refine z_iinc (lv' := [(2, .int (zI ((((sTo S ((x : Nat) : Int) k).1 : Nat) : Int) + 1))), (4, .int (zI (((k : Nat) : Int)))), (3, .int (zI (S 77))), (0, .ref ha), (1, .int (zI (((x : Nat) : Int))))]) hx hb dX7_bundles_43 hl (k := 2) rfl (by decide) rfl (fun ls hl => ?_)
          refine z_iinc (lv' := [(4, .int (zI (((k : Nat) : Int) + 1))), (2, .int (zI ((((sTo S ((x : Nat) : Int) k).1 : Nat) : Int) + 1))), (3, .int (zI (S 77))), (0, .ref ha), (1, .int (zI (((x : Nat) : Int))))]) hx hb dX7_bundles_46 hl (k := 1) rfl (by decide) rfl (fun ls hl => ?_)
          refine lv_goto (tgt := 11) hx hb dX7_bundles_49 (by decide) ?_
          exact ih_11 (k + 1) _ _ (by omega) (by omega) (by first | rfl | omega) (by rw [sTo_s]; first | rw [if_pos c26] | (rw [if_neg c26]; first | rfl | omega)) _ _ _ (w.to (by rw [sTo_s]; first | rw [if_pos c26] | rw [if_neg c26])) (lv_sub hl [0, 2, 1, 3, 4] rfl)
  exact lp_11 ((zk S - 0) + 1) 0 _ _ (by omega) (by omega) (by first | rfl | omega) (by first | rfl | omega) _ _ _ w (lv_sub hl [0, 1, 2, 3, 4] rfl)
set_option maxHeartbeats 6000000 in
set_option maxRecDepth 100000 in
theorem c_X7_within (l : Launch) (D : zD) (v : Int) (hv : zBL v) : zM l yX7_within wsX7_within (zR (0)) zE0 D [.long (zL (v))] [] (zQl D (fun r W1 => r = zL (max 0 (min 999999 v)) ∧ W1 = [])) := by
  refine zM.of (cc := cX7_within) (maxL := 2) (ret := (some .long)) (by decide) rfl (Nat.le_of_ble_eq_true rfl) ?_
  intro p e s m below meth c A hx hb hml hown hts hr hlocks hE hnm w ls hl
  have hown : s.vm.findClass RX7 = some m.cls := hown
  have hl : lv_has ls 2 [(0, .long (zL (v)))] := hl
  refine lv_lload_n hx hb dX7_within_0 rfl (lv_at hl 0 rfl) ?_
  refine lv_lconst (v := zL 0) hx hb dX7_within_1 rfl ?_
  refine z_lcmp_ge (tgt := 10) hx hb (by omega) (by omega) dX7_within_2 dX7_within_3 (by decide) (fun c2 => ?_) (fun c2 => ?_)
  · skip
    refine lv_lload_n hx hb dX7_within_10 rfl (lv_at hl 0 rfl) ?_
    refine lv_ldc2 (v := zL 999999) hx hb hown (hts (.constantLong RX7 93 (zL 999999)) (by decide +kernel)) dX7_within_11 ?_
    refine z_lcmp_le (tgt := 24) hx hb (by omega) (by omega) dX7_within_14 dX7_within_15 (by decide) (fun c14 => ?_) (fun c14 => ?_)
    · skip
      refine lv_lload_n hx hb dX7_within_24 rfl (lv_at hl 0 rfl) ?_
      exact z_lret hx hb hr hlocks w dX7_within_25 ⟨by congr 1; omega, rfl⟩
    · skip
      refine lv_ldc2 (v := zL 999999) hx hb hown (hts (.constantLong RX7 93 (zL 999999)) (by decide +kernel)) dX7_within_18 ?_
      refine lv_goto (tgt := 25) hx hb dX7_within_21 (by decide) ?_
      exact z_lret hx hb hr hlocks w dX7_within_25 ⟨by congr 1; omega, rfl⟩
  · skip
    refine lv_lconst (v := zL 0) hx hb dX7_within_6 rfl ?_
    refine lv_goto (tgt := 25) hx hb dX7_within_7 (by decide) ?_
    exact z_lret hx hb hr hlocks w dX7_within_25 ⟨by congr 1; omega, rfl⟩
set_option maxHeartbeats 6000000 in
set_option maxRecDepth 100000 in
theorem c_X7_isLess (l : Launch) (D : zD) (ha : Nat) (S : Nat → Int) (hok : OkP S) (hokm : OkM (mu S)) (h75 : zBL (S 75)) : zM l yX7_isLess wsX7_isLess (zR (3)) zE0 D [.ref ha] (wMo D ha S) (zQi D (fun r W1 => r = zI (zb (sBd S (mu S) < S 75)) ∧ W1 = (wMo D ha (sLs S)))) := by
  refine zM.of (cc := cX7_isLess) (maxL := 4) (ret := (some .boolean)) (by decide) rfl (Nat.le_of_ble_eq_true rfl) ?_
  intro p e s m below meth c A hx hb hml hown hts hr hlocks hE hnm w ls hl
  have hown : s.vm.findClass RX7 = some m.cls := hown
  have hl : lv_has ls 4 [(0, .ref ha)] := hl
  have hn := zn_eq hok
  have h16 := zn_le hok
  have hlim := hok.2.2
  have hbd := sBd_b hok hokm
  have w : zW D A s.heap s [(ha, .inl (D.2 1, 86, .inr (.inl (fNow S))))] s.heap [] := w
  refine lv_aload_n hx hb dX7_isLess_0 rfl (lv_at hl 0 rfl) ?_
  refine z_S_l (As := [.ref ha]) (rest := []) (Wr := []) ⟨hx, hb, hml, hown, hts⟩ (c_X7_boundOf l D ha S hok hokm) (va_cwS 1 hts gX7_isLess_X7_boundOf rfl rfl rfl (by decide +kernel) ⟨Nat.le_of_ble_eq_true rfl, Nat.le_of_ble_eq_true rfl⟩) w [0] rfl (by decide) [] rfl (by decide) (by decide) rfl hl.1 rfl (lv_room (Nat.le_of_ble_eq_true rfl)) dX7_isLess_1 ⟨Nat.zero_le _, Nat.zero_le _⟩ (fun r W1 H locs hp w => ?_)
  obtain ⟨rfl, rfl⟩ := hp
  have w : zW D A s.heap s [(ha, .inl (D.2 1, 86, .inr (.inl (fNow S))))] H locs := w.sub [0] (by decide) rfl
  refine lv_lstore_n (lv' := [(1, .long (zL (sBd S (mu S)))), (0, .ref ha)]) hx hb dX7_isLess_4 rfl hl (by decide) rfl (fun ls hl => ?_)
  refine lv_lload_n hx hb dX7_isLess_5 rfl (lv_at hl 0 rfl) ?_
  refine lv_aload_n hx hb dX7_isLess_6 rfl (lv_at hl 1 rfl) ?_
  refine lv_bipush (v := zI 75) hx hb dX7_isLess_7 (by decide +kernel) ?_
  refine z_lald hx hb w 0 rfl 75 (by omega) (by decide) rfl (v := (zL (S 75))) (if_pos (by omega)) dX7_isLess_9 ?_
  refine z_lcmp_ge (tgt := 18) hx hb (by omega) (by omega) dX7_isLess_10 dX7_isLess_11 (by decide) (fun c10 => ?_) (fun c10 => ?_)
  · skip
    refine lv_iconst (v := zI 0) hx hb dX7_isLess_18 rfl ?_
    refine lv_istore_n (lv' := [(3, .int (zI (0))), (1, .long (zL (sBd S (mu S)))), (0, .ref ha)]) hx hb dX7_isLess_19 rfl hl (by decide) rfl (fun ls hl => ?_)
    refine lv_aload_n hx hb dX7_isLess_20 rfl (lv_at hl 2 rfl) ?_
    refine lv_bipush (v := zI 75) hx hb dX7_isLess_21 (by decide +kernel) ?_
    refine lv_iload_n hx hb dX7_isLess_23 rfl (lv_at hl 0 rfl) ?_
    refine z_if_eq (tgt := 31) hx hb (by omega) dX7_isLess_24 (by decide) (fun c24 => ?_) (fun c24 => ?_)
    · skip
      refine lv_aload_n hx hb dX7_isLess_31 rfl (lv_at hl 2 rfl) ?_
      refine lv_bipush (v := zI 75) hx hb dX7_isLess_32 (by decide +kernel) ?_
      refine z_lald hx hb w 0 rfl 75 (by omega) (by decide) rfl (v := (zL (S 75))) (if_pos (by omega)) dX7_isLess_34 ?_
      refine z_last hx hb w 0 rfl 75 (by omega) (by decide) rfl dX7_isLess_35 (fNow (zu S 75 (S 75))) (fun i hi => fNow_zu hi) (fun H locs w => ?_)
      have w : zW D A s.heap s [(ha, .inl (D.2 1, 86, .inr (.inl (fNow (zu S 75 (S 75))))))] H locs := w
      refine lv_iload_n hx hb dX7_isLess_36 rfl (lv_at hl 0 rfl) ?_
      exact z_zret hx hb hr hlocks w dX7_isLess_37 (by omega) ⟨by first | rw [zb_t (by omega)] | rw [zb_f (by omega)], by unfold sLs; first | (rw [if_pos (by omega)]; rfl) | (rw [if_neg (by omega)]; rfl)⟩
    · skip
      exact absurd c24 (by omega)
  · skip
    refine lv_iconst (v := zI 1) hx hb dX7_isLess_14 rfl ?_
    refine lv_goto (tgt := 19) hx hb dX7_isLess_15 (by decide) ?_
    refine lv_istore_n (lv' := [(3, .int (zI (1))), (1, .long (zL (sBd S (mu S)))), (0, .ref ha)]) hx hb dX7_isLess_19 rfl hl (by decide) rfl (fun ls hl => ?_)
    refine lv_aload_n hx hb dX7_isLess_20 rfl (lv_at hl 2 rfl) ?_
    refine lv_bipush (v := zI 75) hx hb dX7_isLess_21 (by decide +kernel) ?_
    refine lv_iload_n hx hb dX7_isLess_23 rfl (lv_at hl 0 rfl) ?_
    refine z_if_eq (tgt := 31) hx hb (by omega) dX7_isLess_24 (by decide) (fun c24 => ?_) (fun c24 => ?_)
    · skip
      exact absurd c24 (by omega)
    · skip
      refine lv_lload_n hx hb dX7_isLess_27 rfl (lv_at hl 1 rfl) ?_
      refine lv_goto (tgt := 35) hx hb dX7_isLess_28 (by decide) ?_
      refine z_last hx hb w 0 rfl 75 (by omega) (by decide) rfl dX7_isLess_35 (fNow (zu S 75 (sBd S (mu S)))) (fun i hi => fNow_zu hi) (fun H locs w => ?_)
      have w : zW D A s.heap s [(ha, .inl (D.2 1, 86, .inr (.inl (fNow (zu S 75 (sBd S (mu S)))))))] H locs := w
      refine lv_iload_n hx hb dX7_isLess_36 rfl (lv_at hl 0 rfl) ?_
      exact z_zret hx hb hr hlocks w dX7_isLess_37 (by omega) ⟨by first | rw [zb_t (by omega)] | rw [zb_f (by omega)], by unfold sLs; first | (rw [if_pos (by omega)]; rfl) | (rw [if_neg (by omega)]; rfl)⟩
