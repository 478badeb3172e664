set_option maxHeartbeats 6000000 in
set_option maxRecDepth 100000 in
theorem c_X3_append (l : Launch) (D : zD) (hpd9 htx hnu : Nat) (pat pki prd : Int) (pl : Nat) (T : Nat → Nat) (ch : Nat) (hch : ch < 65536) (hpl : pl < 80) : zM l yX3_append wsX3_append (zR (0)) zE0 D [.ref hpd9, .int (zI (((ch : Nat) : Int)))] [(hpd9, .inr (3, [.ref htx, .int (zI (((pl : Nat) : Int))), .int (zI (pat)), .int (zI (pki)), .ref hnu, .int (zI (prd))])), (htx, .inl (D.2 2, 80, .inl (fT T)))] (zQv D (fun W1 => W1 = [(hpd9, .inr (3, [.ref htx, .int (zI ((((pl + 1) : Nat) : Int))), .int (zI (pat)), .int (zI (pki)), .ref hnu, .int (zI (prd))])), (htx, .inl (D.2 2, 80, .inl (fT (uT T pl ch))))])) := by
  refine zM.of (cc := cX3_append) (maxL := 2) (ret := none) (by decide) rfl (Nat.le_of_ble_eq_true rfl) ?_
  intro p e s m below meth c A hx hb hml hown hts hr hlocks hE hnm w ls hl
  have hown : s.vm.findClass RX3 = some m.cls := hown
  have hl : lv_has ls 2 [(0, .ref hpd9), (1, .int (zI (((ch : Nat) : Int))))] := hl
  have f_15 : (Cond.fieldLink RX3 15 "RelaxedSteps$Pad" "length" "I").before _ s = true := hts _ (by decide +kernel)
  have f_9 : (Cond.fieldLink RX3 9 "RelaxedSteps$Pad" "text" "[C").before _ s = true := hts _ (by decide +kernel)
  have inX3 : ∀ w ∈ u_ws RX3 TX3 6, w ∈ wsX3_append := by decide +kernel
  have w : zW D A s.heap s [(hpd9, .inr (3, [.ref htx, .int (zI (((pl : Nat) : Int))), .int (zI (pat)), .int (zI (pki)), .ref hnu, .int (zI (prd))])), (htx, .inl (D.2 2, 80, .inl (fT T)))] s.heap [] := w
  refine lv_aload_n hx hb dX3_append_0 rfl (lv_at hl 0 rfl) ?_
  refine z_get hx hb hown hts w inX3 0 1 rfl rfl (by decide) f_15 rfl rfl dX3_append_1 ?_
  refine lv_bipush (v := zI 80) hx hb dX3_append_4 (by decide +kernel) ?_
  refine z_icmp_ge (tgt := 29) hx hb (by omega) (by omega) dX3_append_6 (by decide) (fun c6 => ?_) (fun c6 => ?_)
  · skip
    exact absurd c6 (by omega)
  · skip
    refine lv_aload_n hx hb dX3_append_9 rfl (lv_at hl 0 rfl) ?_
    refine z_get hx hb hown hts w inX3 0 0 rfl rfl (by decide) f_9 rfl rfl dX3_append_10 ?_
    refine lv_aload_n hx hb dX3_append_13 rfl (lv_at hl 0 rfl) ?_
    refine z_get hx hb hown hts w inX3 0 1 rfl rfl (by decide) f_15 rfl rfl dX3_append_14 ?_
    refine lv_iload_n hx hb dX3_append_17 rfl (lv_at hl 1 rfl) ?_
    refine z_cast hx hb w 1 rfl pl (by omega) (by decide) rfl dX3_append_18 (fT (uT T pl ch)) (fun i hi => fT_u (by omega)) (fun H locs w => ?_)
    have w : zW D A s.heap s [(hpd9, .inr (3, [.ref htx, .int (zI (((pl : Nat) : Int))), .int (zI (pat)), .int (zI (pki)), .ref hnu, .int (zI (prd))])), (htx, .inl (D.2 2, 80, .inl (fT (uT T pl ch))))] H locs := w
    refine lv_aload_n hx hb dX3_append_19 rfl (lv_at hl 0 rfl) ?_
    refine lv_dup hx hb dX3_append_20 rfl ?_
    refine z_get hx hb hown hts w inX3 0 1 rfl rfl (by decide) f_15 rfl rfl dX3_append_21 ?_
    refine lv_iconst (v := zI 1) hx hb dX3_append_24 rfl ?_
    refine z_iadd hx hb dX3_append_25 ?_
    refine z_put hx hb hown hts w inX3 tyX3 tyX3_ok nmX3 0 1 rfl rfl (by decide) f_15 rfl rfl (ty := .int) rfl rfl rfl (Nat.le_of_ble_eq_true rfl) dX3_append_26 (fun H locs w => ?_)
    have w : zW D A s.heap s [(hpd9, .inr (3, [.ref htx, .int (zI (((pl : Nat) : Int) + 1)), .int (zI (pat)), .int (zI (pki)), .ref hnu, .int (zI (prd))])), (htx, .inl (D.2 2, 80, .inl (fT (uT T pl ch))))] H locs := w
    exact z_vret hx hb hr hlocks w dX3_append_29 rfl
set_option maxHeartbeats 6000000 in
set_option maxRecDepth 100000 in
theorem c_X6_put (l : Launch) (D : zD) (hxo ho hh hsa hsv hpd9 hse hmt htx hnu : Nat) (pat pki prd : Int) (pl : Nat) (T : Nat → Nat) (hpl : pl ≤ 80) (x : Int64) : zM l yX6_put wsX6_put (zR (3)) zE0 D [.ref hxo, .long (x)] [(hxo, .inr (6, [.ref ho, .ref hh, .ref hsa, .ref hsv, .ref hpd9, .ref hse, .ref hmt])), (hpd9, .inr (3, [.ref htx, .int (zI (((pl : Nat) : Int))), .int (zI (pat)), .int (zI (pki)), .ref hnu, .int (zI (prd))])), (htx, .inl (D.2 2, 80, .inl (fT T)))] (zQi D (fun r W1 => r = zI (qPut pl x) ∧ W1 = [(hxo, .inr (6, [.ref ho, .ref hh, .ref hsa, .ref hsv, .ref hpd9, .ref hse, .ref hmt])), (hpd9, .inr (3, [.ref htx, .int (zI ((((ePl pl x) : Nat) : Int))), .int (zI (pat)), .int (zI (pki)), .ref hnu, .int (zI (prd))])), (htx, .inl (D.2 2, 80, .inl (fT (eTx T pl x))))])) := by
  refine zM.of (cc := cX6_put) (maxL := 5) (ret := (some .int)) (by decide) rfl (Nat.le_of_ble_eq_true rfl) ?_
  intro p e s m below meth c A hx hb hml hown hts hr hlocks hE hnm w ls hl
  have hown : s.vm.findClass RX6 = some m.cls := hown
  have hl : lv_has ls 5 [(0, .ref hxo), (1, .long (x))] := hl
  have f_34 : (Cond.fieldLink RX6 34 "RelaxedSteps" "pad" "LRelaxedSteps$Pad;").before _ s = true := hts _ (by decide +kernel)
  have f_174 : (Cond.fieldLink RX6 174 "RelaxedSteps$Pad" "length" "I").before _ s = true := hts _ (by decide +kernel)
  have inX6 : ∀ w ∈ u_ws RX6 TX6 7, w ∈ wsX6_put := by decide +kernel
  have inX3 : ∀ w ∈ u_ws RX3 TX3 6, w ∈ wsX6_put := by decide +kernel
  have w : zW D A s.heap s [(hxo, .inr (6, [.ref ho, .ref hh, .ref hsa, .ref hsv, .ref hpd9, .ref hse, .ref hmt])), (hpd9, .inr (3, [.ref htx, .int (zI (((pl : Nat) : Int))), .int (zI (pat)), .int (zI (pki)), .ref hnu, .int (zI (prd))])), (htx, .inl (D.2 2, 80, .inl (fT T)))] s.heap [] := w
  refine lv_lload_n hx hb dX6_put_0 rfl (lv_at hl 1 rfl) ?_
  refine z_S_i (As := [.long (x)]) (rest := []) (Wr := [(hxo, .inr (6, [.ref ho, .ref hh, .ref hsa, .ref hsv, .ref hpd9, .ref hse, .ref hmt])), (hpd9, .inr (3, [.ref htx, .int (zI (((pl : Nat) : Int))), .int (zI (pat)), .int (zI (pki)), .ref hnu, .int (zI (prd))])), (htx, .inl (D.2 2, 80, .inl (fT T)))]) ⟨hx, hb, hml, hown, hts⟩ (c_X6_charactersIn l D x) (va_cwS 1 hts gX6_put_X6_charactersIn rfl rfl rfl (by decide +kernel) ⟨Nat.le_of_ble_eq_true rfl, Nat.le_of_ble_eq_true rfl⟩) w [] rfl (by decide) [0, 1, 2] rfl (by decide) (by decide) rfl hl.1 rfl (lv_room (Nat.le_of_ble_eq_true rfl)) dX6_put_1 ⟨Nat.zero_le _, Nat.zero_le _⟩ (fun r W1 H locs hp w => ?_)
  obtain ⟨rfl, rfl⟩ := hp
  have w : zW D A s.heap s [(hxo, .inr (6, [.ref ho, .ref hh, .ref hsa, .ref hsv, .ref hpd9, .ref hse, .ref hmt])), (hpd9, .inr (3, [.ref htx, .int (zI (((pl : Nat) : Int))), .int (zI (pat)), .int (zI (pki)), .ref hnu, .int (zI (prd))])), (htx, .inl (D.2 2, 80, .inl (fT T)))] H locs := w.sub [0, 1, 2] (by decide) rfl
  have hps := pCh_s x
  refine lv_istore_n (lv' := [(3, .int (zI (((pCh x : Nat) : Int)))), (0, .ref hxo), (1, .long (x))]) hx hb dX6_put_4 rfl hl (by decide) rfl (fun ls hl => ?_)
  refine lv_iload_n hx hb dX6_put_5 rfl (lv_at hl 0 rfl) ?_
  refine z_if_gt (tgt := 12) hx hb (by omega) dX6_put_6 (by decide) (fun c6 => ?_) (fun c6 => ?_)
  · skip
    refine lv_aload_n hx hb dX6_put_12 rfl (lv_at hl 1 rfl) ?_
    refine z_get hx hb hown hts w inX6 0 4 rfl rfl (by decide) f_34 rfl rfl dX6_put_13 ?_
    refine z_get hx hb hown hts w inX3 1 1 rfl rfl (by decide) f_174 rfl rfl dX6_put_16 ?_
    refine lv_iload_n hx hb dX6_put_19 rfl (lv_at hl 0 rfl) ?_
    refine z_iadd hx hb dX6_put_20 ?_
    refine lv_bipush (v := zI 80) hx hb dX6_put_21 (by decide +kernel) ?_
    refine z_icmp_le (tgt := 29) hx hb (by omega) (by omega) dX6_put_23 (by decide) (fun c23 => ?_) (fun c23 => ?_)
    · skip
      refine lv_iload_n hx hb dX6_put_29 rfl (lv_at hl 0 rfl) ?_
      refine lv_iconst (v := zI 1) hx hb dX6_put_30 rfl ?_
      refine z_isub hx hb dX6_put_31 ?_
      refine lv_istore (lv' := [(4, .int (zI (((pCh x : Nat) : Int) - 1))), (3, .int (zI (((pCh x : Nat) : Int)))), (0, .ref hxo), (1, .long (x))]) hx hb dX6_put_32 hl (by decide) rfl (fun ls hl => ?_)
      have lp_34 : ∀ (n_34 : Nat) (i : Nat) (x4 : Int) , pCh x - i < n_34 → (i ≤ pCh x) → x4 = ((pCh x : Nat) : Int) - 1 - ((i : Nat) : Int) → ∀ (H : Heap) (locs : List Loc) (ls : Array Slot), zW D A s.heap s [(hxo, .inr (6, [.ref ho, .ref hh, .ref hsa, .ref hsv, .ref hpd9, .ref hse, .ref hmt])), (hpd9, .inr (3, [.ref htx, .int (zI (((pl + i : Nat) : Int))), .int (zI (pat)), .int (zI (pki)), .ref hnu, .int (zI (prd))])), (htx, .inl (D.2 2, 80, .inl (fT (putT T pl x i))))] H locs → lv_has ls 5 [(4, .int (zI (x4))), (3, .int (zI (((pCh x : Nat) : Int)))), (0, .ref hxo), (1, .long (x))] → W p l e (zR (3)) s m [.ref hxo, .long (x)].toArray below meth c H locs 0 0 (MQ below ((zQi D (fun r W1 => r = zI (qPut pl x) ∧ W1 = [(hxo, .inr (6, [.ref ho, .ref hh, .ref hsa, .ref hsv, .ref hpd9, .ref hse, .ref hmt])), (hpd9, .inr (3, [.ref htx, .int (zI ((((ePl pl x) : Nat) : Int))), .int (zI (pat)), .int (zI (pki)), .ref hnu, .int (zI (prd))])), (htx, .inl (D.2 2, 80, .inl (fT (eTx T pl x))))])) A) [.ref hxo, .long (x)].toArray s 0 0 A) (F0 m 34 ls []) := by
        intro n_34
        induction n_34 with
        | zero => intro i x4 h_; exact absurd h_ (Nat.not_lt_zero _)
        | succ n_34 ih_34 =>
          intro i x4 hf_34 hi ex4 H locs ls w hl
          subst ex4
          have hl : lv_has ls 5 [(4, .int (zI (((pCh x : Nat) : Int) - 1 - ((i : Nat) : Int)))), (3, .int (zI (((pCh x : Nat) : Int)))), (0, .ref hxo), (1, .long (x))] := hl
          refine lv_iload hx hb dX6_put_34 (lv_at hl 0 rfl) ?_
          refine z_if_lt (tgt := 59) hx hb (by omega) dX6_put_36 (by decide) (fun c36 => ?_) (fun c36 => ?_)
          · skip
            refine lv_aload_n hx hb dX6_put_59 rfl (lv_at hl 2 rfl) ?_
            refine z_get hx hb hown hts w inX6 0 4 rfl rfl (by decide) f_34 rfl rfl dX6_put_60 ?_
            refine z_get hx hb hown hts w inX3 1 1 rfl rfl (by decide) f_174 rfl rfl dX6_put_63 ?_
            exact z_iret hx hb hr hlocks w dX6_put_66 (by have e9 : i = pCh x := (by omega); subst e9; exact ⟨by unfold qPut; rw [if_neg (by omega), if_neg (by omega)], by unfold ePl eTx; rw [if_neg (by omega), if_neg (by omega)]⟩)
          · skip
            refine lv_aload_n hx hb dX6_put_39 rfl (lv_at hl 2 rfl) ?_
            refine z_get hx hb hown hts w inX6 0 4 rfl rfl (by decide) f_34 rfl rfl dX6_put_40 ?_
            refine lv_lload_n hx hb dX6_put_43 rfl (lv_at hl 3 rfl) ?_
            refine lv_iload hx hb dX6_put_44 (lv_at hl 0 rfl) ?_
            refine W.eq (g2 := F0 m 46 ls [.int (zI ((((pCh x - 1 - i) : Nat) : Int))), .long (x), .ref hpd9]) (by rw [show ((pCh x : Nat) : Int) - 1 - ((i : Nat) : Int) = ((pCh x - 1 - i : Nat) : Int) by omega]) ?_
            refine z_S_i (As := [.long (x), .int (zI ((((pCh x - 1 - i) : Nat) : Int)))]) (rest := [.ref hpd9]) (Wr := [(hxo, .inr (6, [.ref ho, .ref hh, .ref hsa, .ref hsv, .ref hpd9, .ref hse, .ref hmt])), (hpd9, .inr (3, [.ref htx, .int (zI (((pl + i : Nat) : Int))), .int (zI (pat)), .int (zI (pki)), .ref hnu, .int (zI (prd))])), (htx, .inl (D.2 2, 80, .inl (fT (putT T pl x i))))]) ⟨hx, hb, hml, hown, hts⟩ (c_X6_codeAt l D x (pCh x - 1 - i) (by omega)) (va_cwS 2 hts gX6_put_X6_codeAt rfl rfl rfl (by decide +kernel) ⟨Nat.le_of_ble_eq_true rfl, Nat.le_of_ble_eq_true rfl⟩) w [] rfl (by decide) [0, 1, 2] rfl (by decide) (by decide) rfl hl.1 rfl (lv_room (Nat.le_of_ble_eq_true rfl)) dX6_put_46 ⟨Nat.zero_le _, Nat.zero_le _⟩ (fun r W1 H locs hp w => ?_)
            obtain ⟨rfl, rfl⟩ := hp
            have w : zW D A s.heap s [(hxo, .inr (6, [.ref ho, .ref hh, .ref hsa, .ref hsv, .ref hpd9, .ref hse, .ref hmt])), (hpd9, .inr (3, [.ref htx, .int (zI (((pl + i : Nat) : Int))), .int (zI (pat)), .int (zI (pki)), .ref hnu, .int (zI (prd))])), (htx, .inl (D.2 2, 80, .inl (fT (putT T pl x i))))] H locs := w.sub [0, 1, 2] (by decide) rfl
            have hb8 := by8_lt x (pCh x - 1 - i)
            refine lv_i2c (v := zI (((by8 x (pCh x - 1 - i) : Nat) : Int))) hx hb dX6_put_49 (i2c_n (by omega)) ?_
            refine z_V_v (As := [.int (zI (((by8 x (pCh x - 1 - i) : Nat) : Int)))]) (rest := []) (Wr := [(hxo, .inr (6, [.ref ho, .ref hh, .ref hsa, .ref hsv, .ref hpd9, .ref hse, .ref hmt]))]) ⟨hx, hb, hml, hown, hts⟩ (c_X3_append l D hpd9 htx hnu pat pki prd (pl + i) (putT T pl x i) (by8 x (pCh x - 1 - i)) (by omega) (by omega)) (cwV 1 hts gX6_put_X3_append rfl rfl rfl (by decide +kernel) ⟨Nat.le_of_ble_eq_true rfl, Nat.le_of_ble_eq_true rfl⟩) w (q0 := 1) rfl rfl rfl [1, 2] rfl (by decide) [0] rfl (by decide) (by decide) rfl hl.1 rfl (lv_room (Nat.le_of_ble_eq_true rfl)) dX6_put_50 ⟨Nat.zero_le _, Nat.zero_le _⟩ (fun W1 H locs hp w => ?_)
            subst hp
            have w : zW D A s.heap s [(hxo, .inr (6, [.ref ho, .ref hh, .ref hsa, .ref hsv, .ref hpd9, .ref hse, .ref hmt])), (hpd9, .inr (3, [.ref htx, .int (zI ((((pl + i) + 1 : Nat) : Int))), .int (zI (pat)), .int (zI (pki)), .ref hnu, .int (zI (prd))])), (htx, .inl (D.2 2, 80, .inl (fT (uT (putT T pl x i) (pl + i) (by8 x (pCh x - 1 - i))))))] H locs := w.sub [0, 1, 2] (by decide) rfl
            refine z_iinc (lv' := [(4, .int (zI (((pCh x : Nat) : Int) - 1 - ((i : Nat) : Int) + (-1)))), (3, .int (zI (((pCh x : Nat) : Int)))), (0, .ref hxo), (1, .long (x))]) hx hb dX6_put_53 hl (k := 0) rfl (by decide) rfl (fun ls hl => ?_)
            refine lv_goto (tgt := 34) hx hb dX6_put_56 (by decide) ?_
            exact ih_34 (i + 1) _ (by omega) (by omega) (by first | rfl | omega) _ _ _ (w.to (by rw [putT_s]; rfl)) (lv_sub hl [0, 1, 2, 3] rfl)
      exact lp_34 ((pCh x - 0) + 1) 0 _ (by omega) (by omega) (by first | rfl | omega) _ _ _ (w.to (by rw [putT_0]; rfl)) (lv_sub hl [0, 1, 2, 3] rfl)
    · skip
      refine lv_bipush (v := zI (-4)) hx hb dX6_put_26 (by decide +kernel) ?_
      exact z_iret hx hb hr hlocks w dX6_put_28 ⟨by unfold qPut; rw [if_neg (by omega), if_pos (by omega)], by unfold ePl eTx; rw [if_pos (by omega), if_pos (by omega)]⟩
  · skip
    refine lv_bipush (v := zI (-2)) hx hb dX6_put_9 (by decide +kernel) ?_
    exact z_iret hx hb hr hlocks w dX6_put_11 ⟨by unfold qPut; rw [if_pos (by omega)], by unfold ePl eTx; rw [if_pos (by omega), if_pos (by omega)]⟩
set_option maxHeartbeats 6000000 in
set_option maxRecDepth 100000 in
theorem c_X7_put (l : Launch) (D : zD) (hmo ha hth hpa hsl hhe hpd hor c9 : Nat) (ap od : Int) (pl : Nat) (T : Nat → Nat) (hpl : pl ≤ 80) (x : Int64) : zM l yX7_put wsX7_put (zR (3)) zE0 D [.ref hmo, .long (x)] [(hmo, .inr (7, [.ref ha, .ref hth, .ref hpa, .int (zI (((c9 : Nat) : Int))), .ref hsl, .ref hhe, .ref hpd, .int (zI (((pl : Nat) : Int))), .int (zI (ap)), .ref hor, .int (zI (od))])), (hpd, .inl (D.2 0, 80, .inl (fT T)))] (zQi D (fun r W1 => r = zI (qPut pl x) ∧ W1 = [(hmo, .inr (7, [.ref ha, .ref hth, .ref hpa, .int (zI (((c9 : Nat) : Int))), .ref hsl, .ref hhe, .ref hpd, .int (zI ((((ePl pl x) : Nat) : Int))), .int (zI (ap)), .ref hor, .int (zI (od))])), (hpd, .inl (D.2 0, 80, .inl (fT (eTx T pl x))))])) := by
  refine zM.of (cc := cX7_put) (maxL := 5) (ret := (some .int)) (by decide) rfl (Nat.le_of_ble_eq_true rfl) ?_
  intro p e s m below meth c A hx hb hml hown hts hr hlocks hE hnm w ls hl
  have hown : s.vm.findClass RX7 = some m.cls := hown
  have hl : lv_has ls 5 [(0, .ref hmo), (1, .long (x))] := hl
  have f_158 : (Cond.fieldLink RX7 158 "RelaxedStepsModel" "padded" "I").before _ s = true := hts _ (by decide +kernel)
  have f_26 : (Cond.fieldLink RX7 26 "RelaxedStepsModel" "pad" "[I").before _ s = true := hts _ (by decide +kernel)
  have inX7 : ∀ w ∈ u_ws RX7 TX7 11, w ∈ wsX7_put := by decide +kernel
  have w : zW D A s.heap s [(hmo, .inr (7, [.ref ha, .ref hth, .ref hpa, .int (zI (((c9 : Nat) : Int))), .ref hsl, .ref hhe, .ref hpd, .int (zI (((pl : Nat) : Int))), .int (zI (ap)), .ref hor, .int (zI (od))])), (hpd, .inl (D.2 0, 80, .inl (fT T)))] s.heap [] := w
  refine lv_lload_n hx hb dX7_put_0 rfl (lv_at hl 1 rfl) ?_
  refine z_S_i (As := [.long (x)]) (rest := []) (Wr := [(hmo, .inr (7, [.ref ha, .ref hth, .ref hpa, .int (zI (((c9 : Nat) : Int))), .ref hsl, .ref hhe, .ref hpd, .int (zI (((pl : Nat) : Int))), .int (zI (ap)), .ref hor, .int (zI (od))])), (hpd, .inl (D.2 0, 80, .inl (fT T)))]) ⟨hx, hb, hml, hown, hts⟩ (c_X7_toldBy l D x) (va_cwS 1 hts gX7_put_X7_toldBy rfl rfl rfl (by decide +kernel) ⟨Nat.le_of_ble_eq_true rfl, Nat.le_of_ble_eq_true rfl⟩) w [] rfl (by decide) [0, 1] rfl (by decide) (by decide) rfl hl.1 rfl (lv_room (Nat.le_of_ble_eq_true rfl)) dX7_put_1 ⟨Nat.zero_le _, Nat.zero_le _⟩ (fun r W1 H locs hp w => ?_)
  obtain ⟨rfl, rfl⟩ := hp
  have w : zW D A s.heap s [(hmo, .inr (7, [.ref ha, .ref hth, .ref hpa, .int (zI (((c9 : Nat) : Int))), .ref hsl, .ref hhe, .ref hpd, .int (zI (((pl : Nat) : Int))), .int (zI (ap)), .ref hor, .int (zI (od))])), (hpd, .inl (D.2 0, 80, .inl (fT T)))] H locs := w.sub [0, 1] (by decide) rfl
  have hps := pCh_s x
  generalize htb : (if pCh x = 0 then (-2 : Int) else ((pCh x : Nat) : Int)) = tb
  have htb2 : (pCh x = 0 ∧ tb = -2) ∨ (¬ pCh x = 0 ∧ tb = ((pCh x : Nat) : Int)) := by rw [← htb]; split <;> omega
  refine lv_istore_n (lv' := [(3, .int (zI (tb))), (0, .ref hmo), (1, .long (x))]) hx hb dX7_put_4 rfl hl (by decide) rfl (fun ls hl => ?_)
  refine lv_iload_n hx hb dX7_put_5 rfl (lv_at hl 0 rfl) ?_
  refine z_if_ge (tgt := 11) hx hb (by omega) dX7_put_6 (by decide) (fun c6 => ?_) (fun c6 => ?_)
  · skip
    have etb : tb = ((pCh x : Nat) : Int) := by omega
    subst etb
    refine lv_aload_n hx hb dX7_put_11 rfl (lv_at hl 1 rfl) ?_
    refine z_get hx hb hown hts w inX7 0 7 rfl rfl (by decide) f_158 rfl rfl dX7_put_12 ?_
    refine lv_iload_n hx hb dX7_put_15 rfl (lv_at hl 0 rfl) ?_
    refine z_iadd hx hb dX7_put_16 ?_
    refine lv_bipush (v := zI 80) hx hb dX7_put_17 (by decide +kernel) ?_
    refine z_icmp_le (tgt := 25) hx hb (by omega) (by omega) dX7_put_19 (by decide) (fun c19 => ?_) (fun c19 => ?_)
    · skip
      refine lv_iload_n hx hb dX7_put_25 rfl (lv_at hl 0 rfl) ?_
      refine lv_iconst (v := zI 1) hx hb dX7_put_26 rfl ?_
      refine z_isub hx hb dX7_put_27 ?_
      refine lv_istore (lv' := [(4, .int (zI (((pCh x : Nat) : Int) - 1))), (3, .int (zI (((pCh x : Nat) : Int)))), (0, .ref hmo), (1, .long (x))]) hx hb dX7_put_28 hl (by decide) rfl (fun ls hl => ?_)
      have lp_30 : ∀ (n_30 : Nat) (i : Nat) (x4 : Int) , pCh x - i < n_30 → (i ≤ pCh x) → x4 = ((pCh x : Nat) : Int) - 1 - ((i : Nat) : Int) → ∀ (H : Heap) (locs : List Loc) (ls : Array Slot), zW D A s.heap s [(hmo, .inr (7, [.ref ha, .ref hth, .ref hpa, .int (zI (((c9 : Nat) : Int))), .ref hsl, .ref hhe, .ref hpd, .int (zI (((pl + i : Nat) : Int))), .int (zI (ap)), .ref hor, .int (zI (od))])), (hpd, .inl (D.2 0, 80, .inl (fT (putT T pl x i))))] H locs → lv_has ls 5 [(4, .int (zI (x4))), (3, .int (zI (((pCh x : Nat) : Int)))), (0, .ref hmo), (1, .long (x))] → W p l e (zR (3)) s m [.ref hmo, .long (x)].toArray below meth c H locs 0 0 (MQ below ((zQi D (fun r W1 => r = zI (qPut pl x) ∧ W1 = [(hmo, .inr (7, [.ref ha, .ref hth, .ref hpa, .int (zI (((c9 : Nat) : Int))), .ref hsl, .ref hhe, .ref hpd, .int (zI ((((ePl pl x) : Nat) : Int))), .int (zI (ap)), .ref hor, .int (zI (od))])), (hpd, .inl (D.2 0, 80, .inl (fT (eTx T pl x))))])) A) [.ref hmo, .long (x)].toArray s 0 0 A) (F0 m 30 ls []) := by
        intro n_30
        induction n_30 with
        | zero => intro i x4 h_; exact absurd h_ (Nat.not_lt_zero _)
        | succ n_30 ih_30 =>
          intro i x4 hf_30 hi ex4 H locs ls w hl
          subst ex4
          have hl : lv_has ls 5 [(4, .int (zI (((pCh x : Nat) : Int) - 1 - ((i : Nat) : Int)))), (3, .int (zI (((pCh x : Nat) : Int)))), (0, .ref hmo), (1, .long (x))] := hl
          refine lv_iload hx hb dX7_put_30 (lv_at hl 0 rfl) ?_
          refine z_if_lt (tgt := 66) hx hb (by omega) dX7_put_32 (by decide) (fun c32 => ?_) (fun c32 => ?_)
          · skip
            refine lv_aload_n hx hb dX7_put_66 rfl (lv_at hl 2 rfl) ?_
            refine z_get hx hb hown hts w inX7 0 7 rfl rfl (by decide) f_158 rfl rfl dX7_put_67 ?_
            exact z_iret hx hb hr hlocks w dX7_put_70 (by have e9 : i = pCh x := (by omega); subst e9; exact ⟨by unfold qPut; rw [if_neg (by omega), if_neg (by omega)], by unfold ePl eTx; rw [if_neg (by omega), if_neg (by omega)]⟩)
          · skip
            refine lv_aload_n hx hb dX7_put_35 rfl (lv_at hl 2 rfl) ?_
            refine z_get hx hb hown hts w inX7 0 6 rfl rfl (by decide) f_26 rfl rfl dX7_put_36 ?_
            refine lv_aload_n hx hb dX7_put_39 rfl (lv_at hl 2 rfl) ?_
            refine z_get hx hb hown hts w inX7 0 7 rfl rfl (by decide) f_158 rfl rfl dX7_put_40 ?_
            refine lv_lload_n hx hb dX7_put_43 rfl (lv_at hl 3 rfl) ?_
            refine lv_iload hx hb dX7_put_44 (lv_at hl 0 rfl) ?_
            refine W.eq (g2 := F0 m 46 ls [.int (zI ((((pCh x - 1 - i) : Nat) : Int))), .long (x), .int (zI (((pl + i : Nat) : Int))), .ref hpd]) (by rw [show ((pCh x : Nat) : Int) - 1 - ((i : Nat) : Int) = ((pCh x - 1 - i : Nat) : Int) by omega]) ?_
            refine z_S_i (As := [.long (x), .int (zI ((((pCh x - 1 - i) : Nat) : Int)))]) (rest := [.int (zI (((pl + i : Nat) : Int))), .ref hpd]) (Wr := [(hmo, .inr (7, [.ref ha, .ref hth, .ref hpa, .int (zI (((c9 : Nat) : Int))), .ref hsl, .ref hhe, .ref hpd, .int (zI (((pl + i : Nat) : Int))), .int (zI (ap)), .ref hor, .int (zI (od))])), (hpd, .inl (D.2 0, 80, .inl (fT (putT T pl x i))))]) ⟨hx, hb, hml, hown, hts⟩ (c_X7_byteOf l D x (pCh x - 1 - i) (by omega)) (va_cwS 2 hts gX7_put_X7_byteOf rfl rfl rfl (by decide +kernel) ⟨Nat.le_of_ble_eq_true rfl, Nat.le_of_ble_eq_true rfl⟩) w [] rfl (by decide) [0, 1] rfl (by decide) (by decide) rfl hl.1 rfl (lv_room (Nat.le_of_ble_eq_true rfl)) dX7_put_46 ⟨Nat.zero_le _, Nat.zero_le _⟩ (fun r W1 H locs hp w => ?_)
            obtain ⟨rfl, rfl⟩ := hp
            have w : zW D A s.heap s [(hmo, .inr (7, [.ref ha, .ref hth, .ref hpa, .int (zI (((c9 : Nat) : Int))), .ref hsl, .ref hhe, .ref hpd, .int (zI (((pl + i : Nat) : Int))), .int (zI (ap)), .ref hor, .int (zI (od))])), (hpd, .inl (D.2 0, 80, .inl (fT (putT T pl x i))))] H locs := w.sub [0, 1] (by decide) rfl
            have hb8 := by8_lt x (pCh x - 1 - i)
            refine z_iast hx hb w 1 rfl (pl + i) (by omega) (by decide) rfl dX7_put_49 (fT (putT T pl x (i + 1))) (fun q hq => by rw [fT_u0, putT_s]) (fun H locs w => ?_)
            have w : zW D A s.heap s [(hmo, .inr (7, [.ref ha, .ref hth, .ref hpa, .int (zI (((c9 : Nat) : Int))), .ref hsl, .ref hhe, .ref hpd, .int (zI (((pl + i : Nat) : Int))), .int (zI (ap)), .ref hor, .int (zI (od))])), (hpd, .inl (D.2 0, 80, .inl (fT (putT T pl x (i + 1)))))] H locs := w
            refine lv_aload_n hx hb dX7_put_50 rfl (lv_at hl 2 rfl) ?_
            refine lv_dup hx hb dX7_put_51 rfl ?_
            refine z_get hx hb hown hts w inX7 0 7 rfl rfl (by decide) f_158 rfl rfl dX7_put_52 ?_
            refine lv_iconst (v := zI 1) hx hb dX7_put_55 rfl ?_
            refine z_iadd hx hb dX7_put_56 ?_
            refine W.eq (g2 := F0 m 57 ls [.int (zI (((pl + (i + 1) : Nat) : Int))), .ref hmo]) (by rw [show ((pl + i : Nat) : Int) + 1 = ((pl + (i + 1) : Nat) : Int) by omega]) ?_
            refine z_put hx hb hown hts w inX7 tyX7 tyX7_ok nmX7 0 7 rfl rfl (by decide) f_158 rfl rfl (ty := .int) rfl rfl rfl (Nat.le_of_ble_eq_true rfl) dX7_put_57 (fun H locs w => ?_)
            have w : zW D A s.heap s [(hmo, .inr (7, [.ref ha, .ref hth, .ref hpa, .int (zI (((c9 : Nat) : Int))), .ref hsl, .ref hhe, .ref hpd, .int (zI (((pl + (i + 1) : Nat) : Int))), .int (zI (ap)), .ref hor, .int (zI (od))])), (hpd, .inl (D.2 0, 80, .inl (fT (putT T pl x (i + 1)))))] H locs := w
            refine z_iinc (lv' := [(4, .int (zI (((pCh x : Nat) : Int) - 1 - ((i : Nat) : Int) + (-1)))), (3, .int (zI (((pCh x : Nat) : Int)))), (0, .ref hmo), (1, .long (x))]) hx hb dX7_put_60 hl (k := 0) rfl (by decide) rfl (fun ls hl => ?_)
            refine lv_goto (tgt := 30) hx hb dX7_put_63 (by decide) ?_
            exact ih_30 (i + 1) _ (by omega) (by omega) (by first | rfl | omega) _ _ _ w (lv_sub hl [0, 1, 2, 3] rfl)
      exact lp_30 ((pCh x - 0) + 1) 0 _ (by omega) (by omega) (by first | rfl | omega) _ _ _ (w.to (by rw [putT_0]; rfl)) (lv_sub hl [0, 1, 2, 3] rfl)
    · skip
      refine lv_bipush (v := zI (-4)) hx hb dX7_put_22 (by decide +kernel) ?_
      exact z_iret hx hb hr hlocks w dX7_put_24 ⟨by unfold qPut; rw [if_neg (by omega), if_pos (by omega)], by unfold ePl eTx; rw [if_pos (by omega), if_pos (by omega)]⟩
  · skip
    refine lv_iload_n hx hb dX7_put_9 rfl (lv_at hl 0 rfl) ?_
    exact z_iret hx hb hr hlocks w dX7_put_10 ⟨by unfold qPut; rw [if_pos (by omega), show tb = -2 by omega], by unfold ePl eTx; rw [if_pos (by omega), if_pos (by omega)]⟩
