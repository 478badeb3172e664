set_option maxHeartbeats 6000000 in
set_option maxRecDepth 100000 in
theorem c_X3_readOrderS (l : Launch) (D : zD) (adK adV : Nat → Nat) (hpd9 htx hnu : Nat) (pl a kk rd : Nat) (T : Nat → Nat) (Q : Nat → Int) (hT : OkT T pl) (hapl : a ≤ pl) (ha0 : 0 < a) (h59 : cA T pl a = 59) : zM l yX3_readOrder wsX3_readOrder (zR (5)) (zES adK adV [(hpd9, .inr (3, [.ref htx, .int (zI (((pl : Nat) : Int))), .int (zI (((a : Nat) : Int))), .int (zI (((kk : Nat) : Int))), .ref hnu, .int (zI (((rd : Nat) : Int)))])), (htx, .inl (D.2 2, 80, .inl (fT T))), (hnu, .inl (D.2 0, 4, .inl (fQ Q)))]) D [.ref hpd9] [(hpd9, .inr (3, [.ref htx, .int (zI (((pl : Nat) : Int))), .int (zI (((a : Nat) : Int))), .int (zI (((kk : Nat) : Int))), .ref hnu, .int (zI (((rd : Nat) : Int)))])), (htx, .inl (D.2 2, 80, .inl (fT T))), (hnu, .inl (D.2 0, 4, .inl (fQ Q)))] (zQi D (fun r W1 => r = zI (zb ((rP T pl (shL (kI (cA T pl (a + 1)))) (a + 1) 0 Q).1 = true ∧ ¬ sLe8.getD (kI (cA T pl (a + 1))) 0 = 0)) ∧ W1 = [(hpd9, .inr (3, [.ref htx, .int (zI (((pl : Nat) : Int))), .int (zI (((((rP T pl (shL (kI (cA T pl (a + 1)))) (a + 1) 0 Q).2.1) : Nat) : Int))), .int (zI ((((cA T pl (a + 1)) : Nat) : Int))), .ref hnu, .int (zI (((((rP T pl (shL (kI (cA T pl (a + 1)))) (a + 1) 0 Q).2.2.1) : Nat) : Int)))])), (htx, .inl (D.2 2, 80, .inl (fT T))), (hnu, .inl (D.2 0, 4, .inl (fQ ((rP T pl (shL (kI (cA T pl (a + 1)))) (a + 1) 0 Q).2.2.2))))])) := by
  refine zM.ofS (cc := cX3_readOrder) (maxL := 3) (ret := (some .boolean)) (by decide) rfl (Nat.le_of_ble_eq_true rfl) ?_
  intro p e s m below meth c A hx hb hml hown hts hr hlocks hT0 hnm w ls hl
  have hown : s.vm.findClass RX3 = some m.cls := hown
  have hl : lv_has ls 3 [(0, .ref hpd9)] := hl
  have f_19 : (Cond.fieldLink RX3 19 "RelaxedSteps$Pad" "at" "I").before _ s = true := hts _ (by decide +kernel)
  have f_22 : (Cond.fieldLink RX3 22 "RelaxedSteps$Pad" "kind" "C").before _ s = true := hts _ (by decide +kernel)
  have f_30 : (Cond.fieldLink RX3 30 "RelaxedSteps$Pad" "read" "I").before _ s = true := hts _ (by decide +kernel)
  have inX3 : ∀ w ∈ u_ws RX3 TX3 6, w ∈ wsX3_readOrder := by decide +kernel
  have hpl := hT.1
  have hca := cA_b hT a
  have hal9 := cA_lt (T := T) (pl := pl) (a := a) (by omega)
  have hcb := cA_b hT (a + 1)
  have hki : kI (cA T pl (a + 1)) < 7 := kI_lt _
  have w : zW D A s.heap s [(hpd9, .inr (3, [.ref htx, .int (zI (((pl : Nat) : Int))), .int (zI (((a : Nat) : Int))), .int (zI (((kk : Nat) : Int))), .ref hnu, .int (zI (((rd : Nat) : Int)))])), (htx, .inl (D.2 2, 80, .inl (fT T))), (hnu, .inl (D.2 0, 4, .inl (fQ Q)))] s.heap [] := w
  refine lv_aload_n hx hb dX3_readOrder_0 rfl (lv_at hl 0 rfl) ?_
  refine z_get hx hb hown hts w inX3 0 2 rfl rfl (by decide) f_19 rfl rfl dX3_readOrder_1 ?_
  refine z_if_le (tgt := 18) hx hb (by omega) dX3_readOrder_4 (by decide) (fun c4 => ?_) (fun c4 => ?_)
  · skip
    exact absurd c4 (by omega)
  · skip
    refine lv_aload_n hx hb dX3_readOrder_7 rfl (lv_at hl 0 rfl) ?_
    refine lv_bipush (v := zI 59) hx hb dX3_readOrder_8 (by decide +kernel) ?_
    refine z_V_i (As := [.int (zI (59))]) (rest := []) (Wr := []) ⟨hx, hb, hml, hown, hts⟩ (c_X3_readSignY l D hpd9 htx hnu pl a kk rd T Q hT (by omega) 59 (by omega) h59) (cwV 1 hts gX3_readOrder_X3_readSign rfl rfl rfl (by decide +kernel) ⟨Nat.le_of_ble_eq_true rfl, Nat.le_of_ble_eq_true rfl⟩) w (q0 := 0) rfl rfl rfl [0, 1, 2] rfl (by decide) [] rfl (by decide) (by decide) rfl hl.1 rfl (lv_room (Nat.le_of_ble_eq_true rfl)) dX3_readOrder_10 ⟨Nat.zero_le _, Nat.zero_le _⟩ (fun r W1 H locs hp w => ?_)
    obtain ⟨rfl, rfl⟩ := hp
    have w : zW D A s.heap s [(hpd9, .inr (3, [.ref htx, .int (zI (((pl : Nat) : Int))), .int (zI (((a + 1 : Nat) : Int))), .int (zI (((kk : Nat) : Int))), .ref hnu, .int (zI (((rd : Nat) : Int)))])), (htx, .inl (D.2 2, 80, .inl (fT T))), (hnu, .inl (D.2 0, 4, .inl (fQ Q)))] H locs := w.sub [0, 1, 2] (by decide) rfl
    refine z_if_ne (tgt := 18) hx hb (by omega) dX3_readOrder_13 (by decide) (fun c13 => ?_) (fun c13 => ?_)
    · skip
      refine lv_aload_n hx hb dX3_readOrder_18 rfl (lv_at hl 0 rfl) ?_
      refine lv_aload_n hx hb dX3_readOrder_19 rfl (lv_at hl 0 rfl) ?_
      refine z_V_i (As := []) (rest := [.ref hpd9]) (Wr := []) ⟨hx, hb, hml, hown, hts⟩ (c_X3_here l D hpd9 htx hnu pl (a + 1) kk rd T Q hT (by omega)) (cwV 0 hts gX3_readOrder_X3_here rfl rfl rfl (by decide +kernel) ⟨Nat.le_of_ble_eq_true rfl, Nat.le_of_ble_eq_true rfl⟩) w (q0 := 0) rfl rfl rfl [0, 1, 2] rfl (by decide) [] rfl (by decide) (by decide) rfl hl.1 rfl (lv_room (Nat.le_of_ble_eq_true rfl)) dX3_readOrder_20 ⟨Nat.zero_le _, Nat.zero_le _⟩ (fun r W1 H locs hp w => ?_)
      obtain ⟨rfl, rfl⟩ := hp
      have w : zW D A s.heap s [(hpd9, .inr (3, [.ref htx, .int (zI (((pl : Nat) : Int))), .int (zI (((a + 1 : Nat) : Int))), .int (zI (((kk : Nat) : Int))), .ref hnu, .int (zI (((rd : Nat) : Int)))])), (htx, .inl (D.2 2, 80, .inl (fT T))), (hnu, .inl (D.2 0, 4, .inl (fQ Q)))] H locs := w.sub [0, 1, 2] (by decide) rfl
      have hca := cA_b hT (a + 1)
      refine z_put hx hb hown hts w inX3 tyX3 tyX3_ok nmX3 0 3 rfl rfl (by decide) f_22 rfl rfl (ty := .char) rfl (nrC (by omega)) (fitC (by omega)) (Nat.le_of_ble_eq_true rfl) dX3_readOrder_23 (fun H locs w => ?_)
      have w : zW D A s.heap s [(hpd9, .inr (3, [.ref htx, .int (zI (((pl : Nat) : Int))), .int (zI (((a + 1 : Nat) : Int))), .int (zI (((cA T pl (a + 1) : Nat) : Int))), .ref hnu, .int (zI (((rd : Nat) : Int)))])), (htx, .inl (D.2 2, 80, .inl (fT T))), (hnu, .inl (D.2 0, 4, .inl (fQ Q)))] H locs := w
      refine lv_aload_n hx hb dX3_readOrder_26 rfl (lv_at hl 0 rfl) ?_
      refine lv_iconst (v := zI 0) hx hb dX3_readOrder_27 rfl ?_
      refine z_put hx hb hown hts w inX3 tyX3 tyX3_ok nmX3 0 5 rfl rfl (by decide) f_30 rfl rfl (ty := .int) rfl rfl rfl (Nat.le_of_ble_eq_true rfl) dX3_readOrder_28 (fun H locs w => ?_)
      have w : zW D A s.heap s [(hpd9, .inr (3, [.ref htx, .int (zI (((pl : Nat) : Int))), .int (zI (((a + 1 : Nat) : Int))), .int (zI (((cA T pl (a + 1) : Nat) : Int))), .ref hnu, .int (zI (0))])), (htx, .inl (D.2 2, 80, .inl (fT T))), (hnu, .inl (D.2 0, 4, .inl (fQ Q)))] H locs := w
      refine lv_aload_n hx hb dX3_readOrder_31 rfl (lv_at hl 0 rfl) ?_
      refine z_get hx hb hown hts w inX3 0 3 rfl rfl (by decide) f_22 rfl rfl dX3_readOrder_32 ?_
      refine z_fin_r (Wr := [(hpd9, .inr (3, [.ref htx, .int (zI (((pl : Nat) : Int))), .int (zI (((a + 1 : Nat) : Int))), .int (zI (((cA T pl (a + 1) : Nat) : Int))), .ref hnu, .int (zI (0))])), (htx, .inl (D.2 2, 80, .inl (fT T))), (hnu, .inl (D.2 0, 4, .inl (fQ Q)))]) (zRunS (As := [.int (zI (((cA T pl (a + 1) : Nat) : Int)))]) (rest := []) ⟨hx, hb, hml, hown, hts⟩ (c_X3_shapeOf l D adK adV (cA T pl (a + 1)) (by omega)) (va_cwS 1 hts gX3_readOrder_X3_shapeOf rfl rfl rfl (by decide +kernel) ⟨Nat.le_of_ble_eq_true rfl, Nat.le_of_ble_eq_true rfl⟩) w zES_b (zES_h hT0 w [] rfl (by decide)) [] rfl (by decide) rfl hl.1 rfl (lv_room (Nat.le_of_ble_eq_true rfl)) dX3_readOrder_35 ⟨Nat.zero_le _, Nat.zero_le _⟩) w [] rfl [0, 1, 2] rfl (by decide) (by decide) (fun r W1 H locs hp w => ?_)
      obtain ⟨rfl, rfl⟩ := hp
      have w : zW D A s.heap s [(hpd9, .inr (3, [.ref htx, .int (zI (((pl : Nat) : Int))), .int (zI (((a + 1 : Nat) : Int))), .int (zI (((cA T pl (a + 1) : Nat) : Int))), .ref hnu, .int (zI (0))])), (htx, .inl (D.2 2, 80, .inl (fT T))), (hnu, .inl (D.2 0, 4, .inl (fQ Q)))] H locs := w.sub [0, 1, 2] (by decide) rfl
      obtain ⟨i7, ei7⟩ : ∃ i7, i7 = kI (cA T pl (a + 1)) := ⟨_, rfl⟩
      have hi7 : i7 < 7 := ei7 ▸ hki
      refine W.eq (g2 := F0 m 38 ls [.ref (adK i7)]) (by rw [ei7]) ?_
      have hle9 := (sLe8_ok i7 hi7).2.2
      refine lv_astore_n (lv' := [(1, .ref ((adK i7))), (0, .ref hpd9)]) hx hb dX3_readOrder_38 rfl hl (by decide) rfl (fun ls hl => ?_)
      refine lv_iconst (v := zI 0) hx hb dX3_readOrder_39 rfl ?_
      refine lv_istore_n (lv' := [(2, .int (zI (0))), (1, .ref ((adK i7))), (0, .ref hpd9)]) hx hb dX3_readOrder_40 rfl hl (by decide) rfl (fun ls hl => ?_)
      have lp_41 : ∀ (n_41 : Nat) (k : Nat) (a1 : Nat) (rd1 : Nat) (Q1 : Nat → Int) (x2 : Int) , sLe8.getD i7 0 - k < n_41 → (k ≤ sLe8.getD i7 0) → (a1 ≤ pl) → (rP T pl ((shL i7).drop k) a1 rd1 Q1 = (rP T pl (shL (kI (cA T pl (a + 1)))) (a + 1) 0 Q)) → (rd1 + cN8 ((shL i7).drop k) ≤ 4) → x2 = ((k : Nat) : Int) → ∀ (H : Heap) (locs : List Loc) (ls : Array Slot), zW D A s.heap s [(hpd9, .inr (3, [.ref htx, .int (zI (((pl : Nat) : Int))), .int (zI (((a1 : Nat) : Int))), .int (zI (((cA T pl (a + 1) : Nat) : Int))), .ref hnu, .int (zI (((rd1 : Nat) : Int)))])), (htx, .inl (D.2 2, 80, .inl (fT T))), (hnu, .inl (D.2 0, 4, .inl (fQ Q1)))] H locs → lv_has ls 3 [(2, .int (zI (x2))), (1, .ref ((adK i7))), (0, .ref hpd9)] → W p l e (zR (5)) s m [.ref hpd9].toArray below meth c H locs 0 0 (MQ below ((zQi D (fun r W1 => r = zI (zb ((rP T pl (shL (kI (cA T pl (a + 1)))) (a + 1) 0 Q).1 = true ∧ ¬ sLe8.getD (kI (cA T pl (a + 1))) 0 = 0)) ∧ W1 = [(hpd9, .inr (3, [.ref htx, .int (zI (((pl : Nat) : Int))), .int (zI (((((rP T pl (shL (kI (cA T pl (a + 1)))) (a + 1) 0 Q).2.1) : Nat) : Int))), .int (zI ((((cA T pl (a + 1)) : Nat) : Int))), .ref hnu, .int (zI (((((rP T pl (shL (kI (cA T pl (a + 1)))) (a + 1) 0 Q).2.2.1) : Nat) : Int)))])), (htx, .inl (D.2 2, 80, .inl (fT T))), (hnu, .inl (D.2 0, 4, .inl (fQ ((rP T pl (shL (kI (cA T pl (a + 1)))) (a + 1) 0 Q).2.2.2))))])) A) [.ref hpd9].toArray s 0 0 A) (F0 m 41 ls []) := by
        intro n_41
        induction n_41 with
        | zero => intro k a1 rd1 Q1 x2 h_; exact absurd h_ (Nat.not_lt_zero _)
        | succ n_41 ih_41 =>
          intro k a1 rd1 Q1 x2 hf_41 hk hap1 hR hn ex2 H locs ls w hl
          subst ex2
          have hl : lv_has ls 3 [(2, .int (zI (((k : Nat) : Int)))), (1, .ref ((adK i7))), (0, .ref hpd9)] := hl
          refine lv_iload_n hx hb dX3_readOrder_41 rfl (lv_at hl 0 rfl) ?_
          refine lv_aload_n hx hb dX3_readOrder_42 rfl (lv_at hl 1 rfl) ?_
          refine z_fin_i (Wr := [(hpd9, .inr (3, [.ref htx, .int (zI (((pl : Nat) : Int))), .int (zI (((a1 : Nat) : Int))), .int (zI (((cA T pl (a + 1) : Nat) : Int))), .ref hnu, .int (zI (((rd1 : Nat) : Int)))])), (htx, .inl (D.2 2, 80, .inl (fT T))), (hnu, .inl (D.2 0, 4, .inl (fQ Q1)))]) (zRunK (As := []) (rest := [.int (zI (((k : Nat) : Int)))]) ⟨hx, hb, hml, hown, hts⟩ (c_J0_length l D adK adV i7 hi7) (cwV 0 hts gX3_readOrder_J0_length_8abf5 rfl rfl rfl (by decide +kernel) ⟨Nat.le_of_ble_eq_true rfl, Nat.le_of_ble_eq_true rfl⟩) w hT0 hi7 [] rfl (by decide) rfl hl.1 rfl (lv_room (Nat.le_of_ble_eq_true rfl)) dX3_readOrder_43 ⟨Nat.zero_le _, Nat.zero_le _⟩) w [] rfl [0, 1, 2] rfl (by decide) (by decide) (fun r W1 H locs hp w => ?_)
          obtain ⟨rfl, rfl⟩ := hp
          have w : zW D A s.heap s [(hpd9, .inr (3, [.ref htx, .int (zI (((pl : Nat) : Int))), .int (zI (((a1 : Nat) : Int))), .int (zI (((cA T pl (a + 1) : Nat) : Int))), .ref hnu, .int (zI (((rd1 : Nat) : Int)))])), (htx, .inl (D.2 2, 80, .inl (fT T))), (hnu, .inl (D.2 0, 4, .inl (fQ Q1)))] H locs := w.sub [0, 1, 2] (by decide) rfl
          refine z_icmp_ge (tgt := 69) hx hb (by omega) (by omega) dX3_readOrder_46 (by decide) (fun c46 => ?_) (fun c46 => ?_)
          · skip
            have ek9 : k = sLe8.getD i7 0 := by omega
            rw [ek9, (shL_n i7 hi7).2, rP_0] at hR
            refine lv_aload_n hx hb dX3_readOrder_69 rfl (lv_at hl 1 rfl) ?_
            refine z_fin_i (Wr := [(hpd9, .inr (3, [.ref htx, .int (zI (((pl : Nat) : Int))), .int (zI (((a1 : Nat) : Int))), .int (zI (((cA T pl (a + 1) : Nat) : Int))), .ref hnu, .int (zI (((rd1 : Nat) : Int)))])), (htx, .inl (D.2 2, 80, .inl (fT T))), (hnu, .inl (D.2 0, 4, .inl (fQ Q1)))]) (zRunK (As := []) (rest := []) ⟨hx, hb, hml, hown, hts⟩ (c_J0_isEmpty l D adK adV i7 hi7) (cwV 0 hts gX3_readOrder_J0_isEmpty_aae02 rfl rfl rfl (by decide +kernel) ⟨Nat.le_of_ble_eq_true rfl, Nat.le_of_ble_eq_true rfl⟩) w hT0 hi7 [] rfl (by decide) rfl hl.1 rfl (lv_room (Nat.le_of_ble_eq_true rfl)) dX3_readOrder_70 ⟨Nat.zero_le _, Nat.zero_le _⟩) w [] rfl [0, 1, 2] rfl (by decide) (by decide) (fun r W1 H locs hp w => ?_)
            obtain ⟨rfl, rfl⟩ := hp
            have w : zW D A s.heap s [(hpd9, .inr (3, [.ref htx, .int (zI (((pl : Nat) : Int))), .int (zI (((a1 : Nat) : Int))), .int (zI (((cA T pl (a + 1) : Nat) : Int))), .ref hnu, .int (zI (((rd1 : Nat) : Int)))])), (htx, .inl (D.2 2, 80, .inl (fT T))), (hnu, .inl (D.2 0, 4, .inl (fQ Q1)))] H locs := w.sub [0, 1, 2] (by decide) rfl
            refine z_if_ne_b (tgt := 80) hx hb dX3_readOrder_73 (by decide) (fun c73 => ?_) (fun c73 => ?_)
            · skip
              refine lv_iconst (v := zI 0) hx hb dX3_readOrder_80 rfl ?_
              exact z_zret hx hb hr hlocks w dX3_readOrder_81 (by omega) ⟨by rw [← hR, ← ei7, zb_f (fun q => q.2 c73)], by rw [← hR]⟩
            · skip
              refine lv_iconst (v := zI 1) hx hb dX3_readOrder_76 rfl ?_
              refine lv_goto (tgt := 81) hx hb dX3_readOrder_77 (by decide) ?_
              exact z_zret hx hb hr hlocks w dX3_readOrder_81 (by omega) ⟨by rw [← hR, ← ei7, zb_t ⟨rfl, c73⟩], by rw [← hR]⟩
          · skip
            have ed := shL_d i7 hi7 k (by omega)
            rw [ed] at hR hn
            refine lv_aload_n hx hb dX3_readOrder_49 rfl (lv_at hl 2 rfl) ?_
            refine lv_aload_n hx hb dX3_readOrder_50 rfl (lv_at hl 1 rfl) ?_
            refine lv_iload_n hx hb dX3_readOrder_51 rfl (lv_at hl 0 rfl) ?_
            refine z_fin_i (Wr := [(hpd9, .inr (3, [.ref htx, .int (zI (((pl : Nat) : Int))), .int (zI (((a1 : Nat) : Int))), .int (zI (((cA T pl (a + 1) : Nat) : Int))), .ref hnu, .int (zI (((rd1 : Nat) : Int)))])), (htx, .inl (D.2 2, 80, .inl (fT T))), (hnu, .inl (D.2 0, 4, .inl (fQ Q1)))]) (zRunK (As := [.int (zI (((k : Nat) : Int)))]) (rest := [.ref hpd9]) ⟨hx, hb, hml, hown, hts⟩ (c_J0_charAt l D adK adV i7 k hi7 (by omega)) (cwV 1 hts gX3_readOrder_J0_charAt_5068e rfl rfl rfl (by decide +kernel) ⟨Nat.le_of_ble_eq_true rfl, Nat.le_of_ble_eq_true rfl⟩) w hT0 hi7 [] rfl (by decide) rfl hl.1 rfl (lv_room (Nat.le_of_ble_eq_true rfl)) dX3_readOrder_52 ⟨Nat.zero_le _, Nat.zero_le _⟩) w [] rfl [0, 1, 2] rfl (by decide) (by decide) (fun r W1 H locs hp w => ?_)
            obtain ⟨rfl, rfl⟩ := hp
            have w : zW D A s.heap s [(hpd9, .inr (3, [.ref htx, .int (zI (((pl : Nat) : Int))), .int (zI (((a1 : Nat) : Int))), .int (zI (((cA T pl (a + 1) : Nat) : Int))), .ref hnu, .int (zI (((rd1 : Nat) : Int)))])), (htx, .inl (D.2 2, 80, .inl (fT T))), (hnu, .inl (D.2 0, 4, .inl (fQ Q1)))] H locs := w.sub [0, 1, 2] (by decide) rfl
            by_cases e78 : sChr i7 k = 78
            · skip
              refine W.eq (g2 := F0 m 55 ls [.int (zI 78), .ref hpd9]) (by rw [show ((sChr i7 k : Nat) : Int) = 78 by omega]) ?_
              by_cases hy : 0 ≤ dg T pl a1
              · skip
                have hnia := nIt_at hy 2
                rw [rP_N e78 hy] at hR
                rw [cN8_y (Or.inl e78)] at hn
                refine z_V_i (As := [.int (zI (78))]) (rest := []) (Wr := []) ⟨hx, hb, hml, hown, hts⟩ (c_X3_readPartNY l D hpd9 htx hnu pl a1 (cA T pl (a + 1)) rd1 T Q1 hT (by omega) (by omega) hy) (cwV 1 hts gX3_readOrder_X3_readPart rfl rfl rfl (by decide +kernel) ⟨Nat.le_of_ble_eq_true rfl, Nat.le_of_ble_eq_true rfl⟩) w (q0 := 0) rfl rfl rfl [0, 1, 2] rfl (by decide) [] rfl (by decide) (by decide) rfl hl.1 rfl (lv_room (Nat.le_of_ble_eq_true rfl)) dX3_readOrder_55 ⟨Nat.zero_le _, Nat.zero_le _⟩ (fun r W1 H locs hp w => ?_)
                obtain ⟨rfl, rfl⟩ := hp
                have w : zW D A s.heap s [(hpd9, .inr (3, [.ref htx, .int (zI (((pl : Nat) : Int))), .int (zI ((((nIt T pl a1 2).2 : Nat) : Int))), .int (zI (((cA T pl (a + 1) : Nat) : Int))), .ref hnu, .int (zI (((rd1 + 1 : Nat) : Int)))])), (htx, .inl (D.2 2, 80, .inl (fT T))), (hnu, .inl (D.2 0, 4, .inl (fQ (zu Q1 rd1 (nIt T pl a1 2).1))))] H locs := w.sub [0, 1, 2] (by decide) rfl
                refine z_if_ne (tgt := 63) hx hb (by omega) dX3_readOrder_58 (by decide) (fun c58 => ?_) (fun c58 => ?_)
                · skip
                  refine z_iinc (lv' := [(2, .int (zI (((k : Nat) : Int) + 1))), (1, .ref ((adK i7))), (0, .ref hpd9)]) hx hb dX3_readOrder_63 hl (k := 0) rfl (by decide) rfl (fun ls hl => ?_)
                  refine lv_goto (tgt := 41) hx hb dX3_readOrder_66 (by decide) ?_
                  exact ih_41 (k + 1) ((nIt T pl a1 2).2) (rd1 + 1) (zu Q1 rd1 (nIt T pl a1 2).1) _ (by omega) (by omega) (by omega) hR (by omega) (by first | rfl | omega) _ _ _ w (lv_sub hl [0, 1, 2] rfl)
                · skip
                  exact absurd c58 (by omega)
              · skip
                rw [rP_Nn e78 hy] at hR
                refine z_V_i (As := [.int (zI (78))]) (rest := []) (Wr := []) ⟨hx, hb, hml, hown, hts⟩ (c_X3_readPartNN l D hpd9 htx hnu pl a1 (cA T pl (a + 1)) rd1 T Q1 hT (by omega) hy) (cwV 1 hts gX3_readOrder_X3_readPart rfl rfl rfl (by decide +kernel) ⟨Nat.le_of_ble_eq_true rfl, Nat.le_of_ble_eq_true rfl⟩) w (q0 := 0) rfl rfl rfl [0, 1, 2] rfl (by decide) [] rfl (by decide) (by decide) rfl hl.1 rfl (lv_room (Nat.le_of_ble_eq_true rfl)) dX3_readOrder_55 ⟨Nat.zero_le _, Nat.zero_le _⟩ (fun r W1 H locs hp w => ?_)
                obtain ⟨rfl, rfl⟩ := hp
                have w : zW D A s.heap s [(hpd9, .inr (3, [.ref htx, .int (zI (((pl : Nat) : Int))), .int (zI (((a1 : Nat) : Int))), .int (zI (((cA T pl (a + 1) : Nat) : Int))), .ref hnu, .int (zI (((rd1 : Nat) : Int)))])), (htx, .inl (D.2 2, 80, .inl (fT T))), (hnu, .inl (D.2 0, 4, .inl (fQ Q1)))] H locs := w.sub [0, 1, 2] (by decide) rfl
                refine z_if_ne (tgt := 63) hx hb (by omega) dX3_readOrder_58 (by decide) (fun c58 => ?_) (fun c58 => ?_)
                · skip
                  exact absurd c58 (by omega)
                · skip
                  refine lv_iconst (v := zI 0) hx hb dX3_readOrder_61 rfl ?_
                  exact z_zret hx hb hr hlocks w dX3_readOrder_62 (by omega) ⟨by rw [← hR, ← ei7, zb_f (fun q => Bool.noConfusion q.1)], by rw [← hR]⟩
            · skip
              by_cases e68 : sChr i7 k = 68
              · skip
                refine W.eq (g2 := F0 m 55 ls [.int (zI 68), .ref hpd9]) (by rw [show ((sChr i7 k : Nat) : Int) = 68 by omega]) ?_
                by_cases hy : 48 ≤ cA T pl a1 ∧ cA T pl a1 ≤ 50
                · skip
                  have hal9 := cA_lt (T := T) (pl := pl) (a := a1) (by omega)
                  rw [rP_D e68 hy] at hR
                  rw [cN8_y (Or.inr e68)] at hn
                  refine z_V_i (As := [.int (zI (68))]) (rest := []) (Wr := []) ⟨hx, hb, hml, hown, hts⟩ (c_X3_readPartDY l D hpd9 htx hnu pl a1 (cA T pl (a + 1)) rd1 T Q1 hT (by omega) (by omega) hy) (cwV 1 hts gX3_readOrder_X3_readPart rfl rfl rfl (by decide +kernel) ⟨Nat.le_of_ble_eq_true rfl, Nat.le_of_ble_eq_true rfl⟩) w (q0 := 0) rfl rfl rfl [0, 1, 2] rfl (by decide) [] rfl (by decide) (by decide) rfl hl.1 rfl (lv_room (Nat.le_of_ble_eq_true rfl)) dX3_readOrder_55 ⟨Nat.zero_le _, Nat.zero_le _⟩ (fun r W1 H locs hp w => ?_)
                  obtain ⟨rfl, rfl⟩ := hp
                  have w : zW D A s.heap s [(hpd9, .inr (3, [.ref htx, .int (zI (((pl : Nat) : Int))), .int (zI (((a1 + 1 : Nat) : Int))), .int (zI (((cA T pl (a + 1) : Nat) : Int))), .ref hnu, .int (zI (((rd1 + 1 : Nat) : Int)))])), (htx, .inl (D.2 2, 80, .inl (fT T))), (hnu, .inl (D.2 0, 4, .inl (fQ (zu Q1 rd1 (((cA T pl a1 : Nat) : Int) - 48)))))] H locs := w.sub [0, 1, 2] (by decide) rfl
                  refine z_if_ne (tgt := 63) hx hb (by omega) dX3_readOrder_58 (by decide) (fun c58 => ?_) (fun c58 => ?_)
                  · skip
                    refine z_iinc (lv' := [(2, .int (zI (((k : Nat) : Int) + 1))), (1, .ref ((adK i7))), (0, .ref hpd9)]) hx hb dX3_readOrder_63 hl (k := 0) rfl (by decide) rfl (fun ls hl => ?_)
                    refine lv_goto (tgt := 41) hx hb dX3_readOrder_66 (by decide) ?_
                    exact ih_41 (k + 1) (a1 + 1) (rd1 + 1) (zu Q1 rd1 (((cA T pl a1 : Nat) : Int) - 48)) _ (by omega) (by omega) (by omega) hR (by omega) (by first | rfl | omega) _ _ _ w (lv_sub hl [0, 1, 2] rfl)
                  · skip
                    exact absurd c58 (by omega)
                · skip
                  rw [rP_Dn e68 hy] at hR
                  refine z_V_i (As := [.int (zI (68))]) (rest := []) (Wr := []) ⟨hx, hb, hml, hown, hts⟩ (c_X3_readPartDN l D hpd9 htx hnu pl a1 (cA T pl (a + 1)) rd1 T Q1 hT (by omega) hy) (cwV 1 hts gX3_readOrder_X3_readPart rfl rfl rfl (by decide +kernel) ⟨Nat.le_of_ble_eq_true rfl, Nat.le_of_ble_eq_true rfl⟩) w (q0 := 0) rfl rfl rfl [0, 1, 2] rfl (by decide) [] rfl (by decide) (by decide) rfl hl.1 rfl (lv_room (Nat.le_of_ble_eq_true rfl)) dX3_readOrder_55 ⟨Nat.zero_le _, Nat.zero_le _⟩ (fun r W1 H locs hp w => ?_)
                  obtain ⟨rfl, rfl⟩ := hp
                  have w : zW D A s.heap s [(hpd9, .inr (3, [.ref htx, .int (zI (((pl : Nat) : Int))), .int (zI (((a1 : Nat) : Int))), .int (zI (((cA T pl (a + 1) : Nat) : Int))), .ref hnu, .int (zI (((rd1 : Nat) : Int)))])), (htx, .inl (D.2 2, 80, .inl (fT T))), (hnu, .inl (D.2 0, 4, .inl (fQ Q1)))] H locs := w.sub [0, 1, 2] (by decide) rfl
                  refine z_if_ne (tgt := 63) hx hb (by omega) dX3_readOrder_58 (by decide) (fun c58 => ?_) (fun c58 => ?_)
                  · skip
                    exact absurd c58 (by omega)
                  · skip
                    refine lv_iconst (v := zI 0) hx hb dX3_readOrder_61 rfl ?_
                    exact z_zret hx hb hr hlocks w dX3_readOrder_62 (by omega) ⟨by rw [← hR, ← ei7, zb_f (fun q => Bool.noConfusion q.1)], by rw [← hR]⟩
              · skip
                have hcp := sChr_pos i7 hi7 k (by omega)
                by_cases hy : cA T pl a1 = sChr i7 k
                · skip
                  have hal9 := cA_lt (T := T) (pl := pl) (a := a1) (by omega)
                  rw [rP_S e78 e68 hy] at hR
                  rw [cN8_n e78 e68] at hn
                  refine z_V_i (As := [.int (zI (((sChr i7 k : Nat) : Int)))]) (rest := []) (Wr := []) ⟨hx, hb, hml, hown, hts⟩ (c_X3_readPartSY l D hpd9 htx hnu pl a1 (cA T pl (a + 1)) rd1 T Q1 hT (by omega) (sChr i7 k) (by omega) hy) (cwV 1 hts gX3_readOrder_X3_readPart rfl rfl rfl (by decide +kernel) ⟨Nat.le_of_ble_eq_true rfl, Nat.le_of_ble_eq_true rfl⟩) w (q0 := 0) rfl rfl rfl [0, 1, 2] rfl (by decide) [] rfl (by decide) (by decide) rfl hl.1 rfl (lv_room (Nat.le_of_ble_eq_true rfl)) dX3_readOrder_55 ⟨Nat.zero_le _, Nat.zero_le _⟩ (fun r W1 H locs hp w => ?_)
                  obtain ⟨rfl, rfl⟩ := hp
                  have w : zW D A s.heap s [(hpd9, .inr (3, [.ref htx, .int (zI (((pl : Nat) : Int))), .int (zI (((a1 + 1 : Nat) : Int))), .int (zI (((cA T pl (a + 1) : Nat) : Int))), .ref hnu, .int (zI (((rd1 : Nat) : Int)))])), (htx, .inl (D.2 2, 80, .inl (fT T))), (hnu, .inl (D.2 0, 4, .inl (fQ Q1)))] H locs := w.sub [0, 1, 2] (by decide) rfl
                  refine z_if_ne (tgt := 63) hx hb (by omega) dX3_readOrder_58 (by decide) (fun c58 => ?_) (fun c58 => ?_)
                  · skip
                    refine z_iinc (lv' := [(2, .int (zI (((k : Nat) : Int) + 1))), (1, .ref ((adK i7))), (0, .ref hpd9)]) hx hb dX3_readOrder_63 hl (k := 0) rfl (by decide) rfl (fun ls hl => ?_)
                    refine lv_goto (tgt := 41) hx hb dX3_readOrder_66 (by decide) ?_
                    exact ih_41 (k + 1) (a1 + 1) rd1 Q1 _ (by omega) (by omega) (by omega) hR (by omega) (by first | rfl | omega) _ _ _ w (lv_sub hl [0, 1, 2] rfl)
                  · skip
                    exact absurd c58 (by omega)
                · skip
                  rw [rP_Sn e78 e68 hy] at hR
                  refine z_V_i (As := [.int (zI (((sChr i7 k : Nat) : Int)))]) (rest := []) (Wr := []) ⟨hx, hb, hml, hown, hts⟩ (c_X3_readPartSN l D hpd9 htx hnu pl a1 (cA T pl (a + 1)) rd1 T Q1 hT (by omega) (sChr i7 k) (by omega) hy) (cwV 1 hts gX3_readOrder_X3_readPart rfl rfl rfl (by decide +kernel) ⟨Nat.le_of_ble_eq_true rfl, Nat.le_of_ble_eq_true rfl⟩) w (q0 := 0) rfl rfl rfl [0, 1, 2] rfl (by decide) [] rfl (by decide) (by decide) rfl hl.1 rfl (lv_room (Nat.le_of_ble_eq_true rfl)) dX3_readOrder_55 ⟨Nat.zero_le _, Nat.zero_le _⟩ (fun r W1 H locs hp w => ?_)
                  obtain ⟨rfl, rfl⟩ := hp
                  have w : zW D A s.heap s [(hpd9, .inr (3, [.ref htx, .int (zI (((pl : Nat) : Int))), .int (zI (((a1 : Nat) : Int))), .int (zI (((cA T pl (a + 1) : Nat) : Int))), .ref hnu, .int (zI (((rd1 : Nat) : Int)))])), (htx, .inl (D.2 2, 80, .inl (fT T))), (hnu, .inl (D.2 0, 4, .inl (fQ Q1)))] H locs := w.sub [0, 1, 2] (by decide) rfl
                  refine z_if_ne (tgt := 63) hx hb (by omega) dX3_readOrder_58 (by decide) (fun c58 => ?_) (fun c58 => ?_)
                  · skip
                    exact absurd c58 (by omega)
                  · skip
                    refine lv_iconst (v := zI 0) hx hb dX3_readOrder_61 rfl ?_
                    exact z_zret hx hb hr hlocks w dX3_readOrder_62 (by omega) ⟨by rw [← hR, ← ei7, zb_f (fun q => Bool.noConfusion q.1)], by rw [← hR]⟩
      exact lp_41 ((sLe8.getD i7 0 - 0) + 1) 0 (a + 1) 0 Q _ (by omega) (by omega) (by omega) (by subst ei7; rfl) (by have := (shL_n i7 hi7).1; show 0 + cN8 (shL i7) ≤ 4; omega) (by first | rfl | omega) _ _ _ w (lv_sub hl [0, 1, 2] rfl)
    · skip
      exact absurd c13 (by omega)
set_option maxHeartbeats 6000000 in
set_option maxRecDepth 100000 in
theorem c_X3_readOrderN (l : Launch) (D : zD) (adK adV : Nat → Nat) (hpd9 htx hnu : Nat) (pl a kk rd : Nat) (T : Nat → Nat) (Q : Nat → Int) (hT : OkT T pl) (hapl : a ≤ pl) (ha0 : 0 < a) (h59 : ¬ cA T pl a = 59) : zM l yX3_readOrder wsX3_readOrder (zR (5)) (zES adK adV [(hpd9, .inr (3, [.ref htx, .int (zI (((pl : Nat) : Int))), .int (zI (((a : Nat) : Int))), .int (zI (((kk : Nat) : Int))), .ref hnu, .int (zI (((rd : Nat) : Int)))])), (htx, .inl (D.2 2, 80, .inl (fT T))), (hnu, .inl (D.2 0, 4, .inl (fQ Q)))]) D [.ref hpd9] [(hpd9, .inr (3, [.ref htx, .int (zI (((pl : Nat) : Int))), .int (zI (((a : Nat) : Int))), .int (zI (((kk : Nat) : Int))), .ref hnu, .int (zI (((rd : Nat) : Int)))])), (htx, .inl (D.2 2, 80, .inl (fT T))), (hnu, .inl (D.2 0, 4, .inl (fQ Q)))] (zQi D (fun r W1 => r = zI 0 ∧ W1 = [(hpd9, .inr (3, [.ref htx, .int (zI (((pl : Nat) : Int))), .int (zI (((a : Nat) : Int))), .int (zI (((kk : Nat) : Int))), .ref hnu, .int (zI (((rd : Nat) : Int)))])), (htx, .inl (D.2 2, 80, .inl (fT T))), (hnu, .inl (D.2 0, 4, .inl (fQ Q)))])) := by
  refine zM.ofS (cc := cX3_readOrder) (maxL := 3) (ret := (some .boolean)) (by decide) rfl (Nat.le_of_ble_eq_true rfl) ?_
  intro p e s m below meth c A hx hb hml hown hts hr hlocks hT0 hnm w ls hl
  have hown : s.vm.findClass RX3 = some m.cls := hown
  have hl : lv_has ls 3 [(0, .ref hpd9)] := hl
  have f_19 : (Cond.fieldLink RX3 19 "RelaxedSteps$Pad" "at" "I").before _ s = true := hts _ (by decide +kernel)
  have inX3 : ∀ w ∈ u_ws RX3 TX3 6, w ∈ wsX3_readOrder := by decide +kernel
  have hpl := hT.1
  have hca := cA_b hT a
  have w : zW D A s.heap s [(hpd9, .inr (3, [.ref htx, .int (zI (((pl : Nat) : Int))), .int (zI (((a : Nat) : Int))), .int (zI (((kk : Nat) : Int))), .ref hnu, .int (zI (((rd : Nat) : Int)))])), (htx, .inl (D.2 2, 80, .inl (fT T))), (hnu, .inl (D.2 0, 4, .inl (fQ Q)))] s.heap [] := w
  refine lv_aload_n hx hb dX3_readOrder_0 rfl (lv_at hl 0 rfl) ?_
  refine z_get hx hb hown hts w inX3 0 2 rfl rfl (by decide) f_19 rfl rfl dX3_readOrder_1 ?_
  refine z_if_le (tgt := 18) hx hb (by omega) dX3_readOrder_4 (by decide) (fun c4 => ?_) (fun c4 => ?_)
  · skip
    exact absurd c4 (by omega)
  · skip
    refine lv_aload_n hx hb dX3_readOrder_7 rfl (lv_at hl 0 rfl) ?_
    refine lv_bipush (v := zI 59) hx hb dX3_readOrder_8 (by decide +kernel) ?_
    refine z_V_i (As := [.int (zI (59))]) (rest := []) (Wr := []) ⟨hx, hb, hml, hown, hts⟩ (c_X3_readSignN l D hpd9 htx hnu pl a kk rd T Q hT (by omega) 59 (by omega) h59) (cwV 1 hts gX3_readOrder_X3_readSign rfl rfl rfl (by decide +kernel) ⟨Nat.le_of_ble_eq_true rfl, Nat.le_of_ble_eq_true rfl⟩) w (q0 := 0) rfl rfl rfl [0, 1, 2] rfl (by decide) [] rfl (by decide) (by decide) rfl hl.1 rfl (lv_room (Nat.le_of_ble_eq_true rfl)) dX3_readOrder_10 ⟨Nat.zero_le _, Nat.zero_le _⟩ (fun r W1 H locs hp w => ?_)
    obtain ⟨rfl, rfl⟩ := hp
    have w : zW D A s.heap s [(hpd9, .inr (3, [.ref htx, .int (zI (((pl : Nat) : Int))), .int (zI (((a : Nat) : Int))), .int (zI (((kk : Nat) : Int))), .ref hnu, .int (zI (((rd : Nat) : Int)))])), (htx, .inl (D.2 2, 80, .inl (fT T))), (hnu, .inl (D.2 0, 4, .inl (fQ Q)))] H locs := w.sub [0, 1, 2] (by decide) rfl
    refine z_if_ne (tgt := 18) hx hb (by omega) dX3_readOrder_13 (by decide) (fun c13 => ?_) (fun c13 => ?_)
    · skip
      exact absurd c13 (by omega)
    · skip
      refine lv_iconst (v := zI 0) hx hb dX3_readOrder_16 rfl ?_
      exact z_zret hx hb hr hlocks w dX3_readOrder_17 (by omega) ⟨rfl, rfl⟩
