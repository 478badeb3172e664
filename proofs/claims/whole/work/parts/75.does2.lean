set_option maxHeartbeats 6000000 in
set_option maxRecDepth 100000 in
theorem c_X7_mayDo (l : Launch) (D : zD) (hmo ha hth hpa hsl hhe hpd hor : Nat) (kp pd ap od : Int) (S : Nat → Int) (hok : OkP S) (ch : Nat) (hcb : ch < 65536) (a b c0 d0 : Int) (hza : zB a) (hzb : zB b) (hc0 : zB c0) (hd0 : zB d0) : zM l yX7_mayDo wsX7_mayDo (zR (3)) zE0 D [.ref hmo, .int (zI (((ch : Nat) : Int))), .int (zI (a)), .int (zI (b)), .int (zI (c0)), .int (zI (d0))] (wMb D hmo ha hth hpa hsl hhe hpd hor kp pd ap od S) (zQi D (fun r W1 => r = zI (mDo S ch a b c0 d0) ∧ W1 = (wMb D hmo ha hth hpa hsl hhe hpd hor kp pd ap od S))) := by
  refine zM.of (cc := cX7_mayDo) (maxL := 6) (ret := (some .int)) (by decide) rfl (Nat.le_of_ble_eq_true rfl) ?_
  intro p e s m below meth c A hx hb hml hown hts hr hlocks hE hnm w ls hl
  have hown : s.vm.findClass RX7 = some m.cls := hown
  have hl : lv_has ls 6 [(0, .ref hmo), (1, .int (zI (((ch : Nat) : Int)))), (2, .int (zI (a))), (3, .int (zI (b))), (4, .int (zI (c0))), (5, .int (zI (d0)))] := hl
  have hqq := hok.1
  have w : zW D A s.heap s [(hmo, .inr (7, [.ref ha, .ref hth, .ref hpa, .int (zI (kp)), .ref hsl, .ref hhe, .ref hpd, .int (zI (pd)), .int (zI (ap)), .ref hor, .int (zI (od))])), (ha, .inl (D.2 1, 86, .inr (.inl (fNow S))))] s.heap [] := w
  refine lv_iload_n hx hb dX7_mayDo_0 rfl (lv_at hl 1 rfl) ?_
  obtain ⟨kc, ekc⟩ : ∃ kc, kc = ch := ⟨_, rfl⟩
  refine W.eq (g2 := F0 m 1 ls [.int (zI (((kc : Nat) : Int)))]) (by rw [ekc]) ?_
  rcases (show ((kc : Nat) : Int) = 45 ∨ ((kc : Nat) : Int) = 105 ∨ ((kc : Nat) : Int) = 108 ∨ ((kc : Nat) : Int) = 115 ∨ (¬ ((kc : Nat) : Int) = 45 ∧ ¬ ((kc : Nat) : Int) = 105 ∧ ¬ ((kc : Nat) : Int) = 108 ∧ ¬ ((kc : Nat) : Int) = 115) by omega) with csw1 | csw1 | csw1 | csw1 | csw1
  · skip
    rw [csw1]
    refine z_lswit (tgt := 78) hx hb (by omega) dX7_mayDo_1 (by decide) (off := 77) (by decide) (by decide) ?_
    refine lv_aload_n hx hb dX7_mayDo_78 rfl (lv_at hl 0 rfl) ?_
    refine lv_iload_n hx hb dX7_mayDo_79 rfl (lv_at hl 2 rfl) ?_
    refine z_V_i (As := [.int (zI (a))]) (rest := []) (Wr := []) ⟨hx, hb, hml, hown, hts⟩ (c_X7_isItem l D hmo ha hth hpa hsl hhe hpd hor kp pd ap od S hok a (by omega)) (cwV 1 hts gX7_mayDo_X7_isItem rfl rfl rfl (by decide +kernel) ⟨Nat.le_of_ble_eq_true rfl, Nat.le_of_ble_eq_true rfl⟩) w (q0 := 0) rfl rfl rfl [0, 1] rfl (by decide) [] rfl (by decide) (by decide) rfl hl.1 rfl (lv_room (Nat.le_of_ble_eq_true rfl)) dX7_mayDo_80 ⟨Nat.zero_le _, Nat.zero_le _⟩ (fun r W1 H locs hp w => ?_)
    obtain ⟨rfl, rfl⟩ := hp
    have w : zW D A s.heap s [(hmo, .inr (7, [.ref ha, .ref hth, .ref hpa, .int (zI (kp)), .ref hsl, .ref hhe, .ref hpd, .int (zI (pd)), .int (zI (ap)), .ref hor, .int (zI (od))])), (ha, .inl (D.2 1, 86, .inr (.inl (fNow S))))] H locs := w.sub [0, 1] (by decide) rfl
    refine z_if_eq_b (tgt := 90) hx hb dX7_mayDo_83 (by decide) (fun c83 => ?_) (fun c83 => ?_)
    · skip
      refine lv_iconst (v := zI (-1)) hx hb dX7_mayDo_90 rfl ?_
      exact z_iret hx hb hr hlocks w dX7_mayDo_91 ⟨by rw [mDo_d (by omega)]; first | rw [if_pos c83] | rw [if_neg c83], rfl⟩
    · skip
      refine lv_iconst (v := zI 0) hx hb dX7_mayDo_86 rfl ?_
      refine lv_goto (tgt := 91) hx hb dX7_mayDo_87 (by decide) ?_
      exact z_iret hx hb hr hlocks w dX7_mayDo_91 ⟨by rw [mDo_d (by omega)]; first | rw [if_pos c83] | rw [if_neg c83], rfl⟩
  · skip
    rw [csw1]
    refine z_lswit (tgt := 44) hx hb (by omega) dX7_mayDo_1 (by decide) (off := 43) (by decide) (by decide) ?_
    refine lv_aload_n hx hb dX7_mayDo_44 rfl (lv_at hl 0 rfl) ?_
    refine lv_iload_n hx hb dX7_mayDo_45 rfl (lv_at hl 2 rfl) ?_
    refine lv_iload_n hx hb dX7_mayDo_46 rfl (lv_at hl 3 rfl) ?_
    refine lv_iload hx hb dX7_mayDo_47 (lv_at hl 4 rfl) ?_
    refine lv_iload hx hb dX7_mayDo_49 (lv_at hl 5 rfl) ?_
    refine z_V_i (As := [.int (zI (a)), .int (zI (b)), .int (zI (c0)), .int (zI (d0))]) (rest := []) (Wr := []) ⟨hx, hb, hml, hown, hts⟩ (c_X7_mayCome l D hmo ha hth hpa hsl hhe hpd hor kp pd ap od S hok a b c0 d0 (by omega) (by omega) (by omega) (by omega)) (cwV 4 hts gX7_mayDo_X7_mayCome rfl rfl rfl (by decide +kernel) ⟨Nat.le_of_ble_eq_true rfl, Nat.le_of_ble_eq_true rfl⟩) w (q0 := 0) rfl rfl rfl [0, 1] rfl (by decide) [] rfl (by decide) (by decide) rfl hl.1 rfl (lv_room (Nat.le_of_ble_eq_true rfl)) dX7_mayDo_51 ⟨Nat.zero_le _, Nat.zero_le _⟩ (fun r W1 H locs hp w => ?_)
    obtain ⟨rfl, rfl⟩ := hp
    have w : zW D A s.heap s [(hmo, .inr (7, [.ref ha, .ref hth, .ref hpa, .int (zI (kp)), .ref hsl, .ref hhe, .ref hpd, .int (zI (pd)), .int (zI (ap)), .ref hor, .int (zI (od))])), (ha, .inl (D.2 1, 86, .inr (.inl (fNow S))))] H locs := w.sub [0, 1] (by decide) rfl
    exact z_iret hx hb hr hlocks w dX7_mayDo_54 ⟨by rw [mDo_i (by omega)], rfl⟩
  · skip
    rw [csw1]
    refine z_lswit (tgt := 55) hx hb (by omega) dX7_mayDo_1 (by decide) (off := 54) (by decide) (by decide) ?_
    refine lv_iload_n hx hb dX7_mayDo_55 rfl (lv_at hl 2 rfl) ?_
    refine lv_iload_n hx hb dX7_mayDo_56 rfl (lv_at hl 3 rfl) ?_
    refine z_S_i (As := [.int (zI (a)), .int (zI (b))]) (rest := []) (Wr := [(hmo, .inr (7, [.ref ha, .ref hth, .ref hpa, .int (zI (kp)), .ref hsl, .ref hhe, .ref hpd, .int (zI (pd)), .int (zI (ap)), .ref hor, .int (zI (od))])), (ha, .inl (D.2 1, 86, .inr (.inl (fNow S))))]) ⟨hx, hb, hml, hown, hts⟩ (c_X7_mayLimit l D a b (by omega) (by omega)) (va_cwS 2 hts gX7_mayDo_X7_mayLimit rfl rfl rfl (by decide +kernel) ⟨Nat.le_of_ble_eq_true rfl, Nat.le_of_ble_eq_true rfl⟩) w [] rfl (by decide) [0, 1] rfl (by decide) (by decide) rfl hl.1 rfl (lv_room (Nat.le_of_ble_eq_true rfl)) dX7_mayDo_57 ⟨Nat.zero_le _, Nat.zero_le _⟩ (fun r W1 H locs hp w => ?_)
    obtain ⟨rfl, rfl⟩ := hp
    have w : zW D A s.heap s [(hmo, .inr (7, [.ref ha, .ref hth, .ref hpa, .int (zI (kp)), .ref hsl, .ref hhe, .ref hpd, .int (zI (pd)), .int (zI (ap)), .ref hor, .int (zI (od))])), (ha, .inl (D.2 1, 86, .inr (.inl (fNow S))))] H locs := w.sub [0, 1] (by decide) rfl
    exact z_iret hx hb hr hlocks w dX7_mayDo_60 ⟨by rw [mDo_l (by omega)], rfl⟩
  · skip
    rw [csw1]
    refine z_lswit (tgt := 61) hx hb (by omega) dX7_mayDo_1 (by decide) (off := 60) (by decide) (by decide) ?_
    refine lv_iload_n hx hb dX7_mayDo_61 rfl (lv_at hl 2 rfl) ?_
    refine lv_iconst (v := zI 1) hx hb dX7_mayDo_62 rfl ?_
    refine lv_bipush (v := zI 99) hx hb dX7_mayDo_63 (by decide +kernel) ?_
    refine z_S_i (As := [.int (zI (a)), .int (zI (1)), .int (zI (99))]) (rest := []) (Wr := [(hmo, .inr (7, [.ref ha, .ref hth, .ref hpa, .int (zI (kp)), .ref hsl, .ref hhe, .ref hpd, .int (zI (pd)), .int (zI (ap)), .ref hor, .int (zI (od))])), (ha, .inl (D.2 1, 86, .inr (.inl (fNow S))))]) ⟨hx, hb, hml, hown, hts⟩ (c_X7_in l D a 1 99 (by omega) (by omega) (by omega)) (va_cwS 3 hts gX7_mayDo_X7_in rfl rfl rfl (by decide +kernel) ⟨Nat.le_of_ble_eq_true rfl, Nat.le_of_ble_eq_true rfl⟩) w [] rfl (by decide) [0, 1] rfl (by decide) (by decide) rfl hl.1 rfl (lv_room (Nat.le_of_ble_eq_true rfl)) dX7_mayDo_65 ⟨Nat.zero_le _, Nat.zero_le _⟩ (fun r W1 H locs hp w => ?_)
    obtain ⟨rfl, rfl⟩ := hp
    have w : zW D A s.heap s [(hmo, .inr (7, [.ref ha, .ref hth, .ref hpa, .int (zI (kp)), .ref hsl, .ref hhe, .ref hpd, .int (zI (pd)), .int (zI (ap)), .ref hor, .int (zI (od))])), (ha, .inl (D.2 1, 86, .inr (.inl (fNow S))))] H locs := w.sub [0, 1] (by decide) rfl
    refine z_if_eq_b (tgt := 75) hx hb dX7_mayDo_68 (by decide) (fun c68 => ?_) (fun c68 => ?_)
    · skip
      refine lv_bipush (v := zI (-2)) hx hb dX7_mayDo_75 (by decide +kernel) ?_
      exact z_iret hx hb hr hlocks w dX7_mayDo_77 ⟨by rw [mDo_s (by omega)]; first | rw [if_pos c68] | rw [if_neg c68], rfl⟩
    · skip
      refine lv_iconst (v := zI 0) hx hb dX7_mayDo_71 rfl ?_
      refine lv_goto (tgt := 77) hx hb dX7_mayDo_72 (by decide) ?_
      exact z_iret hx hb hr hlocks w dX7_mayDo_77 ⟨by rw [mDo_s (by omega)]; first | rw [if_pos c68] | rw [if_neg c68], rfl⟩
  · skip
    obtain ⟨nk1_0, nk1_1, nk1_2, nk1_3⟩ := csw1
    refine z_lswit (tgt := 92) hx hb (by omega) dX7_mayDo_1 (by decide) (off := 91) (by simp [Op.lookupswitch.offset, nk1_0, Ne.symm nk1_0, nk1_1, Ne.symm nk1_1, nk1_2, Ne.symm nk1_2, nk1_3, Ne.symm nk1_3]) (by decide) ?_
    refine lv_iconst (v := zI 0) hx hb dX7_mayDo_92 rfl ?_
    exact z_iret hx hb hr hlocks w dX7_mayDo_93 ⟨by rw [mDo_o (by omega) (by omega) (by omega) (by omega)], rfl⟩
set_option maxHeartbeats 6000000 in
set_option maxRecDepth 100000 in
theorem c_X7_does (l : Launch) (D : zD) (hmo ha hth hpa hsl hhe hpd hor : Nat) (kp pd ap od : Int) (S : Nat → Int) (B : Int) (hB : B ≤ 1900000000) (hokS : OkS B S) (Q : Nat → Int) (k ch : Nat) (hk : k ≤ 40) (hch : Q (5 * k) = ((ch : Nat) : Int)) (hQB : QB Q) (hkk : ch = 105 ∨ ch = 108 ∨ ch = 114 ∨ ch = 115 ∨ ch = 120 ∨ ch = 45) (hr2 : ch = 114 → Q (5 * k + 1) ≤ 2) : zM l yX7_does wsX7_does (zR (7)) zE0 D [.ref hmo, .int (zI (((k : Nat) : Int)))] [(hmo, .inr (7, [.ref ha, .ref hth, .ref hpa, .int (zI (kp)), .ref hsl, .ref hhe, .ref hpd, .int (zI (pd)), .int (zI (ap)), .ref hor, .int (zI (od))])), (ha, .inl (D.2 1, 86, .inr (.inl (fNow S)))), (hor, .inl (D.2 0, 205, .inl (fQ Q)))] (zQi D (fun r W1 => r = zI (zb (¬ (aOrd ch (fun j => Q (5 * k + 1 + j)) S).1 < 0)) ∧ W1 = [(hmo, .inr (7, [.ref ha, .ref hth, .ref hpa, .int (zI (kp)), .ref hsl, .ref hhe, .ref hpd, .int (zI (pd)), .int (zI (ap)), .ref hor, .int (zI (od))])), (ha, .inl (D.2 1, 86, .inr (.inl (fNow ((aOrd ch (fun j => Q (5 * k + 1 + j)) S).2))))), (hor, .inl (D.2 0, 205, .inl (fQ Q)))])) := by
  refine zM.of (cc := cX7_does) (maxL := 7) (ret := (some .boolean)) (by decide) rfl (Nat.le_of_ble_eq_true rfl) ?_
  intro p e s m below meth c A hx hb hml hown hts hr hlocks hE hnm w ls hl
  have hown : s.vm.findClass RX7 = some m.cls := hown
  have hl : lv_has ls 7 [(0, .ref hmo), (1, .int (zI (((k : Nat) : Int))))] := hl
  have f_30 : (Cond.fieldLink RX7 30 "RelaxedStepsModel" "orders" "[I").before _ s = true := hts _ (by decide +kernel)
  have inX7 : ∀ w ∈ u_ws RX7 TX7 11, w ∈ wsX7_does := by decide +kernel
  obtain ⟨hok, hokm, hokb, hsc, hbe⟩ := id hokS
  have hokp := hok
  have hn := zn_eq hok
  have h16 := zn_le hok
  have hlim := hok.2.2
  have hm1 := hokm
  unfold OkM mu at hm1
  have hbd := sBd_b hok hokm
  have hkb := hokb.1
  have hbw := sBw_b hok
  have hqq := hok.1
  have hqb1 := hQB (5 * k + 1)
  have hqb2 := hQB (5 * k + 2)
  have hqb3 := hQB (5 * k + 3)
  have hqb4 := hQB (5 * k + 4)
  have hmd9 := mDo_b S ch (Q (5 * k + 1)) (Q (5 * k + 2)) (Q (5 * k + 3)) (Q (5 * k + 4))
  have w : zW D A s.heap s [(hmo, .inr (7, [.ref ha, .ref hth, .ref hpa, .int (zI (kp)), .ref hsl, .ref hhe, .ref hpd, .int (zI (pd)), .int (zI (ap)), .ref hor, .int (zI (od))])), (ha, .inl (D.2 1, 86, .inr (.inl (fNow S)))), (hor, .inl (D.2 0, 205, .inl (fQ Q)))] s.heap [] := w
  refine lv_aload_n hx hb dX7_does_0 rfl (lv_at hl 0 rfl) ?_
  refine z_get hx hb hown hts w inX7 0 9 rfl rfl (by decide) f_30 rfl rfl dX7_does_1 ?_
  refine lv_iconst (v := zI 5) hx hb dX7_does_4 rfl ?_
  refine lv_iload_n hx hb dX7_does_5 rfl (lv_at hl 1 rfl) ?_
  refine z_imul hx hb dX7_does_6 ?_
  refine z_iald hx hb w 2 rfl (5 * k) (by omega) (by decide) (by omega) (v := (zI (Q (5 * k)))) rfl dX7_does_7 ?_
  refine W.eq (g2 := F0 m 8 ls [.int (zI (((ch : Nat) : Int)))]) (by rw [hch]) ?_
  refine lv_istore_n (lv' := [(2, .int (zI (((ch : Nat) : Int)))), (0, .ref hmo), (1, .int (zI (((k : Nat) : Int))))]) hx hb dX7_does_8 rfl hl (by decide) rfl (fun ls hl => ?_)
  refine lv_aload_n hx hb dX7_does_9 rfl (lv_at hl 1 rfl) ?_
  refine z_get hx hb hown hts w inX7 0 9 rfl rfl (by decide) f_30 rfl rfl dX7_does_10 ?_
  refine lv_iconst (v := zI 5) hx hb dX7_does_13 rfl ?_
  refine lv_iload_n hx hb dX7_does_14 rfl (lv_at hl 2 rfl) ?_
  refine z_imul hx hb dX7_does_15 ?_
  refine lv_iconst (v := zI 1) hx hb dX7_does_16 rfl ?_
  refine z_iadd hx hb dX7_does_17 ?_
  refine z_iald hx hb w 2 rfl ((5 * k) + 1) (by omega) (by decide) (by omega) (v := (zI (Q ((5 * k) + 1)))) rfl dX7_does_18 ?_
  refine lv_istore_n (lv' := [(3, .int (zI (Q ((5 * k) + 1)))), (2, .int (zI (((ch : Nat) : Int)))), (0, .ref hmo), (1, .int (zI (((k : Nat) : Int))))]) hx hb dX7_does_19 rfl hl (by decide) rfl (fun ls hl => ?_)
  refine lv_aload_n hx hb dX7_does_20 rfl (lv_at hl 2 rfl) ?_
  refine z_get hx hb hown hts w inX7 0 9 rfl rfl (by decide) f_30 rfl rfl dX7_does_21 ?_
  refine lv_iconst (v := zI 5) hx hb dX7_does_24 rfl ?_
  refine lv_iload_n hx hb dX7_does_25 rfl (lv_at hl 3 rfl) ?_
  refine z_imul hx hb dX7_does_26 ?_
  refine lv_iconst (v := zI 2) hx hb dX7_does_27 rfl ?_
  refine z_iadd hx hb dX7_does_28 ?_
  refine z_iald hx hb w 2 rfl ((5 * k) + 2) (by omega) (by decide) (by omega) (v := (zI (Q ((5 * k) + 2)))) rfl dX7_does_29 ?_
  refine lv_istore (lv' := [(4, .int (zI (Q ((5 * k) + 2)))), (3, .int (zI (Q ((5 * k) + 1)))), (2, .int (zI (((ch : Nat) : Int)))), (0, .ref hmo), (1, .int (zI (((k : Nat) : Int))))]) hx hb dX7_does_30 hl (by decide) rfl (fun ls hl => ?_)
  refine lv_aload_n hx hb dX7_does_32 rfl (lv_at hl 3 rfl) ?_
  refine z_get hx hb hown hts w inX7 0 9 rfl rfl (by decide) f_30 rfl rfl dX7_does_33 ?_
  refine lv_iconst (v := zI 5) hx hb dX7_does_36 rfl ?_
  refine lv_iload_n hx hb dX7_does_37 rfl (lv_at hl 4 rfl) ?_
  refine z_imul hx hb dX7_does_38 ?_
  refine lv_iconst (v := zI 3) hx hb dX7_does_39 rfl ?_
  refine z_iadd hx hb dX7_does_40 ?_
  refine z_iald hx hb w 2 rfl ((5 * k) + 3) (by omega) (by decide) (by omega) (v := (zI (Q ((5 * k) + 3)))) rfl dX7_does_41 ?_
  refine lv_istore (lv' := [(5, .int (zI (Q ((5 * k) + 3)))), (4, .int (zI (Q ((5 * k) + 2)))), (3, .int (zI (Q ((5 * k) + 1)))), (2, .int (zI (((ch : Nat) : Int)))), (0, .ref hmo), (1, .int (zI (((k : Nat) : Int))))]) hx hb dX7_does_42 hl (by decide) rfl (fun ls hl => ?_)
  refine lv_aload_n hx hb dX7_does_44 rfl (lv_at hl 4 rfl) ?_
  refine z_get hx hb hown hts w inX7 0 9 rfl rfl (by decide) f_30 rfl rfl dX7_does_45 ?_
  refine lv_iconst (v := zI 5) hx hb dX7_does_48 rfl ?_
  refine lv_iload_n hx hb dX7_does_49 rfl (lv_at hl 5 rfl) ?_
  refine z_imul hx hb dX7_does_50 ?_
  refine lv_iconst (v := zI 4) hx hb dX7_does_51 rfl ?_
  refine z_iadd hx hb dX7_does_52 ?_
  refine z_iald hx hb w 2 rfl ((5 * k) + 4) (by omega) (by decide) (by omega) (v := (zI (Q ((5 * k) + 4)))) rfl dX7_does_53 ?_
  refine lv_istore (lv' := [(6, .int (zI (Q ((5 * k) + 4)))), (5, .int (zI (Q ((5 * k) + 3)))), (4, .int (zI (Q ((5 * k) + 2)))), (3, .int (zI (Q ((5 * k) + 1)))), (2, .int (zI (((ch : Nat) : Int)))), (0, .ref hmo), (1, .int (zI (((k : Nat) : Int))))]) hx hb dX7_does_54 hl (by decide) rfl (fun ls hl => ?_)
  refine lv_aload_n hx hb dX7_does_56 rfl (lv_at hl 5 rfl) ?_
  refine lv_iload_n hx hb dX7_does_57 rfl (lv_at hl 4 rfl) ?_
  refine lv_iload_n hx hb dX7_does_58 rfl (lv_at hl 3 rfl) ?_
  refine lv_iload hx hb dX7_does_59 (lv_at hl 2 rfl) ?_
  refine lv_iload hx hb dX7_does_61 (lv_at hl 1 rfl) ?_
  refine lv_iload hx hb dX7_does_63 (lv_at hl 0 rfl) ?_
  refine z_V_i (As := [.int (zI (((ch : Nat) : Int))), .int (zI (Q ((5 * k) + 1))), .int (zI (Q ((5 * k) + 2))), .int (zI (Q ((5 * k) + 3))), .int (zI (Q ((5 * k) + 4)))]) (rest := []) (Wr := [(hor, .inl (D.2 0, 205, .inl (fQ Q)))]) ⟨hx, hb, hml, hown, hts⟩ (c_X7_mayDo l D hmo ha hth hpa hsl hhe hpd hor kp pd ap od S hok ch (by omega) (Q ((5 * k) + 1)) (Q ((5 * k) + 2)) (Q ((5 * k) + 3)) (Q ((5 * k) + 4)) (by omega) (by omega) (by omega) (by omega)) (cwV 5 hts gX7_does_X7_mayDo rfl rfl rfl (by decide +kernel) ⟨Nat.le_of_ble_eq_true rfl, Nat.le_of_ble_eq_true rfl⟩) w (q0 := 0) rfl rfl rfl [0, 1] rfl (by decide) [2] rfl (by decide) (by decide) rfl hl.1 rfl (lv_room (Nat.le_of_ble_eq_true rfl)) dX7_does_65 ⟨Nat.zero_le _, Nat.zero_le _⟩ (fun r W1 H locs hp w => ?_)
  obtain ⟨rfl, rfl⟩ := hp
  have w : zW D A s.heap s [(hmo, .inr (7, [.ref ha, .ref hth, .ref hpa, .int (zI (kp)), .ref hsl, .ref hhe, .ref hpd, .int (zI (pd)), .int (zI (ap)), .ref hor, .int (zI (od))])), (ha, .inl (D.2 1, 86, .inr (.inl (fNow S)))), (hor, .inl (D.2 0, 205, .inl (fQ Q)))] H locs := w.sub [1, 2, 0] (by decide) rfl
  refine z_if_eq (tgt := 73) hx hb (by omega) dX7_does_68 (by decide) (fun c68 => ?_) (fun c68 => ?_)
  · skip
    refine lv_iload_n hx hb dX7_does_73 rfl (lv_at hl 4 rfl) ?_
    obtain ⟨kc, ekc⟩ : ∃ kc, kc = ch := ⟨_, rfl⟩
    refine W.eq (g2 := F0 m 74 ls [.int (zI (((kc : Nat) : Int)))]) (by rw [ekc]) ?_
    rcases (show ((kc : Nat) : Int) = 105 ∨ ((kc : Nat) : Int) = 108 ∨ ((kc : Nat) : Int) = 114 ∨ ((kc : Nat) : Int) = 115 ∨ ((kc : Nat) : Int) = 120 ∨ (¬ ((kc : Nat) : Int) = 105 ∧ ¬ ((kc : Nat) : Int) = 108 ∧ ¬ ((kc : Nat) : Int) = 114 ∧ ¬ ((kc : Nat) : Int) = 115 ∧ ¬ ((kc : Nat) : Int) = 120) by omega) with csw74 | csw74 | csw74 | csw74 | csw74 | csw74
    · skip
      rw [csw74]
      refine z_lswit (tgt := 124) hx hb (by omega) dX7_does_74 (by decide) (off := 50) (by decide) (by decide) ?_
      have ek : ch = 105 := by omega
      obtain ⟨hi1, hi2, hi3⟩ := mCome_ok hok ((mDo_i ek).symm.trans c68)
      have hA : (aOrd ch (fun j => Q (5 * k + 1 + j)) S) = (S 0, oItem S (Q (5 * k + 1)) (Q (5 * k + 2)) (Q (5 * k + 3)) (Q (5 * k + 4))) := (by rw [ek]; exact hi1)
      refine lv_aload_n hx hb dX7_does_124 rfl (lv_at hl 5 rfl) ?_
      refine lv_iload_n hx hb dX7_does_125 rfl (lv_at hl 3 rfl) ?_
      refine lv_iload hx hb dX7_does_126 (lv_at hl 2 rfl) ?_
      refine lv_iload hx hb dX7_does_128 (lv_at hl 1 rfl) ?_
      refine lv_iload hx hb dX7_does_130 (lv_at hl 0 rfl) ?_
      refine z_V_i (As := [.int (zI (Q ((5 * k) + 1))), .int (zI (Q ((5 * k) + 2))), .int (zI (Q ((5 * k) + 3))), .int (zI (Q ((5 * k) + 4)))]) (rest := []) (Wr := [(hor, .inl (D.2 0, 205, .inl (fQ Q)))]) ⟨hx, hb, hml, hown, hts⟩ (c_X7_comes l D hmo ha hth hpa hsl hhe hpd hor kp pd ap od S hok hokm (Q ((5 * k) + 1)) (Q ((5 * k) + 2)) (Q ((5 * k) + 3)) (Q ((5 * k) + 4)) (by omega) (by omega) (by omega) (by omega) (by omega) (by omega)) (cwV 4 hts gX7_does_X7_comes rfl rfl rfl (by decide +kernel) ⟨Nat.le_of_ble_eq_true rfl, Nat.le_of_ble_eq_true rfl⟩) w (q0 := 0) rfl rfl rfl [0, 1] rfl (by decide) [2] rfl (by decide) (by decide) rfl hl.1 rfl (lv_room (Nat.le_of_ble_eq_true rfl)) dX7_does_132 ⟨Nat.zero_le _, Nat.zero_le _⟩ (fun r W1 H locs hp w => ?_)
      obtain ⟨rfl, rfl⟩ := hp
      have w : zW D A s.heap s [(hmo, .inr (7, [.ref ha, .ref hth, .ref hpa, .int (zI (kp)), .ref hsl, .ref hhe, .ref hpd, .int (zI (pd)), .int (zI (ap)), .ref hor, .int (zI (od))])), (ha, .inl (D.2 1, 86, .inr (.inl (fNow (oItem S (Q ((5 * k) + 1)) (Q ((5 * k) + 2)) (Q ((5 * k) + 3)) (Q ((5 * k) + 4))))))), (hor, .inl (D.2 0, 205, .inl (fQ Q)))] H locs := w.sub [1, 2, 0] (by decide) rfl
      refine lv_pop hx hb dX7_does_135 rfl ?_
      refine lv_goto (tgt := 184) hx hb dX7_does_136 (by decide) ?_
      refine lv_iconst (v := zI 1) hx hb dX7_does_184 rfl ?_
      exact z_zret hx hb hr hlocks w dX7_does_185 (by omega) ⟨by rw [hA]; rw [zb_t (by first | (show ¬ (S 0 < 0); omega) | (show ¬ (S (65 + (Q (5 * k + 1)).toNat) < 0); have := lim_nn hok hi2; omega) | (show ¬ (S 71 < 0); omega) | (show ¬ (sBet S (Q (5 * k + 1)).toNat < 0); have := (sBet_b S (Q (5 * k + 1)).toNat).1; omega) | (show ¬ (sUse S (sRp S) 0 < 0); have := (sUse_b hok (sRp S) (what := 0) (by omega)).1; omega) | (show ¬ (S 0 - 1 < 0); omega))], by rw [hA]⟩
    · skip
      rw [csw74]
      refine z_lswit (tgt := 139) hx hb (by omega) dX7_does_74 (by decide) (off := 65) (by decide) (by decide) ?_
      have ek : ch = 108 := by omega
      obtain ⟨hi1, hi2, hi3⟩ := mLim_ok (S := S) ((mDo_l (S := S) (c := Q (5 * k + 3)) (d := Q (5 * k + 4)) ek).symm.trans c68)
      have hA : (aOrd ch (fun j => Q (5 * k + 1 + j)) S) = (S (65 + (Q (5 * k + 1)).toNat), oLimit S (Q (5 * k + 1)).toNat (Q (5 * k + 2))) := (by rw [ek]; exact hi1)
      refine lv_aload_n hx hb dX7_does_139 rfl (lv_at hl 5 rfl) ?_
      refine lv_iload_n hx hb dX7_does_140 rfl (lv_at hl 3 rfl) ?_
      refine lv_iload hx hb dX7_does_141 (lv_at hl 2 rfl) ?_
      have hn9 : 0 ≤ Q (5 * k + 1) := (by omega)
      refine W.eq (g2 := F0 m 143 ls [.int (zI (Q ((5 * k) + 2))), .int (zI ((((Q (5 * k + 1)).toNat : Nat) : Int))), .ref hmo]) (by rw [Int.toNat_of_nonneg hn9]) ?_
      refine z_V_i (As := [.int (zI ((((Q (5 * k + 1)).toNat : Nat) : Int))), .int (zI (Q ((5 * k) + 2)))]) (rest := []) (Wr := [(hor, .inl (D.2 0, 205, .inl (fQ Q)))]) ⟨hx, hb, hml, hown, hts⟩ (c_X7_limits l D hmo ha hth hpa hsl hhe hpd hor kp pd ap od S hok hokm ((Q (5 * k + 1)).toNat) (Q ((5 * k) + 2)) (by omega) (by omega)) (cwV 2 hts gX7_does_X7_limits rfl rfl rfl (by decide +kernel) ⟨Nat.le_of_ble_eq_true rfl, Nat.le_of_ble_eq_true rfl⟩) w (q0 := 0) rfl rfl rfl [0, 1] rfl (by decide) [2] rfl (by decide) (by decide) rfl hl.1 rfl (lv_room (Nat.le_of_ble_eq_true rfl)) dX7_does_143 ⟨Nat.zero_le _, Nat.zero_le _⟩ (fun r W1 H locs hp w => ?_)
      obtain ⟨rfl, rfl⟩ := hp
      have w : zW D A s.heap s [(hmo, .inr (7, [.ref ha, .ref hth, .ref hpa, .int (zI (kp)), .ref hsl, .ref hhe, .ref hpd, .int (zI (pd)), .int (zI (ap)), .ref hor, .int (zI (od))])), (ha, .inl (D.2 1, 86, .inr (.inl (fNow (oLimit S ((Q (5 * k + 1)).toNat) (Q ((5 * k) + 2))))))), (hor, .inl (D.2 0, 205, .inl (fQ Q)))] H locs := w.sub [1, 2, 0] (by decide) rfl
      refine lv_pop hx hb dX7_does_146 rfl ?_
      refine lv_goto (tgt := 184) hx hb dX7_does_147 (by decide) ?_
      refine lv_iconst (v := zI 1) hx hb dX7_does_184 rfl ?_
      exact z_zret hx hb hr hlocks w dX7_does_185 (by omega) ⟨by rw [hA]; rw [zb_t (by first | (show ¬ (S 0 < 0); omega) | (show ¬ (S (65 + (Q (5 * k + 1)).toNat) < 0); have := lim_nn hok hi2; omega) | (show ¬ (S 71 < 0); omega) | (show ¬ (sBet S (Q (5 * k + 1)).toNat < 0); have := (sBet_b S (Q (5 * k + 1)).toNat).1; omega) | (show ¬ (sUse S (sRp S) 0 < 0); have := (sUse_b hok (sRp S) (what := 0) (by omega)).1; omega) | (show ¬ (S 0 - 1 < 0); omega))], by rw [hA]⟩
    · skip
      rw [csw74]
      refine z_lswit (tgt := 150) hx hb (by omega) dX7_does_74 (by decide) (off := 76) (by decide) (by decide) ?_
      have ek : ch = 114 := by omega
      have hr3 := hr2 ek
      have hA : (aOrd ch (fun j => Q (5 * k + 1 + j)) S) = (S 71, zu S 71 (Q (5 * k + 1))) := (by rw [ek]; exact aRule_same (r := Q (5 * k + 1)) (show 0 ≤ Q (5 * k + 1) ∧ Q (5 * k + 1) ≤ 2 by omega) hsc.2.1)
      refine lv_aload_n hx hb dX7_does_150 rfl (lv_at hl 5 rfl) ?_
      refine lv_bipush (v := zI 71) hx hb dX7_does_151 (by decide +kernel) ?_
      refine lv_iload_n hx hb dX7_does_153 rfl (lv_at hl 3 rfl) ?_
      refine z_V_i (As := [.int (zI (71)), .int (zI (Q ((5 * k) + 1)))]) (rest := []) (Wr := [(hor, .inl (D.2 0, 205, .inl (fQ Q)))]) ⟨hx, hb, hml, hown, hts⟩ (c_X7_changes l D hmo ha hth hpa hsl hhe hpd hor kp pd ap od S 71 (Q ((5 * k) + 1)) (by omega) (by omega)) (cwV 2 hts gX7_does_X7_changes rfl rfl rfl (by decide +kernel) ⟨Nat.le_of_ble_eq_true rfl, Nat.le_of_ble_eq_true rfl⟩) w (q0 := 0) rfl rfl rfl [0, 1] rfl (by decide) [2] rfl (by decide) (by decide) rfl hl.1 rfl (lv_room (Nat.le_of_ble_eq_true rfl)) dX7_does_154 ⟨Nat.zero_le _, Nat.zero_le _⟩ (fun r W1 H locs hp w => ?_)
      obtain ⟨rfl, rfl⟩ := hp
      have w : zW D A s.heap s [(hmo, .inr (7, [.ref ha, .ref hth, .ref hpa, .int (zI (kp)), .ref hsl, .ref hhe, .ref hpd, .int (zI (pd)), .int (zI (ap)), .ref hor, .int (zI (od))])), (ha, .inl (D.2 1, 86, .inr (.inl (fNow (zu S 71 (Q ((5 * k) + 1))))))), (hor, .inl (D.2 0, 205, .inl (fQ Q)))] H locs := w.sub [1, 2, 0] (by decide) rfl
      refine lv_pop hx hb dX7_does_157 rfl ?_
      refine lv_goto (tgt := 184) hx hb dX7_does_158 (by decide) ?_
      refine lv_iconst (v := zI 1) hx hb dX7_does_184 rfl ?_
      exact z_zret hx hb hr hlocks w dX7_does_185 (by omega) ⟨by rw [hA]; rw [zb_t (by first | (show ¬ (S 0 < 0); omega) | (show ¬ (S (65 + (Q (5 * k + 1)).toNat) < 0); have := lim_nn hok hi2; omega) | (show ¬ (S 71 < 0); omega) | (show ¬ (sBet S (Q (5 * k + 1)).toNat < 0); have := (sBet_b S (Q (5 * k + 1)).toNat).1; omega) | (show ¬ (sUse S (sRp S) 0 < 0); have := (sUse_b hok (sRp S) (what := 0) (by omega)).1; omega) | (show ¬ (S 0 - 1 < 0); omega))], by rw [hA]⟩
    · skip
      rw [csw74]
      refine z_lswit (tgt := 161) hx hb (by omega) dX7_does_74 (by decide) (off := 87) (by decide) (by decide) ?_
      have ek : ch = 115 := by omega
      have hi9 : 1 ≤ Q (5 * k + 1) ∧ Q (5 * k + 1) ≤ 99 := (by rw [mDo_s ek] at c68; by_cases q : 1 ≤ Q (5 * k + 1) ∧ Q (5 * k + 1) ≤ 99; exact q; exact absurd ((if_neg q).symm.trans c68) (by omega))
      have hA : (aOrd ch (fun j => Q (5 * k + 1 + j)) S) = (sBet S (Q (5 * k + 1)).toNat, sStN S (Q (5 * k + 1)).toNat) := (by rw [ek]; exact if_pos hi9)
      refine lv_aload_n hx hb dX7_does_161 rfl (lv_at hl 5 rfl) ?_
      refine lv_iload_n hx hb dX7_does_162 rfl (lv_at hl 3 rfl) ?_
      refine z_V_i (As := [.int (zI (Q ((5 * k) + 1)))]) (rest := []) (Wr := [(hor, .inl (D.2 0, 205, .inl (fQ Q)))]) ⟨hx, hb, hml, hown, hts⟩ (c_X7_stepsMany l D hmo ha hth hpa hsl hhe hpd hor kp pd ap od S B (by omega) hokS (Q ((5 * k) + 1)) (by omega)) (cwV 1 hts gX7_does_X7_stepsMany rfl rfl rfl (by decide +kernel) ⟨Nat.le_of_ble_eq_true rfl, Nat.le_of_ble_eq_true rfl⟩) w (q0 := 0) rfl rfl rfl [0, 1] rfl (by decide) [2] rfl (by decide) (by decide) rfl hl.1 rfl (lv_room (Nat.le_of_ble_eq_true rfl)) dX7_does_163 ⟨Nat.zero_le _, Nat.zero_le _⟩ (fun r W1 H locs hp w => ?_)
      obtain ⟨rfl, rfl⟩ := hp
      have w : zW D A s.heap s [(hmo, .inr (7, [.ref ha, .ref hth, .ref hpa, .int (zI (kp)), .ref hsl, .ref hhe, .ref hpd, .int (zI (pd)), .int (zI (ap)), .ref hor, .int (zI (od))])), (ha, .inl (D.2 1, 86, .inr (.inl (fNow (sStN S (Q ((5 * k) + 1)).toNat))))), (hor, .inl (D.2 0, 205, .inl (fQ Q)))] H locs := w.sub [1, 2, 0] (by decide) rfl
      refine lv_pop hx hb dX7_does_166 rfl ?_
      refine lv_goto (tgt := 184) hx hb dX7_does_167 (by decide) ?_
      refine lv_iconst (v := zI 1) hx hb dX7_does_184 rfl ?_
      exact z_zret hx hb hr hlocks w dX7_does_185 (by omega) ⟨by rw [hA]; rw [zb_t (by first | (show ¬ (S 0 < 0); omega) | (show ¬ (S (65 + (Q (5 * k + 1)).toNat) < 0); have := lim_nn hok hi2; omega) | (show ¬ (S 71 < 0); omega) | (show ¬ (sBet S (Q (5 * k + 1)).toNat < 0); have := (sBet_b S (Q (5 * k + 1)).toNat).1; omega) | (show ¬ (sUse S (sRp S) 0 < 0); have := (sUse_b hok (sRp S) (what := 0) (by omega)).1; omega) | (show ¬ (S 0 - 1 < 0); omega))], by rw [hA]⟩
    · skip
      rw [csw74]
      refine z_lswit (tgt := 170) hx hb (by omega) dX7_does_74 (by decide) (off := 96) (by decide) (by decide) ?_
      have ek : ch = 120 := by omega
      have hA : (aOrd ch (fun j => Q (5 * k + 1 + j)) S) = (sUse S (sRp S) 0, oRep S) := (by rw [ek]; rfl)
      refine lv_aload_n hx hb dX7_does_170 rfl (lv_at hl 5 rfl) ?_
      refine z_V_i (As := []) (rest := []) (Wr := [(hor, .inl (D.2 0, 205, .inl (fQ Q)))]) ⟨hx, hb, hml, hown, hts⟩ (c_X7_repairsNow l D hmo ha hth hpa hsl hhe hpd hor kp pd ap od S B (by omega) hokS) (cwV 0 hts gX7_does_X7_repairsNow rfl rfl rfl (by decide +kernel) ⟨Nat.le_of_ble_eq_true rfl, Nat.le_of_ble_eq_true rfl⟩) w (q0 := 0) rfl rfl rfl [0, 1] rfl (by decide) [2] rfl (by decide) (by decide) rfl hl.1 rfl (lv_room (Nat.le_of_ble_eq_true rfl)) dX7_does_171 ⟨Nat.zero_le _, Nat.zero_le _⟩ (fun r W1 H locs hp w => ?_)
      obtain ⟨rfl, rfl⟩ := hp
      have w : zW D A s.heap s [(hmo, .inr (7, [.ref ha, .ref hth, .ref hpa, .int (zI (kp)), .ref hsl, .ref hhe, .ref hpd, .int (zI (pd)), .int (zI (ap)), .ref hor, .int (zI (od))])), (ha, .inl (D.2 1, 86, .inr (.inl (fNow (oRep S))))), (hor, .inl (D.2 0, 205, .inl (fQ Q)))] H locs := w.sub [1, 2, 0] (by decide) rfl
      refine lv_pop hx hb dX7_does_174 rfl ?_
      refine lv_goto (tgt := 184) hx hb dX7_does_175 (by decide) ?_
      refine lv_iconst (v := zI 1) hx hb dX7_does_184 rfl ?_
      exact z_zret hx hb hr hlocks w dX7_does_185 (by omega) ⟨by rw [hA]; rw [zb_t (by first | (show ¬ (S 0 < 0); omega) | (show ¬ (S (65 + (Q (5 * k + 1)).toNat) < 0); have := lim_nn hok hi2; omega) | (show ¬ (S 71 < 0); omega) | (show ¬ (sBet S (Q (5 * k + 1)).toNat < 0); have := (sBet_b S (Q (5 * k + 1)).toNat).1; omega) | (show ¬ (sUse S (sRp S) 0 < 0); have := (sUse_b hok (sRp S) (what := 0) (by omega)).1; omega) | (show ¬ (S 0 - 1 < 0); omega))], by rw [hA]⟩
    · skip
      obtain ⟨nk74_0, nk74_1, nk74_2, nk74_3, nk74_4⟩ := csw74
      refine z_lswit (tgt := 178) hx hb (by omega) dX7_does_74 (by decide) (off := 104) (by simp [Op.lookupswitch.offset, nk74_0, Ne.symm nk74_0, nk74_1, Ne.symm nk74_1, nk74_2, Ne.symm nk74_2, nk74_3, Ne.symm nk74_3, nk74_4, Ne.symm nk74_4]) (by decide) ?_
      have ek : ch = 45 := by omega
      have hi9 : 0 ≤ Q (5 * k + 1) ∧ Q (5 * k + 1) ≤ S 0 - 1 := (by rw [mDo_d ek] at c68; by_cases q : 0 ≤ Q (5 * k + 1) ∧ Q (5 * k + 1) ≤ S 0 - 1; exact q; exact absurd ((if_neg q).symm.trans c68) (by omega))
      have hA : (aOrd ch (fun j => Q (5 * k + 1 + j)) S) = (S 0 - 1, oDrop S (Q (5 * k + 1)).toNat) := (by rw [ek]; exact if_pos hi9)
      refine lv_aload_n hx hb dX7_does_178 rfl (lv_at hl 5 rfl) ?_
      refine lv_iload_n hx hb dX7_does_179 rfl (lv_at hl 3 rfl) ?_
      have hn9 : 0 ≤ Q (5 * k + 1) := (by omega)
      refine W.eq (g2 := F0 m 180 ls [.int (zI ((((Q (5 * k + 1)).toNat : Nat) : Int))), .ref hmo]) (by rw [Int.toNat_of_nonneg hn9]) ?_
      refine z_V_i (As := [.int (zI ((((Q (5 * k + 1)).toNat : Nat) : Int)))]) (rest := []) (Wr := [(hor, .inl (D.2 0, 205, .inl (fQ Q)))]) ⟨hx, hb, hml, hown, hts⟩ (c_X7_drops l D hmo ha hth hpa hsl hhe hpd hor kp pd ap od S hok hokm ((Q (5 * k + 1)).toNat) (by omega)) (cwV 1 hts gX7_does_X7_drops rfl rfl rfl (by decide +kernel) ⟨Nat.le_of_ble_eq_true rfl, Nat.le_of_ble_eq_true rfl⟩) w (q0 := 0) rfl rfl rfl [0, 1] rfl (by decide) [2] rfl (by decide) (by decide) rfl hl.1 rfl (lv_room (Nat.le_of_ble_eq_true rfl)) dX7_does_180 ⟨Nat.zero_le _, Nat.zero_le _⟩ (fun r W1 H locs hp w => ?_)
      obtain ⟨rfl, rfl⟩ := hp
      have w : zW D A s.heap s [(hmo, .inr (7, [.ref ha, .ref hth, .ref hpa, .int (zI (kp)), .ref hsl, .ref hhe, .ref hpd, .int (zI (pd)), .int (zI (ap)), .ref hor, .int (zI (od))])), (ha, .inl (D.2 1, 86, .inr (.inl (fNow (oDrop S ((Q (5 * k + 1)).toNat)))))), (hor, .inl (D.2 0, 205, .inl (fQ Q)))] H locs := w.sub [1, 2, 0] (by decide) rfl
      refine lv_pop hx hb dX7_does_183 rfl ?_
      refine lv_iconst (v := zI 1) hx hb dX7_does_184 rfl ?_
      exact z_zret hx hb hr hlocks w dX7_does_185 (by omega) ⟨by rw [hA]; rw [zb_t (by first | (show ¬ (S 0 < 0); omega) | (show ¬ (S (65 + (Q (5 * k + 1)).toNat) < 0); have := lim_nn hok hi2; omega) | (show ¬ (S 71 < 0); omega) | (show ¬ (sBet S (Q (5 * k + 1)).toNat < 0); have := (sBet_b S (Q (5 * k + 1)).toNat).1; omega) | (show ¬ (sUse S (sRp S) 0 < 0); have := (sUse_b hok (sRp S) (what := 0) (by omega)).1; omega) | (show ¬ (S 0 - 1 < 0); omega))], by rw [hA]⟩
  · skip
    have hno := aOrd_no (L := (fun j => Q (5 * k + 1 + j))) hokS hkk c68
    refine lv_iconst (v := zI 0) hx hb dX7_does_71 rfl ?_
    exact z_zret hx hb hr hlocks w dX7_does_72 (by omega) ⟨by rw [zb_f (fun q => q hno.1)], by rw [hno.2]⟩
set_option maxHeartbeats 6000000 in
set_option maxRecDepth 100000 in
theorem c_X7_carryOut (l : Launch) (D : zD) (hmo ha hth hpa hsl hhe hpd hor c9 : Nat) (pl a od : Nat) (T : Nat → Nat) (P S Q : Nat → Int) (hc9 : c9 ≤ 6) (B : Int) (hB : B ≤ 1899990000) (hok : OkS B S) (hT : OkT T pl) (hQB : QB Q) : zM l yX7_carryOut wsX7_carryOut (zR (8)) zE0 D [.ref hmo] [(hmo, .inr (7, [.ref ha, .ref hth, .ref hpa, .int (zI (((c9 : Nat) : Int))), .ref hsl, .ref hhe, .ref hpd, .int (zI (((pl : Nat) : Int))), .int (zI (((a : Nat) : Int))), .ref hor, .int (zI (((od : Nat) : Int)))])), (ha, .inl (D.2 1, 86, .inr (.inl (fNow S)))), (hpa, .inl (D.2 1, 516, .inr (.inl (fFl 516 P)))), (hpd, .inl (D.2 0, 80, .inl (fT T))), (hor, .inl (D.2 0, 205, .inl (fQ Q)))] (zQi D (fun r W1 => r = zI (if tF T pl = -6 then (((cO T pl (sts T pl (pl + 1) 0) S).1 : Nat) : Int) else -3) ∧ ∃ a2 o2 Q2, QB Q2 ∧ a2 ≤ pl ∧ W1 = [(hmo, .inr (7, [.ref ha, .ref hth, .ref hpa, .int (zI ((((if tF T pl = -6 then min 6 (c9 + 1) else c9) : Nat) : Int))), .ref hsl, .ref hhe, .ref hpd, .int (zI ((if tF T pl = -6 then 0 else ((pl : Nat) : Int)))), .int (zI (((a2 : Nat) : Int))), .ref hor, .int (zI (((o2 : Nat) : Int)))])), (ha, .inl (D.2 1, 86, .inr (.inl (fNow (if tF T pl = -6 then (cO T pl (sts T pl (pl + 1) 0) S).2 else S))))), (hpa, .inl (D.2 1, 516, .inr (.inl (fFl 516 (if tF T pl = -6 then hP P c9 S else P))))), (hpd, .inl (D.2 0, 80, .inl (fT T))), (hor, .inl (D.2 0, 205, .inl (fQ Q2)))])) := by
  refine zM.of (cc := cX7_carryOut) (maxL := 2) (ret := (some .int)) (by decide) rfl (Nat.le_of_ble_eq_true rfl) ?_
  intro p e s m below meth c A hx hb hml hown hts hr hlocks hE hnm w ls hl
  have hown : s.vm.findClass RX7 = some m.cls := hown
  have hl : lv_has ls 2 [(0, .ref hmo)] := hl
  have f_158 : (Cond.fieldLink RX7 158 "RelaxedStepsModel" "padded" "I").before _ s = true := hts _ (by decide +kernel)
  have f_183 : (Cond.fieldLink RX7 183 "RelaxedStepsModel" "ordered" "I").before _ s = true := hts _ (by decide +kernel)
  have inX7 : ∀ w ∈ u_ws RX7 TX7 11, w ∈ wsX7_carryOut := by decide +kernel
  have hpl := hT.1
  have htb := tP_b (T := T) (pl := pl) (pl + 1) 0 (Nat.zero_le _)
  have hln := sts_len (T := T) (pl := pl) (pl + 1) 0 (Nat.zero_le _)
  have w : zW D A s.heap s [(hmo, .inr (7, [.ref ha, .ref hth, .ref hpa, .int (zI (((c9 : Nat) : Int))), .ref hsl, .ref hhe, .ref hpd, .int (zI (((pl : Nat) : Int))), .int (zI (((a : Nat) : Int))), .ref hor, .int (zI (((od : Nat) : Int)))])), (ha, .inl (D.2 1, 86, .inr (.inl (fNow S)))), (hpa, .inl (D.2 1, 516, .inr (.inl (fFl 516 P)))), (hpd, .inl (D.2 0, 80, .inl (fT T))), (hor, .inl (D.2 0, 205, .inl (fQ Q)))] s.heap [] := w
  refine lv_aload_n hx hb dX7_carryOut_0 rfl (lv_at hl 0 rfl) ?_
  refine z_V_i (As := []) (rest := []) (Wr := [(ha, .inl (D.2 1, 86, .inr (.inl (fNow S)))), (hpa, .inl (D.2 1, 516, .inr (.inl (fFl 516 P))))]) ⟨hx, hb, hml, hown, hts⟩ (c_X7_isText l D hmo ha hth hpa hsl hhe hpd hor c9 pl a od T Q hT hQB) (cwV 0 hts gX7_carryOut_X7_isText rfl rfl rfl (by decide +kernel) ⟨Nat.le_of_ble_eq_true rfl, Nat.le_of_ble_eq_true rfl⟩) w (q0 := 0) rfl rfl rfl [0, 3, 4] rfl (by decide) [1, 2] rfl (by decide) (by decide) rfl hl.1 rfl (lv_room (Nat.le_of_ble_eq_true rfl)) dX7_carryOut_1 ⟨Nat.zero_le _, Nat.zero_le _⟩ (fun r W1 H locs hp w => ?_)
  obtain ⟨rfl, o2, Q2, hQB2, hall, rfl⟩ := hp
  have w : zW D A s.heap s [(hmo, .inr (7, [.ref ha, .ref hth, .ref hpa, .int (zI (((c9 : Nat) : Int))), .ref hsl, .ref hhe, .ref hpd, .int (zI (((pl : Nat) : Int))), .int (zI ((((tP T pl (pl + 1) 0).2 : Nat) : Int))), .ref hor, .int (zI (((o2 : Nat) : Int)))])), (ha, .inl (D.2 1, 86, .inr (.inl (fNow S)))), (hpa, .inl (D.2 1, 516, .inr (.inl (fFl 516 P)))), (hpd, .inl (D.2 0, 80, .inl (fT T))), (hor, .inl (D.2 0, 205, .inl (fQ Q2)))] H locs := w.sub [2, 0, 1, 3, 4] (by decide) rfl
  refine z_if_ne_b (tgt := 10) hx hb dX7_carryOut_4 (by decide) (fun c4 => ?_) (fun c4 => ?_)
  · skip
    have htf : tF T pl = -6 := tF_t c4
    have hall2 := hall c4
    refine lv_aload_n hx hb dX7_carryOut_10 rfl (lv_at hl 0 rfl) ?_
    refine z_V_v (As := []) (rest := []) (Wr := [(hpd, .inl (D.2 0, 80, .inl (fT T))), (hor, .inl (D.2 0, 205, .inl (fQ Q2)))]) ⟨hx, hb, hml, hown, hts⟩ (c_X7_records l D hmo ha hth hpa hsl hhe hpd hor (((pl : Nat) : Int)) ((((tP T pl (pl + 1) 0).2 : Nat) : Int)) (((o2 : Nat) : Int)) c9 P S hc9) (cwV 0 hts gX7_carryOut_X7_records rfl rfl rfl (by decide +kernel) ⟨Nat.le_of_ble_eq_true rfl, Nat.le_of_ble_eq_true rfl⟩) w (q0 := 0) rfl rfl rfl [0, 1, 2] rfl (by decide) [3, 4] rfl (by decide) (by decide) rfl hl.1 rfl (lv_room (Nat.le_of_ble_eq_true rfl)) dX7_carryOut_11 ⟨Nat.zero_le _, Nat.zero_le _⟩ (fun W1 H locs hp w => ?_)
    subst hp
    have w : zW D A s.heap s [(hmo, .inr (7, [.ref ha, .ref hth, .ref hpa, .int (zI (((min 6 (c9 + 1) : Nat) : Int))), .ref hsl, .ref hhe, .ref hpd, .int (zI (((pl : Nat) : Int))), .int (zI ((((tP T pl (pl + 1) 0).2 : Nat) : Int))), .ref hor, .int (zI (((o2 : Nat) : Int)))])), (ha, .inl (D.2 1, 86, .inr (.inl (fNow S)))), (hpa, .inl (D.2 1, 516, .inr (.inl (fFl 516 (hP P c9 S))))), (hpd, .inl (D.2 0, 80, .inl (fT T))), (hor, .inl (D.2 0, 205, .inl (fQ Q2)))] H locs := w.sub [2, 3, 4, 0, 1] (by decide) rfl
    refine lv_aload_n hx hb dX7_carryOut_14 rfl (lv_at hl 0 rfl) ?_
    refine lv_iconst (v := zI 0) hx hb dX7_carryOut_15 rfl ?_
    refine z_put hx hb hown hts w inX7 tyX7 tyX7_ok nmX7 0 7 rfl rfl (by decide) f_158 rfl rfl (ty := .int) rfl rfl rfl (Nat.le_of_ble_eq_true rfl) dX7_carryOut_16 (fun H locs w => ?_)
    have w : zW D A s.heap s [(hmo, .inr (7, [.ref ha, .ref hth, .ref hpa, .int (zI (((min 6 (c9 + 1) : Nat) : Int))), .ref hsl, .ref hhe, .ref hpd, .int (zI (0)), .int (zI ((((tP T pl (pl + 1) 0).2 : Nat) : Int))), .ref hor, .int (zI (((o2 : Nat) : Int)))])), (ha, .inl (D.2 1, 86, .inr (.inl (fNow S)))), (hpa, .inl (D.2 1, 516, .inr (.inl (fFl 516 (hP P c9 S))))), (hpd, .inl (D.2 0, 80, .inl (fT T))), (hor, .inl (D.2 0, 205, .inl (fQ Q2)))] H locs := w
    refine lv_iconst (v := zI 0) hx hb dX7_carryOut_19 rfl ?_
    refine lv_istore_n (lv' := [(1, .int (zI (0))), (0, .ref hmo)]) hx hb dX7_carryOut_20 rfl hl (by decide) rfl (fun ls hl => ?_)
    have lp_21 : ∀ (n_21 : Nat) (d1 : Nat) (S1 : Nat → Int) (x1 : Int) , o2 - d1 < n_21 → (d1 ≤ o2) → ((cO T pl ((sts T pl (pl + 1) 0).drop d1) S1).1 + d1 = (cO T pl (sts T pl (pl + 1) 0) S).1 ∧ (cO T pl ((sts T pl (pl + 1) 0).drop d1) S1).2 = (cO T pl (sts T pl (pl + 1) 0) S).2) → (OkS (B + 99 * (d1 : Int)) S1) → x1 = ((d1 : Nat) : Int) → ∀ (H : Heap) (locs : List Loc) (ls : Array Slot), zW D A s.heap s [(hmo, .inr (7, [.ref ha, .ref hth, .ref hpa, .int (zI (((min 6 (c9 + 1) : Nat) : Int))), .ref hsl, .ref hhe, .ref hpd, .int (zI (0)), .int (zI ((((tP T pl (pl + 1) 0).2 : Nat) : Int))), .ref hor, .int (zI (((o2 : Nat) : Int)))])), (ha, .inl (D.2 1, 86, .inr (.inl (fNow S1)))), (hpa, .inl (D.2 1, 516, .inr (.inl (fFl 516 (hP P c9 S))))), (hpd, .inl (D.2 0, 80, .inl (fT T))), (hor, .inl (D.2 0, 205, .inl (fQ Q2)))] H locs → lv_has ls 2 [(1, .int (zI (x1))), (0, .ref hmo)] → W p l e (zR (8)) s m [.ref hmo].toArray below meth c H locs 0 0 (MQ below ((zQi D (fun r W1 => r = zI (if tF T pl = -6 then (((cO T pl (sts T pl (pl + 1) 0) S).1 : Nat) : Int) else -3) ∧ ∃ a2 o2 Q2, QB Q2 ∧ a2 ≤ pl ∧ W1 = [(hmo, .inr (7, [.ref ha, .ref hth, .ref hpa, .int (zI ((((if tF T pl = -6 then min 6 (c9 + 1) else c9) : Nat) : Int))), .ref hsl, .ref hhe, .ref hpd, .int (zI ((if tF T pl = -6 then 0 else ((pl : Nat) : Int)))), .int (zI (((a2 : Nat) : Int))), .ref hor, .int (zI (((o2 : Nat) : Int)))])), (ha, .inl (D.2 1, 86, .inr (.inl (fNow (if tF T pl = -6 then (cO T pl (sts T pl (pl + 1) 0) S).2 else S))))), (hpa, .inl (D.2 1, 516, .inr (.inl (fFl 516 (if tF T pl = -6 then hP P c9 S else P))))), (hpd, .inl (D.2 0, 80, .inl (fT T))), (hor, .inl (D.2 0, 205, .inl (fQ Q2)))])) A) [.ref hmo].toArray s 0 0 A) (F0 m 21 ls []) := by
      intro n_21
      induction n_21 with
      | zero => intro d1 S1 x1 h_; exact absurd h_ (Nat.not_lt_zero _)
      | succ n_21 ih_21 =>
        intro d1 S1 x1 hf_21 hd1 hcO hok1 ex1 H locs ls w hl
        subst ex1
        have hl : lv_has ls 2 [(1, .int (zI (((d1 : Nat) : Int)))), (0, .ref hmo)] := hl
        refine lv_iload_n hx hb dX7_carryOut_21 rfl (lv_at hl 0 rfl) ?_
        refine lv_aload_n hx hb dX7_carryOut_22 rfl (lv_at hl 1 rfl) ?_
        refine z_get hx hb hown hts w inX7 0 10 rfl rfl (by decide) f_183 rfl rfl dX7_carryOut_23 ?_
        refine z_icmp_ge (tgt := 43) hx hb (by omega) (by omega) dX7_carryOut_26 (by decide) (fun c26 => ?_) (fun c26 => ?_)
        · skip
          have hfin : d1 = (cO T pl (sts T pl (pl + 1) 0) S).1 ∧ S1 = (cO T pl (sts T pl (pl + 1) 0) S).2 := (by rw [List.drop_eq_nil_of_le (show (sts T pl (pl + 1) 0).length ≤ d1 by have := hall2.1; omega)] at hcO; exact ⟨by have h1 : 0 + d1 = (cO T pl (sts T pl (pl + 1) 0) S).1 := hcO.1; omega, hcO.2⟩)
          refine lv_iload_n hx hb dX7_carryOut_43 rfl (lv_at hl 0 rfl) ?_
          exact z_iret hx hb hr hlocks w dX7_carryOut_44 ⟨by rw [if_pos htf, hfin.1], (tP T pl (pl + 1) 0).2, o2, Q2, hQB2, htb.2, by rw [if_pos htf, if_pos htf, if_pos htf, if_pos htf, ← hfin.2]⟩
        · skip
          have hdl : d1 < (sts T pl (pl + 1) 0).length := by have := hall2.1; omega
          have hoA := hall2.2 d1 (by omega)
          have hrm := drop_g hdl
          have hcg9 : (aOrd (cA T pl ((sts T pl (pl + 1) 0).getD d1 0)) (fun j => Q2 (5 * d1 + 1 + j)) S1) = (aOrd (cA T pl ((sts T pl (pl + 1) 0).getD d1 0)) (oN T pl ((sts T pl (pl + 1) 0).getD d1 0)) S1) := aOrd_cong (fun j hj => hoA.2.1 j hj)
          have hr29 : cA T pl ((sts T pl (pl + 1) 0).getD d1 0) = 114 → Q2 (5 * d1 + 1) ≤ 2 := fun q => by have h1 := hoA.2.1 0 (by unfold oC; rw [q]; decide +kernel); have h2 := oN_114 q hoA.2.2; rw [Nat.add_zero] at h1; omega
          refine lv_aload_n hx hb dX7_carryOut_29 rfl (lv_at hl 1 rfl) ?_
          refine lv_iload_n hx hb dX7_carryOut_30 rfl (lv_at hl 0 rfl) ?_
          refine z_V_i (As := [.int (zI (((d1 : Nat) : Int)))]) (rest := []) (Wr := [(hpa, .inl (D.2 1, 516, .inr (.inl (fFl 516 (hP P c9 S))))), (hpd, .inl (D.2 0, 80, .inl (fT T)))]) ⟨hx, hb, hml, hown, hts⟩ (c_X7_does l D hmo ha hth hpa hsl hhe hpd hor ((min 6 (c9 + 1) : Nat) : Int) 0 (((tP T pl (pl + 1) 0).2 : Nat) : Int) ((o2 : Nat) : Int) S1 (B + 99 * (d1 : Int)) (by omega) hok1 Q2 d1 (cA T pl ((sts T pl (pl + 1) 0).getD d1 0)) (by omega) hoA.1 hQB2 (kI_n6 hoA.2.2.2) hr29) (cwV 1 hts gX7_carryOut_X7_does rfl rfl rfl (by decide +kernel) ⟨Nat.le_of_ble_eq_true rfl, Nat.le_of_ble_eq_true rfl⟩) w (q0 := 0) rfl rfl rfl [0, 1, 4] rfl (by decide) [2, 3] rfl (by decide) (by decide) rfl hl.1 rfl (lv_room (Nat.le_of_ble_eq_true rfl)) dX7_carryOut_31 ⟨Nat.zero_le _, Nat.zero_le _⟩ (fun r W1 H locs hp w => ?_)
          rw [hcg9] at hp; obtain ⟨rfl, rfl⟩ := hp
          have w : zW D A s.heap s [(hmo, .inr (7, [.ref ha, .ref hth, .ref hpa, .int (zI (((min 6 (c9 + 1) : Nat) : Int))), .ref hsl, .ref hhe, .ref hpd, .int (zI (0)), .int (zI ((((tP T pl (pl + 1) 0).2 : Nat) : Int))), .ref hor, .int (zI (((o2 : Nat) : Int)))])), (ha, .inl (D.2 1, 86, .inr (.inl (fNow ((aOrd (cA T pl ((sts T pl (pl + 1) 0).getD d1 0)) (oN T pl ((sts T pl (pl + 1) 0).getD d1 0)) S1).2))))), (hpa, .inl (D.2 1, 516, .inr (.inl (fFl 516 (hP P c9 S))))), (hpd, .inl (D.2 0, 80, .inl (fT T))), (hor, .inl (D.2 0, 205, .inl (fQ Q2)))] H locs := w.sub [2, 3, 0, 1, 4] (by decide) rfl
          refine z_if_eq_b (tgt := 43) hx hb dX7_carryOut_34 (by decide) (fun c34 => ?_) (fun c34 => ?_)
          · skip
            have hfin : d1 = (cO T pl (sts T pl (pl + 1) 0) S).1 ∧ (aOrd (cA T pl ((sts T pl (pl + 1) 0).getD d1 0)) (oN T pl ((sts T pl (pl + 1) 0).getD d1 0)) S1).2 = (cO T pl (sts T pl (pl + 1) 0) S).2 := (by rw [hrm, cO_no (Classical.not_not.mp c34)] at hcO; exact ⟨by have h1 : 0 + d1 = (cO T pl (sts T pl (pl + 1) 0) S).1 := hcO.1; omega, hcO.2⟩)
            refine lv_iload_n hx hb dX7_carryOut_43 rfl (lv_at hl 0 rfl) ?_
            exact z_iret hx hb hr hlocks w dX7_carryOut_44 ⟨by rw [if_pos htf, hfin.1], (tP T pl (pl + 1) 0).2, o2, Q2, hQB2, htb.2, by rw [if_pos htf, if_pos htf, if_pos htf, if_pos htf, ← hfin.2]⟩
          · skip
            refine z_iinc (lv' := [(1, .int (zI (((d1 : Nat) : Int) + 1))), (0, .ref hmo)]) hx hb dX7_carryOut_37 hl (k := 0) rfl (by decide) rfl (fun ls hl => ?_)
            refine lv_goto (tgt := 21) hx hb dX7_carryOut_40 (by decide) ?_
            rw [hrm, cO_go c34] at hcO
            have hok2 : OkS (B + 99 * ((d1 + 1 : Nat) : Int)) (aOrd (cA T pl ((sts T pl (pl + 1) 0).getD d1 0)) (oN T pl ((sts T pl (pl + 1) 0).getD d1 0)) S1).2 := OkS_le (OkS_ord hok1 _ _) (by omega)
            exact ih_21 (d1 + 1) ((aOrd (cA T pl ((sts T pl (pl + 1) 0).getD d1 0)) (oN T pl ((sts T pl (pl + 1) 0).getD d1 0)) S1).2) _ (by omega) (by omega) ⟨by have := hcO.1; simp only at this; omega, hcO.2⟩ hok2 (by first | rfl | omega) _ _ _ w (lv_sub hl [0, 1] rfl)
    exact lp_21 ((o2 - 0) + 1) 0 S _ (by omega) (by omega) ⟨rfl, rfl⟩ (OkS_le hok (by omega)) (by first | rfl | omega) _ _ _ w (lv_sub hl [0, 1] rfl)
  · skip
    have htf : ¬ tF T pl = -6 := fun q => c4 (congrArg Prod.fst (tF_is q))
    refine lv_bipush (v := zI (-3)) hx hb dX7_carryOut_7 (by decide +kernel) ?_
    exact z_iret hx hb hr hlocks w dX7_carryOut_9 ⟨by rw [if_neg htf], (tP T pl (pl + 1) 0).2, o2, Q2, hQB2, htb.2, by rw [if_neg htf, if_neg htf, if_neg htf, if_neg htf]⟩
