set_option maxHeartbeats 6000000 in
set_option maxRecDepth 100000 in
theorem c_X7_isAt (l : Launch) (D : zD) (hmo ha hth hpa hsl hhe hpd hor c9 : Nat) (pl a od : Nat) (T : Nat → Nat) (Q : Nat → Int) (hT : OkT T pl) (hapl : a ≤ pl) (lo hi9 : Int) (hlo : 1 ≤ lo ∧ lo ≤ 65535) (hhi : zB hi9) : zM l yX7_isAt wsX7_isAt (zR (1)) zE0 D [.ref hmo, .int (zI (lo)), .int (zI (hi9))] [(hmo, .inr (7, [.ref ha, .ref hth, .ref hpa, .int (zI (((c9 : Nat) : Int))), .ref hsl, .ref hhe, .ref hpd, .int (zI (((pl : Nat) : Int))), .int (zI (((a : Nat) : Int))), .ref hor, .int (zI (((od : Nat) : Int)))])), (hpd, .inl (D.2 0, 80, .inl (fT T))), (hor, .inl (D.2 0, 205, .inl (fQ Q)))] (zQi D (fun r W1 => r = zI (zb (lo ≤ ((cA T pl a : Nat) : Int) ∧ ((cA T pl a : Nat) : Int) ≤ hi9)) ∧ W1 = [(hmo, .inr (7, [.ref ha, .ref hth, .ref hpa, .int (zI (((c9 : Nat) : Int))), .ref hsl, .ref hhe, .ref hpd, .int (zI (((pl : Nat) : Int))), .int (zI (((a : Nat) : Int))), .ref hor, .int (zI (((od : Nat) : Int)))])), (hpd, .inl (D.2 0, 80, .inl (fT T))), (hor, .inl (D.2 0, 205, .inl (fQ Q)))])) := by
  refine zM.of (cc := cX7_isAt) (maxL := 3) (ret := (some .boolean)) (by decide) rfl (Nat.le_of_ble_eq_true rfl) ?_
  intro p e s m below meth c A hx hb hml hown hts hr hlocks hE hnm w ls hl
  have hown : s.vm.findClass RX7 = some m.cls := hown
  have hl : lv_has ls 3 [(0, .ref hmo), (1, .int (zI (lo))), (2, .int (zI (hi9)))] := hl
  have f_176 : (Cond.fieldLink RX7 176 "RelaxedStepsModel" "at" "I").before _ s = true := hts _ (by decide +kernel)
  have f_158 : (Cond.fieldLink RX7 158 "RelaxedStepsModel" "padded" "I").before _ s = true := hts _ (by decide +kernel)
  have f_26 : (Cond.fieldLink RX7 26 "RelaxedStepsModel" "pad" "[I").before _ s = true := hts _ (by decide +kernel)
  have inX7 : ∀ w ∈ u_ws RX7 TX7 11, w ∈ wsX7_isAt := by decide +kernel
  have hpl := hT.1
  have hca := cA_b hT a
  have w : zW D A s.heap s [(hmo, .inr (7, [.ref ha, .ref hth, .ref hpa, .int (zI (((c9 : Nat) : Int))), .ref hsl, .ref hhe, .ref hpd, .int (zI (((pl : Nat) : Int))), .int (zI (((a : Nat) : Int))), .ref hor, .int (zI (((od : Nat) : Int)))])), (hpd, .inl (D.2 0, 80, .inl (fT T))), (hor, .inl (D.2 0, 205, .inl (fQ Q)))] s.heap [] := w
  refine lv_aload_n hx hb dX7_isAt_0 rfl (lv_at hl 0 rfl) ?_
  refine z_get hx hb hown hts w inX7 0 8 rfl rfl (by decide) f_176 rfl rfl dX7_isAt_1 ?_
  refine lv_aload_n hx hb dX7_isAt_4 rfl (lv_at hl 0 rfl) ?_
  refine z_get hx hb hown hts w inX7 0 7 rfl rfl (by decide) f_158 rfl rfl dX7_isAt_5 ?_
  refine z_icmp_ge (tgt := 32) hx hb (by omega) (by omega) dX7_isAt_8 (by decide) (fun c8 => ?_) (fun c8 => ?_)
  · skip
    have eca : cA T pl a = 0 := if_neg (by omega)
    refine lv_iconst (v := zI 0) hx hb dX7_isAt_32 rfl ?_
    exact z_zret hx hb hr hlocks w dX7_isAt_33 (by omega) ⟨by first | rw [zb_t (by omega)] | rw [zb_f (by omega)], rfl⟩
  · skip
    refine lv_aload_n hx hb dX7_isAt_11 rfl (lv_at hl 0 rfl) ?_
    refine z_get hx hb hown hts w inX7 0 6 rfl rfl (by decide) f_26 rfl rfl dX7_isAt_12 ?_
    refine lv_aload_n hx hb dX7_isAt_15 rfl (lv_at hl 0 rfl) ?_
    refine z_get hx hb hown hts w inX7 0 8 rfl rfl (by decide) f_176 rfl rfl dX7_isAt_16 ?_
    have hTa := hT.2 a (by omega)
    have eca : cA T pl a = T a := cA_in (by omega)
    refine z_iald hx hb w 1 rfl a (by omega) (by decide) rfl (v := (zI (((T a : Nat) : Int)))) rfl dX7_isAt_19 ?_
    refine lv_iload_n hx hb dX7_isAt_20 rfl (lv_at hl 1 rfl) ?_
    refine lv_iload_n hx hb dX7_isAt_21 rfl (lv_at hl 2 rfl) ?_
    refine z_S_i (As := [.int (zI (((T a : Nat) : Int))), .int (zI (lo)), .int (zI (hi9))]) (rest := []) (Wr := [(hmo, .inr (7, [.ref ha, .ref hth, .ref hpa, .int (zI (((c9 : Nat) : Int))), .ref hsl, .ref hhe, .ref hpd, .int (zI (((pl : Nat) : Int))), .int (zI (((a : Nat) : Int))), .ref hor, .int (zI (((od : Nat) : Int)))])), (hpd, .inl (D.2 0, 80, .inl (fT T))), (hor, .inl (D.2 0, 205, .inl (fQ Q)))]) ⟨hx, hb, hml, hown, hts⟩ (c_X7_in l D ((T a : Nat) : Int) lo hi9 (by omega) (by omega) (by omega)) (va_cwS 3 hts gX7_isAt_X7_in rfl rfl rfl (by decide +kernel) ⟨Nat.le_of_ble_eq_true rfl, Nat.le_of_ble_eq_true rfl⟩) w [] rfl (by decide) [0, 1, 2] rfl (by decide) (by decide) rfl hl.1 rfl (lv_room (Nat.le_of_ble_eq_true rfl)) dX7_isAt_22 ⟨Nat.zero_le _, Nat.zero_le _⟩ (fun r W1 H locs hp w => ?_)
    obtain ⟨rfl, rfl⟩ := hp
    have w : zW D A s.heap s [(hmo, .inr (7, [.ref ha, .ref hth, .ref hpa, .int (zI (((c9 : Nat) : Int))), .ref hsl, .ref hhe, .ref hpd, .int (zI (((pl : Nat) : Int))), .int (zI (((a : Nat) : Int))), .ref hor, .int (zI (((od : Nat) : Int)))])), (hpd, .inl (D.2 0, 80, .inl (fT T))), (hor, .inl (D.2 0, 205, .inl (fQ Q)))] H locs := w.sub [0, 1, 2] (by decide) rfl
    refine z_if_eq_b (tgt := 32) hx hb dX7_isAt_25 (by decide) (fun c25 => ?_) (fun c25 => ?_)
    · skip
      refine lv_iconst (v := zI 0) hx hb dX7_isAt_32 rfl ?_
      exact z_zret hx hb hr hlocks w dX7_isAt_33 (by omega) ⟨by first | rw [zb_t (by omega)] | rw [zb_f (by omega)], rfl⟩
    · skip
      refine lv_iconst (v := zI 1) hx hb dX7_isAt_28 rfl ?_
      refine lv_goto (tgt := 33) hx hb dX7_isAt_29 (by decide) ?_
      exact z_zret hx hb hr hlocks w dX7_isAt_33 (by omega) ⟨by first | rw [zb_t (by omega)] | rw [zb_f (by omega)], rfl⟩
set_option maxHeartbeats 6000000 in
set_option maxRecDepth 100000 in
theorem c_X7_isSignY (l : Launch) (D : zD) (hmo ha hth hpa hsl hhe hpd hor c9 : Nat) (pl a od : Nat) (T : Nat → Nat) (Q : Nat → Int) (hT : OkT T pl) (hapl : a ≤ pl) (ch : Nat) (hch : 0 < ch ∧ ch < 65536) (hy : cA T pl a = ch) : zM l yX7_isSign wsX7_isSign (zR (2)) zE0 D [.ref hmo, .int (zI (((ch : Nat) : Int)))] [(hmo, .inr (7, [.ref ha, .ref hth, .ref hpa, .int (zI (((c9 : Nat) : Int))), .ref hsl, .ref hhe, .ref hpd, .int (zI (((pl : Nat) : Int))), .int (zI (((a : Nat) : Int))), .ref hor, .int (zI (((od : Nat) : Int)))])), (hpd, .inl (D.2 0, 80, .inl (fT T))), (hor, .inl (D.2 0, 205, .inl (fQ Q)))] (zQi D (fun r W1 => r = zI 1 ∧ W1 = [(hmo, .inr (7, [.ref ha, .ref hth, .ref hpa, .int (zI (((c9 : Nat) : Int))), .ref hsl, .ref hhe, .ref hpd, .int (zI (((pl : Nat) : Int))), .int (zI ((((a + 1) : Nat) : Int))), .ref hor, .int (zI (((od : Nat) : Int)))])), (hpd, .inl (D.2 0, 80, .inl (fT T))), (hor, .inl (D.2 0, 205, .inl (fQ Q)))])) := by
  refine zM.of (cc := cX7_isSign) (maxL := 3) (ret := (some .boolean)) (by decide) rfl (Nat.le_of_ble_eq_true rfl) ?_
  intro p e s m below meth c A hx hb hml hown hts hr hlocks hE hnm w ls hl
  have hown : s.vm.findClass RX7 = some m.cls := hown
  have hl : lv_has ls 3 [(0, .ref hmo), (1, .int (zI (((ch : Nat) : Int))))] := hl
  have f_176 : (Cond.fieldLink RX7 176 "RelaxedStepsModel" "at" "I").before _ s = true := hts _ (by decide +kernel)
  have inX7 : ∀ w ∈ u_ws RX7 TX7 11, w ∈ wsX7_isSign := by decide +kernel
  have hpl := hT.1
  have hca := cA_b hT a
  have w : zW D A s.heap s [(hmo, .inr (7, [.ref ha, .ref hth, .ref hpa, .int (zI (((c9 : Nat) : Int))), .ref hsl, .ref hhe, .ref hpd, .int (zI (((pl : Nat) : Int))), .int (zI (((a : Nat) : Int))), .ref hor, .int (zI (((od : Nat) : Int)))])), (hpd, .inl (D.2 0, 80, .inl (fT T))), (hor, .inl (D.2 0, 205, .inl (fQ Q)))] s.heap [] := w
  refine lv_aload_n hx hb dX7_isSign_0 rfl (lv_at hl 0 rfl) ?_
  refine lv_iload_n hx hb dX7_isSign_1 rfl (lv_at hl 1 rfl) ?_
  refine lv_iload_n hx hb dX7_isSign_2 rfl (lv_at hl 1 rfl) ?_
  refine z_V_i (As := [.int (zI (((ch : Nat) : Int))), .int (zI (((ch : Nat) : Int)))]) (rest := []) (Wr := []) ⟨hx, hb, hml, hown, hts⟩ (c_X7_isAt l D hmo ha hth hpa hsl hhe hpd hor c9 pl a od T Q hT (by omega) ((ch : Nat) : Int) ((ch : Nat) : Int) (by omega) (by omega)) (cwV 2 hts gX7_isSign_X7_isAt rfl rfl rfl (by decide +kernel) ⟨Nat.le_of_ble_eq_true rfl, Nat.le_of_ble_eq_true rfl⟩) w (q0 := 0) rfl rfl rfl [0, 1, 2] rfl (by decide) [] rfl (by decide) (by decide) rfl hl.1 rfl (lv_room (Nat.le_of_ble_eq_true rfl)) dX7_isSign_3 ⟨Nat.zero_le _, Nat.zero_le _⟩ (fun r W1 H locs hp w => ?_)
  obtain ⟨rfl, rfl⟩ := hp
  have w : zW D A s.heap s [(hmo, .inr (7, [.ref ha, .ref hth, .ref hpa, .int (zI (((c9 : Nat) : Int))), .ref hsl, .ref hhe, .ref hpd, .int (zI (((pl : Nat) : Int))), .int (zI (((a : Nat) : Int))), .ref hor, .int (zI (((od : Nat) : Int)))])), (hpd, .inl (D.2 0, 80, .inl (fT T))), (hor, .inl (D.2 0, 205, .inl (fQ Q)))] H locs := w.sub [0, 1, 2] (by decide) rfl
  have hca := cA_b hT a
  refine W.eq (g2 := F0 m 6 ls [.int (zI 1)]) (by rw [zb_t (by omega)]) ?_
  refine lv_istore_n (lv' := [(2, .int (zI (1))), (0, .ref hmo), (1, .int (zI (((ch : Nat) : Int))))]) hx hb dX7_isSign_6 rfl hl (by decide) rfl (fun ls hl => ?_)
  refine lv_aload_n hx hb dX7_isSign_7 rfl (lv_at hl 1 rfl) ?_
  refine lv_dup hx hb dX7_isSign_8 rfl ?_
  refine z_get hx hb hown hts w inX7 0 8 rfl rfl (by decide) f_176 rfl rfl dX7_isSign_9 ?_
  refine lv_iload_n hx hb dX7_isSign_12 rfl (lv_at hl 0 rfl) ?_
  refine z_if_eq (tgt := 20) hx hb (by omega) dX7_isSign_13 (by decide) (fun c13 => ?_) (fun c13 => ?_)
  · skip
    exact absurd c13 (by omega)
  · skip
    refine lv_iconst (v := zI 1) hx hb dX7_isSign_16 rfl ?_
    refine lv_goto (tgt := 21) hx hb dX7_isSign_17 (by decide) ?_
    refine z_iadd hx hb dX7_isSign_21 ?_
    refine z_put hx hb hown hts w inX7 tyX7 tyX7_ok nmX7 0 8 rfl rfl (by decide) f_176 rfl rfl (ty := .int) rfl rfl rfl (Nat.le_of_ble_eq_true rfl) dX7_isSign_22 (fun H locs w => ?_)
    have w : zW D A s.heap s [(hmo, .inr (7, [.ref ha, .ref hth, .ref hpa, .int (zI (((c9 : Nat) : Int))), .ref hsl, .ref hhe, .ref hpd, .int (zI (((pl : Nat) : Int))), .int (zI (((a : Nat) : Int) + 1)), .ref hor, .int (zI (((od : Nat) : Int)))])), (hpd, .inl (D.2 0, 80, .inl (fT T))), (hor, .inl (D.2 0, 205, .inl (fQ Q)))] H locs := w
    refine lv_iload_n hx hb dX7_isSign_25 rfl (lv_at hl 0 rfl) ?_
    exact z_zret hx hb hr hlocks w dX7_isSign_26 (by omega) ⟨rfl, rfl⟩
set_option maxHeartbeats 6000000 in
set_option maxRecDepth 100000 in
theorem c_X7_isSignN (l : Launch) (D : zD) (hmo ha hth hpa hsl hhe hpd hor c9 : Nat) (pl a od : Nat) (T : Nat → Nat) (Q : Nat → Int) (hT : OkT T pl) (hapl : a ≤ pl) (ch : Nat) (hch : 0 < ch ∧ ch < 65536) (hy : ¬ cA T pl a = ch) : zM l yX7_isSign wsX7_isSign (zR (2)) zE0 D [.ref hmo, .int (zI (((ch : Nat) : Int)))] [(hmo, .inr (7, [.ref ha, .ref hth, .ref hpa, .int (zI (((c9 : Nat) : Int))), .ref hsl, .ref hhe, .ref hpd, .int (zI (((pl : Nat) : Int))), .int (zI (((a : Nat) : Int))), .ref hor, .int (zI (((od : Nat) : Int)))])), (hpd, .inl (D.2 0, 80, .inl (fT T))), (hor, .inl (D.2 0, 205, .inl (fQ Q)))] (zQi D (fun r W1 => r = zI 0 ∧ W1 = [(hmo, .inr (7, [.ref ha, .ref hth, .ref hpa, .int (zI (((c9 : Nat) : Int))), .ref hsl, .ref hhe, .ref hpd, .int (zI (((pl : Nat) : Int))), .int (zI (((a : Nat) : Int))), .ref hor, .int (zI (((od : Nat) : Int)))])), (hpd, .inl (D.2 0, 80, .inl (fT T))), (hor, .inl (D.2 0, 205, .inl (fQ Q)))])) := by
  refine zM.of (cc := cX7_isSign) (maxL := 3) (ret := (some .boolean)) (by decide) rfl (Nat.le_of_ble_eq_true rfl) ?_
  intro p e s m below meth c A hx hb hml hown hts hr hlocks hE hnm w ls hl
  have hown : s.vm.findClass RX7 = some m.cls := hown
  have hl : lv_has ls 3 [(0, .ref hmo), (1, .int (zI (((ch : Nat) : Int))))] := hl
  have f_176 : (Cond.fieldLink RX7 176 "RelaxedStepsModel" "at" "I").before _ s = true := hts _ (by decide +kernel)
  have inX7 : ∀ w ∈ u_ws RX7 TX7 11, w ∈ wsX7_isSign := by decide +kernel
  have hpl := hT.1
  have hca := cA_b hT a
  have w : zW D A s.heap s [(hmo, .inr (7, [.ref ha, .ref hth, .ref hpa, .int (zI (((c9 : Nat) : Int))), .ref hsl, .ref hhe, .ref hpd, .int (zI (((pl : Nat) : Int))), .int (zI (((a : Nat) : Int))), .ref hor, .int (zI (((od : Nat) : Int)))])), (hpd, .inl (D.2 0, 80, .inl (fT T))), (hor, .inl (D.2 0, 205, .inl (fQ Q)))] s.heap [] := w
  refine lv_aload_n hx hb dX7_isSign_0 rfl (lv_at hl 0 rfl) ?_
  refine lv_iload_n hx hb dX7_isSign_1 rfl (lv_at hl 1 rfl) ?_
  refine lv_iload_n hx hb dX7_isSign_2 rfl (lv_at hl 1 rfl) ?_
  refine z_V_i (As := [.int (zI (((ch : Nat) : Int))), .int (zI (((ch : Nat) : Int)))]) (rest := []) (Wr := []) ⟨hx, hb, hml, hown, hts⟩ (c_X7_isAt l D hmo ha hth hpa hsl hhe hpd hor c9 pl a od T Q hT (by omega) ((ch : Nat) : Int) ((ch : Nat) : Int) (by omega) (by omega)) (cwV 2 hts gX7_isSign_X7_isAt rfl rfl rfl (by decide +kernel) ⟨Nat.le_of_ble_eq_true rfl, Nat.le_of_ble_eq_true rfl⟩) w (q0 := 0) rfl rfl rfl [0, 1, 2] rfl (by decide) [] rfl (by decide) (by decide) rfl hl.1 rfl (lv_room (Nat.le_of_ble_eq_true rfl)) dX7_isSign_3 ⟨Nat.zero_le _, Nat.zero_le _⟩ (fun r W1 H locs hp w => ?_)
  obtain ⟨rfl, rfl⟩ := hp
  have w : zW D A s.heap s [(hmo, .inr (7, [.ref ha, .ref hth, .ref hpa, .int (zI (((c9 : Nat) : Int))), .ref hsl, .ref hhe, .ref hpd, .int (zI (((pl : Nat) : Int))), .int (zI (((a : Nat) : Int))), .ref hor, .int (zI (((od : Nat) : Int)))])), (hpd, .inl (D.2 0, 80, .inl (fT T))), (hor, .inl (D.2 0, 205, .inl (fQ Q)))] H locs := w.sub [0, 1, 2] (by decide) rfl
  have hca := cA_b hT a
  refine W.eq (g2 := F0 m 6 ls [.int (zI 0)]) (by rw [zb_f (by omega)]) ?_
  refine lv_istore_n (lv' := [(2, .int (zI (0))), (0, .ref hmo), (1, .int (zI (((ch : Nat) : Int))))]) hx hb dX7_isSign_6 rfl hl (by decide) rfl (fun ls hl => ?_)
  refine lv_aload_n hx hb dX7_isSign_7 rfl (lv_at hl 1 rfl) ?_
  refine lv_dup hx hb dX7_isSign_8 rfl ?_
  refine z_get hx hb hown hts w inX7 0 8 rfl rfl (by decide) f_176 rfl rfl dX7_isSign_9 ?_
  refine lv_iload_n hx hb dX7_isSign_12 rfl (lv_at hl 0 rfl) ?_
  refine z_if_eq (tgt := 20) hx hb (by omega) dX7_isSign_13 (by decide) (fun c13 => ?_) (fun c13 => ?_)
  · skip
    refine lv_iconst (v := zI 0) hx hb dX7_isSign_20 rfl ?_
    refine z_iadd hx hb dX7_isSign_21 ?_
    refine W.eq (g2 := F0 m 22 ls [.int (zI (((a : Nat) : Int))), .ref hmo]) (by rw [show ((a : Nat) : Int) + 0 = ((a : Nat) : Int) by omega]) ?_
    refine z_put hx hb hown hts w inX7 tyX7 tyX7_ok nmX7 0 8 rfl rfl (by decide) f_176 rfl rfl (ty := .int) rfl rfl rfl (Nat.le_of_ble_eq_true rfl) dX7_isSign_22 (fun H locs w => ?_)
    have w : zW D A s.heap s [(hmo, .inr (7, [.ref ha, .ref hth, .ref hpa, .int (zI (((c9 : Nat) : Int))), .ref hsl, .ref hhe, .ref hpd, .int (zI (((pl : Nat) : Int))), .int (zI (((a : Nat) : Int))), .ref hor, .int (zI (((od : Nat) : Int)))])), (hpd, .inl (D.2 0, 80, .inl (fT T))), (hor, .inl (D.2 0, 205, .inl (fQ Q)))] H locs := w
    refine lv_iload_n hx hb dX7_isSign_25 rfl (lv_at hl 0 rfl) ?_
    exact z_zret hx hb hr hlocks w dX7_isSign_26 (by omega) ⟨rfl, rfl⟩
  · skip
    exact absurd c13 (by omega)
set_option maxHeartbeats 6000000 in
set_option maxRecDepth 100000 in
theorem c_X7_isDigitY (l : Launch) (D : zD) (hmo ha hth hpa hsl hhe hpd hor c9 : Nat) (pl a od : Nat) (T : Nat → Nat) (Q : Nat → Int) (hT : OkT T pl) (hapl : a ≤ pl) (hOd : od ≤ 40) (hy : 48 ≤ cA T pl a ∧ cA T pl a ≤ 50) : zM l yX7_isDigit wsX7_isDigit (zR (2)) zE0 D [.ref hmo] [(hmo, .inr (7, [.ref ha, .ref hth, .ref hpa, .int (zI (((c9 : Nat) : Int))), .ref hsl, .ref hhe, .ref hpd, .int (zI (((pl : Nat) : Int))), .int (zI (((a : Nat) : Int))), .ref hor, .int (zI (((od : Nat) : Int)))])), (hpd, .inl (D.2 0, 80, .inl (fT T))), (hor, .inl (D.2 0, 205, .inl (fQ Q)))] (zQi D (fun r W1 => r = zI 1 ∧ W1 = [(hmo, .inr (7, [.ref ha, .ref hth, .ref hpa, .int (zI (((c9 : Nat) : Int))), .ref hsl, .ref hhe, .ref hpd, .int (zI (((pl : Nat) : Int))), .int (zI ((((a + 1) : Nat) : Int))), .ref hor, .int (zI (((od : Nat) : Int)))])), (hpd, .inl (D.2 0, 80, .inl (fT T))), (hor, .inl (D.2 0, 205, .inl (fQ (zu Q (5 * od + 1) (((cA T pl a : Nat) : Int) - 48)))))])) := by
  refine zM.of (cc := cX7_isDigit) (maxL := 1) (ret := (some .boolean)) (by decide) rfl (Nat.le_of_ble_eq_true rfl) ?_
  intro p e s m below meth c A hx hb hml hown hts hr hlocks hE hnm w ls hl
  have hown : s.vm.findClass RX7 = some m.cls := hown
  have hl : lv_has ls 1 [(0, .ref hmo)] := hl
  have f_30 : (Cond.fieldLink RX7 30 "RelaxedStepsModel" "orders" "[I").before _ s = true := hts _ (by decide +kernel)
  have f_183 : (Cond.fieldLink RX7 183 "RelaxedStepsModel" "ordered" "I").before _ s = true := hts _ (by decide +kernel)
  have f_26 : (Cond.fieldLink RX7 26 "RelaxedStepsModel" "pad" "[I").before _ s = true := hts _ (by decide +kernel)
  have f_176 : (Cond.fieldLink RX7 176 "RelaxedStepsModel" "at" "I").before _ s = true := hts _ (by decide +kernel)
  have inX7 : ∀ w ∈ u_ws RX7 TX7 11, w ∈ wsX7_isDigit := by decide +kernel
  have hpl := hT.1
  have hca := cA_b hT a
  have hal := cA_lt (T := T) (pl := pl) (a := a) (by omega)
  have eca : cA T pl a = T a := cA_in (by omega)
  have w : zW D A s.heap s [(hmo, .inr (7, [.ref ha, .ref hth, .ref hpa, .int (zI (((c9 : Nat) : Int))), .ref hsl, .ref hhe, .ref hpd, .int (zI (((pl : Nat) : Int))), .int (zI (((a : Nat) : Int))), .ref hor, .int (zI (((od : Nat) : Int)))])), (hpd, .inl (D.2 0, 80, .inl (fT T))), (hor, .inl (D.2 0, 205, .inl (fQ Q)))] s.heap [] := w
  refine lv_aload_n hx hb dX7_isDigit_0 rfl (lv_at hl 0 rfl) ?_
  refine lv_bipush (v := zI 48) hx hb dX7_isDigit_1 (by decide +kernel) ?_
  refine lv_bipush (v := zI 50) hx hb dX7_isDigit_3 (by decide +kernel) ?_
  refine z_V_i (As := [.int (zI (48)), .int (zI (50))]) (rest := []) (Wr := []) ⟨hx, hb, hml, hown, hts⟩ (c_X7_isAt l D hmo ha hth hpa hsl hhe hpd hor c9 pl a od T Q hT (by omega) 48 50 (by omega) (by omega)) (cwV 2 hts gX7_isDigit_X7_isAt rfl rfl rfl (by decide +kernel) ⟨Nat.le_of_ble_eq_true rfl, Nat.le_of_ble_eq_true rfl⟩) w (q0 := 0) rfl rfl rfl [0, 1, 2] rfl (by decide) [] rfl (by decide) (by decide) rfl hl.1 rfl (lv_room (Nat.le_of_ble_eq_true rfl)) dX7_isDigit_5 ⟨Nat.zero_le _, Nat.zero_le _⟩ (fun r W1 H locs hp w => ?_)
  obtain ⟨rfl, rfl⟩ := hp
  have w : zW D A s.heap s [(hmo, .inr (7, [.ref ha, .ref hth, .ref hpa, .int (zI (((c9 : Nat) : Int))), .ref hsl, .ref hhe, .ref hpd, .int (zI (((pl : Nat) : Int))), .int (zI (((a : Nat) : Int))), .ref hor, .int (zI (((od : Nat) : Int)))])), (hpd, .inl (D.2 0, 80, .inl (fT T))), (hor, .inl (D.2 0, 205, .inl (fQ Q)))] H locs := w.sub [0, 1, 2] (by decide) rfl
  have hca := cA_b hT a
  refine z_if_ne_b (tgt := 13) hx hb dX7_isDigit_8 (by decide) (fun c8 => ?_) (fun c8 => ?_)
  · skip
    refine lv_aload_n hx hb dX7_isDigit_13 rfl (lv_at hl 0 rfl) ?_
    refine z_get hx hb hown hts w inX7 0 9 rfl rfl (by decide) f_30 rfl rfl dX7_isDigit_14 ?_
    refine lv_iconst (v := zI 5) hx hb dX7_isDigit_17 rfl ?_
    refine lv_aload_n hx hb dX7_isDigit_18 rfl (lv_at hl 0 rfl) ?_
    refine z_get hx hb hown hts w inX7 0 10 rfl rfl (by decide) f_183 rfl rfl dX7_isDigit_19 ?_
    refine z_imul hx hb dX7_isDigit_22 ?_
    refine lv_iconst (v := zI 1) hx hb dX7_isDigit_23 rfl ?_
    refine z_iadd hx hb dX7_isDigit_24 ?_
    refine lv_aload_n hx hb dX7_isDigit_25 rfl (lv_at hl 0 rfl) ?_
    refine z_get hx hb hown hts w inX7 0 6 rfl rfl (by decide) f_26 rfl rfl dX7_isDigit_26 ?_
    refine lv_aload_n hx hb dX7_isDigit_29 rfl (lv_at hl 0 rfl) ?_
    refine z_get hx hb hown hts w inX7 0 8 rfl rfl (by decide) f_176 rfl rfl dX7_isDigit_30 ?_
    refine z_iald hx hb w 1 rfl a (by omega) (by decide) rfl (v := (zI (((T a : Nat) : Int)))) rfl dX7_isDigit_33 ?_
    refine lv_bipush (v := zI 48) hx hb dX7_isDigit_34 (by decide +kernel) ?_
    refine z_isub hx hb dX7_isDigit_36 ?_
    refine z_iast hx hb w 2 rfl ((5 * od) + 1) (by omega) (by decide) (by omega) dX7_isDigit_37 (fQ (zu Q (5 * od + 1) (((T a : Nat) : Int) - 48))) (fun i hi => fQ_u) (fun H locs w => ?_)
    have w : zW D A s.heap s [(hmo, .inr (7, [.ref ha, .ref hth, .ref hpa, .int (zI (((c9 : Nat) : Int))), .ref hsl, .ref hhe, .ref hpd, .int (zI (((pl : Nat) : Int))), .int (zI (((a : Nat) : Int))), .ref hor, .int (zI (((od : Nat) : Int)))])), (hpd, .inl (D.2 0, 80, .inl (fT T))), (hor, .inl (D.2 0, 205, .inl (fQ (zu Q (5 * od + 1) (((T a : Nat) : Int) - 48)))))] H locs := w
    refine lv_aload_n hx hb dX7_isDigit_38 rfl (lv_at hl 0 rfl) ?_
    refine lv_dup hx hb dX7_isDigit_39 rfl ?_
    refine z_get hx hb hown hts w inX7 0 8 rfl rfl (by decide) f_176 rfl rfl dX7_isDigit_40 ?_
    refine lv_iconst (v := zI 1) hx hb dX7_isDigit_43 rfl ?_
    refine z_iadd hx hb dX7_isDigit_44 ?_
    refine z_put hx hb hown hts w inX7 tyX7 tyX7_ok nmX7 0 8 rfl rfl (by decide) f_176 rfl rfl (ty := .int) rfl rfl rfl (Nat.le_of_ble_eq_true rfl) dX7_isDigit_45 (fun H locs w => ?_)
    have w : zW D A s.heap s [(hmo, .inr (7, [.ref ha, .ref hth, .ref hpa, .int (zI (((c9 : Nat) : Int))), .ref hsl, .ref hhe, .ref hpd, .int (zI (((pl : Nat) : Int))), .int (zI (((a : Nat) : Int) + 1)), .ref hor, .int (zI (((od : Nat) : Int)))])), (hpd, .inl (D.2 0, 80, .inl (fT T))), (hor, .inl (D.2 0, 205, .inl (fQ (zu Q (5 * od + 1) (((T a : Nat) : Int) - 48)))))] H locs := w
    refine lv_iconst (v := zI 1) hx hb dX7_isDigit_48 rfl ?_
    exact z_zret hx hb hr hlocks w dX7_isDigit_49 (by omega) ⟨rfl, by rw [eca]; rfl⟩
  · skip
    exact absurd (show (48 : Int) ≤ ((cA T pl a : Nat) : Int) ∧ ((cA T pl a : Nat) : Int) ≤ 50 by omega) c8
set_option maxHeartbeats 6000000 in
set_option maxRecDepth 100000 in
theorem c_X7_isDigitN (l : Launch) (D : zD) (hmo ha hth hpa hsl hhe hpd hor c9 : Nat) (pl a od : Nat) (T : Nat → Nat) (Q : Nat → Int) (hT : OkT T pl) (hapl : a ≤ pl) (hy : ¬ (48 ≤ cA T pl a ∧ cA T pl a ≤ 50)) : zM l yX7_isDigit wsX7_isDigit (zR (2)) zE0 D [.ref hmo] [(hmo, .inr (7, [.ref ha, .ref hth, .ref hpa, .int (zI (((c9 : Nat) : Int))), .ref hsl, .ref hhe, .ref hpd, .int (zI (((pl : Nat) : Int))), .int (zI (((a : Nat) : Int))), .ref hor, .int (zI (((od : Nat) : Int)))])), (hpd, .inl (D.2 0, 80, .inl (fT T))), (hor, .inl (D.2 0, 205, .inl (fQ Q)))] (zQi D (fun r W1 => r = zI 0 ∧ W1 = [(hmo, .inr (7, [.ref ha, .ref hth, .ref hpa, .int (zI (((c9 : Nat) : Int))), .ref hsl, .ref hhe, .ref hpd, .int (zI (((pl : Nat) : Int))), .int (zI (((a : Nat) : Int))), .ref hor, .int (zI (((od : Nat) : Int)))])), (hpd, .inl (D.2 0, 80, .inl (fT T))), (hor, .inl (D.2 0, 205, .inl (fQ Q)))])) := by
  refine zM.of (cc := cX7_isDigit) (maxL := 1) (ret := (some .boolean)) (by decide) rfl (Nat.le_of_ble_eq_true rfl) ?_
  intro p e s m below meth c A hx hb hml hown hts hr hlocks hE hnm w ls hl
  have hown : s.vm.findClass RX7 = some m.cls := hown
  have hl : lv_has ls 1 [(0, .ref hmo)] := hl
  have hpl := hT.1
  have hca := cA_b hT a
  have w : zW D A s.heap s [(hmo, .inr (7, [.ref ha, .ref hth, .ref hpa, .int (zI (((c9 : Nat) : Int))), .ref hsl, .ref hhe, .ref hpd, .int (zI (((pl : Nat) : Int))), .int (zI (((a : Nat) : Int))), .ref hor, .int (zI (((od : Nat) : Int)))])), (hpd, .inl (D.2 0, 80, .inl (fT T))), (hor, .inl (D.2 0, 205, .inl (fQ Q)))] s.heap [] := w
  refine lv_aload_n hx hb dX7_isDigit_0 rfl (lv_at hl 0 rfl) ?_
  refine lv_bipush (v := zI 48) hx hb dX7_isDigit_1 (by decide +kernel) ?_
  refine lv_bipush (v := zI 50) hx hb dX7_isDigit_3 (by decide +kernel) ?_
  refine z_V_i (As := [.int (zI (48)), .int (zI (50))]) (rest := []) (Wr := []) ⟨hx, hb, hml, hown, hts⟩ (c_X7_isAt l D hmo ha hth hpa hsl hhe hpd hor c9 pl a od T Q hT (by omega) 48 50 (by omega) (by omega)) (cwV 2 hts gX7_isDigit_X7_isAt rfl rfl rfl (by decide +kernel) ⟨Nat.le_of_ble_eq_true rfl, Nat.le_of_ble_eq_true rfl⟩) w (q0 := 0) rfl rfl rfl [0, 1, 2] rfl (by decide) [] rfl (by decide) (by decide) rfl hl.1 rfl (lv_room (Nat.le_of_ble_eq_true rfl)) dX7_isDigit_5 ⟨Nat.zero_le _, Nat.zero_le _⟩ (fun r W1 H locs hp w => ?_)
  obtain ⟨rfl, rfl⟩ := hp
  have w : zW D A s.heap s [(hmo, .inr (7, [.ref ha, .ref hth, .ref hpa, .int (zI (((c9 : Nat) : Int))), .ref hsl, .ref hhe, .ref hpd, .int (zI (((pl : Nat) : Int))), .int (zI (((a : Nat) : Int))), .ref hor, .int (zI (((od : Nat) : Int)))])), (hpd, .inl (D.2 0, 80, .inl (fT T))), (hor, .inl (D.2 0, 205, .inl (fQ Q)))] H locs := w.sub [0, 1, 2] (by decide) rfl
  have hca := cA_b hT a
  refine z_if_ne_b (tgt := 13) hx hb dX7_isDigit_8 (by decide) (fun c8 => ?_) (fun c8 => ?_)
  · skip
    exact absurd (show 48 ≤ cA T pl a ∧ cA T pl a ≤ 50 by omega) hy
  · skip
    refine lv_iconst (v := zI 0) hx hb dX7_isDigit_11 rfl ?_
    exact z_zret hx hb hr hlocks w dX7_isDigit_12 (by omega) ⟨rfl, rfl⟩
set_option maxHeartbeats 6000000 in
set_option maxRecDepth 100000 in
theorem c_X7_isNumberN (l : Launch) (D : zD) (hmo ha hth hpa hsl hhe hpd hor c9 : Nat) (pl a od : Nat) (T : Nat → Nat) (Q : Nat → Int) (hT : OkT T pl) (hapl : a ≤ pl) (k0 : Nat) (hk0 : k0 ≤ 4) (hy : ¬ 0 ≤ dg T pl a) : zM l yX7_isNumber wsX7_isNumber (zR (2)) zE0 D [.ref hmo, .int (zI (((k0 : Nat) : Int)))] [(hmo, .inr (7, [.ref ha, .ref hth, .ref hpa, .int (zI (((c9 : Nat) : Int))), .ref hsl, .ref hhe, .ref hpd, .int (zI (((pl : Nat) : Int))), .int (zI (((a : Nat) : Int))), .ref hor, .int (zI (((od : Nat) : Int)))])), (hpd, .inl (D.2 0, 80, .inl (fT T))), (hor, .inl (D.2 0, 205, .inl (fQ Q)))] (zQi D (fun r W1 => r = zI 0 ∧ W1 = [(hmo, .inr (7, [.ref ha, .ref hth, .ref hpa, .int (zI (((c9 : Nat) : Int))), .ref hsl, .ref hhe, .ref hpd, .int (zI (((pl : Nat) : Int))), .int (zI (((a : Nat) : Int))), .ref hor, .int (zI (((od : Nat) : Int)))])), (hpd, .inl (D.2 0, 80, .inl (fT T))), (hor, .inl (D.2 0, 205, .inl (fQ Q)))])) := by
  refine zM.of (cc := cX7_isNumber) (maxL := 3) (ret := (some .boolean)) (by decide) rfl (Nat.le_of_ble_eq_true rfl) ?_
  intro p e s m below meth c A hx hb hml hown hts hr hlocks hE hnm w ls hl
  have hown : s.vm.findClass RX7 = some m.cls := hown
  have hl : lv_has ls 3 [(0, .ref hmo), (1, .int (zI (((k0 : Nat) : Int))))] := hl
  have hpl := hT.1
  have hca := cA_b hT a
  have w : zW D A s.heap s [(hmo, .inr (7, [.ref ha, .ref hth, .ref hpa, .int (zI (((c9 : Nat) : Int))), .ref hsl, .ref hhe, .ref hpd, .int (zI (((pl : Nat) : Int))), .int (zI (((a : Nat) : Int))), .ref hor, .int (zI (((od : Nat) : Int)))])), (hpd, .inl (D.2 0, 80, .inl (fT T))), (hor, .inl (D.2 0, 205, .inl (fQ Q)))] s.heap [] := w
  refine lv_aload_n hx hb dX7_isNumber_0 rfl (lv_at hl 0 rfl) ?_
  refine lv_bipush (v := zI 48) hx hb dX7_isNumber_1 (by decide +kernel) ?_
  refine lv_bipush (v := zI 57) hx hb dX7_isNumber_3 (by decide +kernel) ?_
  refine z_V_i (As := [.int (zI (48)), .int (zI (57))]) (rest := []) (Wr := []) ⟨hx, hb, hml, hown, hts⟩ (c_X7_isAt l D hmo ha hth hpa hsl hhe hpd hor c9 pl a od T Q hT (by omega) 48 57 (by omega) (by omega)) (cwV 2 hts gX7_isNumber_X7_isAt rfl rfl rfl (by decide +kernel) ⟨Nat.le_of_ble_eq_true rfl, Nat.le_of_ble_eq_true rfl⟩) w (q0 := 0) rfl rfl rfl [0, 1, 2] rfl (by decide) [] rfl (by decide) (by decide) rfl hl.1 rfl (lv_room (Nat.le_of_ble_eq_true rfl)) dX7_isNumber_5 ⟨Nat.zero_le _, Nat.zero_le _⟩ (fun r W1 H locs hp w => ?_)
  obtain ⟨rfl, rfl⟩ := hp
  have w : zW D A s.heap s [(hmo, .inr (7, [.ref ha, .ref hth, .ref hpa, .int (zI (((c9 : Nat) : Int))), .ref hsl, .ref hhe, .ref hpd, .int (zI (((pl : Nat) : Int))), .int (zI (((a : Nat) : Int))), .ref hor, .int (zI (((od : Nat) : Int)))])), (hpd, .inl (D.2 0, 80, .inl (fT T))), (hor, .inl (D.2 0, 205, .inl (fQ Q)))] H locs := w.sub [0, 1, 2] (by decide) rfl
  have hca := cA_b hT a
  refine z_if_ne_b (tgt := 13) hx hb dX7_isNumber_8 (by decide) (fun c8 => ?_) (fun c8 => ?_)
  · skip
    exact absurd (show 0 ≤ dg T pl a by rw [show dg T pl a = ((cA T pl a : Nat) : Int) - 48 from if_pos (by omega)]; omega) hy
  · skip
    refine lv_iconst (v := zI 0) hx hb dX7_isNumber_11 rfl ?_
    exact z_zret hx hb hr hlocks w dX7_isNumber_12 (by omega) ⟨rfl, rfl⟩
set_option maxHeartbeats 6000000 in
set_option maxRecDepth 100000 in
theorem c_X7_isNumberY (l : Launch) (D : zD) (hmo ha hth hpa hsl hhe hpd hor c9 : Nat) (pl a od : Nat) (T : Nat → Nat) (Q : Nat → Int) (hT : OkT T pl) (hapl : a ≤ pl) (hOd : od ≤ 40) (k0 : Nat) (hk0 : k0 ≤ 4) (hy : 0 ≤ dg T pl a) : zM l yX7_isNumber wsX7_isNumber (zR (2)) zE0 D [.ref hmo, .int (zI (((k0 : Nat) : Int)))] [(hmo, .inr (7, [.ref ha, .ref hth, .ref hpa, .int (zI (((c9 : Nat) : Int))), .ref hsl, .ref hhe, .ref hpd, .int (zI (((pl : Nat) : Int))), .int (zI (((a : Nat) : Int))), .ref hor, .int (zI (((od : Nat) : Int)))])), (hpd, .inl (D.2 0, 80, .inl (fT T))), (hor, .inl (D.2 0, 205, .inl (fQ Q)))] (zQi D (fun r W1 => r = zI 1 ∧ W1 = [(hmo, .inr (7, [.ref ha, .ref hth, .ref hpa, .int (zI (((c9 : Nat) : Int))), .ref hsl, .ref hhe, .ref hpd, .int (zI (((pl : Nat) : Int))), .int (zI (((((nIt T pl a 2).2) : Nat) : Int))), .ref hor, .int (zI (((od : Nat) : Int)))])), (hpd, .inl (D.2 0, 80, .inl (fT T))), (hor, .inl (D.2 0, 205, .inl (fQ (zu Q (5 * od + k0) (nIt T pl a 2).1))))])) := by
  refine zM.of (cc := cX7_isNumber) (maxL := 3) (ret := (some .boolean)) (by decide) rfl (Nat.le_of_ble_eq_true rfl) ?_
  intro p e s m below meth c A hx hb hml hown hts hr hlocks hE hnm w ls hl
  have hown : s.vm.findClass RX7 = some m.cls := hown
  have hl : lv_has ls 3 [(0, .ref hmo), (1, .int (zI (((k0 : Nat) : Int))))] := hl
  have f_26 : (Cond.fieldLink RX7 26 "RelaxedStepsModel" "pad" "[I").before _ s = true := hts _ (by decide +kernel)
  have f_176 : (Cond.fieldLink RX7 176 "RelaxedStepsModel" "at" "I").before _ s = true := hts _ (by decide +kernel)
  have f_30 : (Cond.fieldLink RX7 30 "RelaxedStepsModel" "orders" "[I").before _ s = true := hts _ (by decide +kernel)
  have f_183 : (Cond.fieldLink RX7 183 "RelaxedStepsModel" "ordered" "I").before _ s = true := hts _ (by decide +kernel)
  have inX7 : ∀ w ∈ u_ws RX7 TX7 11, w ∈ wsX7_isNumber := by decide +kernel
  have hpl := hT.1
  have hca := cA_b hT a
  have hal := dg_lt hy
  have eca : cA T pl a = T a := cA_in hal
  have hdi := dg_in hy
  have w : zW D A s.heap s [(hmo, .inr (7, [.ref ha, .ref hth, .ref hpa, .int (zI (((c9 : Nat) : Int))), .ref hsl, .ref hhe, .ref hpd, .int (zI (((pl : Nat) : Int))), .int (zI (((a : Nat) : Int))), .ref hor, .int (zI (((od : Nat) : Int)))])), (hpd, .inl (D.2 0, 80, .inl (fT T))), (hor, .inl (D.2 0, 205, .inl (fQ Q)))] s.heap [] := w
  refine lv_aload_n hx hb dX7_isNumber_0 rfl (lv_at hl 0 rfl) ?_
  refine lv_bipush (v := zI 48) hx hb dX7_isNumber_1 (by decide +kernel) ?_
  refine lv_bipush (v := zI 57) hx hb dX7_isNumber_3 (by decide +kernel) ?_
  refine z_V_i (As := [.int (zI (48)), .int (zI (57))]) (rest := []) (Wr := []) ⟨hx, hb, hml, hown, hts⟩ (c_X7_isAt l D hmo ha hth hpa hsl hhe hpd hor c9 pl a od T Q hT (by omega) 48 57 (by omega) (by omega)) (cwV 2 hts gX7_isNumber_X7_isAt rfl rfl rfl (by decide +kernel) ⟨Nat.le_of_ble_eq_true rfl, Nat.le_of_ble_eq_true rfl⟩) w (q0 := 0) rfl rfl rfl [0, 1, 2] rfl (by decide) [] rfl (by decide) (by decide) rfl hl.1 rfl (lv_room (Nat.le_of_ble_eq_true rfl)) dX7_isNumber_5 ⟨Nat.zero_le _, Nat.zero_le _⟩ (fun r W1 H locs hp w => ?_)
  obtain ⟨rfl, rfl⟩ := hp
  have w : zW D A s.heap s [(hmo, .inr (7, [.ref ha, .ref hth, .ref hpa, .int (zI (((c9 : Nat) : Int))), .ref hsl, .ref hhe, .ref hpd, .int (zI (((pl : Nat) : Int))), .int (zI (((a : Nat) : Int))), .ref hor, .int (zI (((od : Nat) : Int)))])), (hpd, .inl (D.2 0, 80, .inl (fT T))), (hor, .inl (D.2 0, 205, .inl (fQ Q)))] H locs := w.sub [0, 1, 2] (by decide) rfl
  have hca := cA_b hT a
  refine z_if_ne_b (tgt := 13) hx hb dX7_isNumber_8 (by decide) (fun c8 => ?_) (fun c8 => ?_)
  · skip
    refine lv_aload_n hx hb dX7_isNumber_13 rfl (lv_at hl 0 rfl) ?_
    refine z_get hx hb hown hts w inX7 0 6 rfl rfl (by decide) f_26 rfl rfl dX7_isNumber_14 ?_
    refine lv_aload_n hx hb dX7_isNumber_17 rfl (lv_at hl 0 rfl) ?_
    refine z_get hx hb hown hts w inX7 0 8 rfl rfl (by decide) f_176 rfl rfl dX7_isNumber_18 ?_
    refine z_iald hx hb w 1 rfl a (by omega) (by decide) rfl (v := (zI (((T a : Nat) : Int)))) rfl dX7_isNumber_21 ?_
    refine lv_bipush (v := zI 48) hx hb dX7_isNumber_22 (by decide +kernel) ?_
    refine z_isub hx hb dX7_isNumber_24 ?_
    refine lv_istore_n (lv' := [(2, .int (zI (((T a : Nat) : Int) - 48))), (0, .ref hmo), (1, .int (zI (((k0 : Nat) : Int))))]) hx hb dX7_isNumber_25 rfl hl (by decide) rfl (fun ls hl => ?_)
    refine lv_aload_n hx hb dX7_isNumber_26 rfl (lv_at hl 1 rfl) ?_
    refine lv_dup hx hb dX7_isNumber_27 rfl ?_
    refine z_get hx hb hown hts w inX7 0 8 rfl rfl (by decide) f_176 rfl rfl dX7_isNumber_28 ?_
    refine lv_iconst (v := zI 1) hx hb dX7_isNumber_31 rfl ?_
    refine z_iadd hx hb dX7_isNumber_32 ?_
    refine z_put hx hb hown hts w inX7 tyX7 tyX7_ok nmX7 0 8 rfl rfl (by decide) f_176 rfl rfl (ty := .int) rfl rfl rfl (Nat.le_of_ble_eq_true rfl) dX7_isNumber_33 (fun H locs w => ?_)
    have w : zW D A s.heap s [(hmo, .inr (7, [.ref ha, .ref hth, .ref hpa, .int (zI (((c9 : Nat) : Int))), .ref hsl, .ref hhe, .ref hpd, .int (zI (((pl : Nat) : Int))), .int (zI (((a : Nat) : Int) + 1)), .ref hor, .int (zI (((od : Nat) : Int)))])), (hpd, .inl (D.2 0, 80, .inl (fT T))), (hor, .inl (D.2 0, 205, .inl (fQ Q)))] H locs := w
    have lp_36 : ∀ (n_36 : Nat) (k : Nat) (x2 : Int) , 3 - k < n_36 → (k ≤ 2) → ((k = 1 → 10 ≤ (nIt T pl a 1).1) ∧ (k = 2 → 100 ≤ (nIt T pl a 2).1)) → x2 = (nIt T pl a k).1 → ∀ (H : Heap) (locs : List Loc) (ls : Array Slot), zW D A s.heap s [(hmo, .inr (7, [.ref ha, .ref hth, .ref hpa, .int (zI (((c9 : Nat) : Int))), .ref hsl, .ref hhe, .ref hpd, .int (zI (((pl : Nat) : Int))), .int (zI ((((nIt T pl a k).2 : Nat) : Int))), .ref hor, .int (zI (((od : Nat) : Int)))])), (hpd, .inl (D.2 0, 80, .inl (fT T))), (hor, .inl (D.2 0, 205, .inl (fQ Q)))] H locs → lv_has ls 3 [(2, .int (zI (x2))), (0, .ref hmo), (1, .int (zI (((k0 : Nat) : Int))))] → W p l e (zR (2)) s m [.ref hmo, .int (zI (((k0 : Nat) : Int)))].toArray below meth c H locs 0 0 (MQ below ((zQi D (fun r W1 => r = zI 1 ∧ W1 = [(hmo, .inr (7, [.ref ha, .ref hth, .ref hpa, .int (zI (((c9 : Nat) : Int))), .ref hsl, .ref hhe, .ref hpd, .int (zI (((pl : Nat) : Int))), .int (zI (((((nIt T pl a 2).2) : Nat) : Int))), .ref hor, .int (zI (((od : Nat) : Int)))])), (hpd, .inl (D.2 0, 80, .inl (fT T))), (hor, .inl (D.2 0, 205, .inl (fQ (zu Q (5 * od + k0) (nIt T pl a 2).1))))])) A) [.ref hmo, .int (zI (((k0 : Nat) : Int)))].toArray s 0 0 A) (F0 m 36 ls []) := by
      intro n_36
      induction n_36 with
      | zero => intro k x2 h_; exact absurd h_ (Nat.not_lt_zero _)
      | succ n_36 ih_36 =>
        intro k x2 hf_36 hk hkm ex2 H locs ls w hl
        subst ex2
        have hkb3 := nIt_b hy
        have hkb := nIt_bk hy hk
        have hka := nIt_at hy k
        have hdk := dg_b T pl (nIt T pl a k).2
        have hk2 : k = 0 ∨ k = 1 ∨ k = 2 := by omega
        have hl : lv_has ls 3 [(2, .int (zI ((nIt T pl a k).1))), (0, .ref hmo), (1, .int (zI (((k0 : Nat) : Int))))] := hl
        refine lv_iload_n hx hb dX7_isNumber_36 rfl (lv_at hl 0 rfl) ?_
        refine z_if_le (tgt := 88) hx hb (by omega) dX7_isNumber_37 (by decide) (fun c37 => ?_) (fun c37 => ?_)
        · skip
          have e2 : nIt T pl a 2 = nIt T pl a k := nIt_2 hk (by omega)
          refine lv_aload_n hx hb dX7_isNumber_88 rfl (lv_at hl 1 rfl) ?_
          refine z_get hx hb hown hts w inX7 0 9 rfl rfl (by decide) f_30 rfl rfl dX7_isNumber_89 ?_
          refine lv_iconst (v := zI 5) hx hb dX7_isNumber_92 rfl ?_
          refine lv_aload_n hx hb dX7_isNumber_93 rfl (lv_at hl 1 rfl) ?_
          refine z_get hx hb hown hts w inX7 0 10 rfl rfl (by decide) f_183 rfl rfl dX7_isNumber_94 ?_
          refine z_imul hx hb dX7_isNumber_97 ?_
          refine lv_iload_n hx hb dX7_isNumber_98 rfl (lv_at hl 2 rfl) ?_
          refine z_iadd hx hb dX7_isNumber_99 ?_
          refine lv_iload_n hx hb dX7_isNumber_100 rfl (lv_at hl 0 rfl) ?_
          refine z_iast hx hb w 2 rfl ((5 * od) + k0) (by omega) (by decide) (by omega) dX7_isNumber_101 (fQ (zu Q (5 * od + k0) (nIt T pl a k).1)) (fun i hi => fQ_u) (fun H locs w => ?_)
          have w : zW D A s.heap s [(hmo, .inr (7, [.ref ha, .ref hth, .ref hpa, .int (zI (((c9 : Nat) : Int))), .ref hsl, .ref hhe, .ref hpd, .int (zI (((pl : Nat) : Int))), .int (zI ((((nIt T pl a k).2 : Nat) : Int))), .ref hor, .int (zI (((od : Nat) : Int)))])), (hpd, .inl (D.2 0, 80, .inl (fT T))), (hor, .inl (D.2 0, 205, .inl (fQ (zu Q (5 * od + k0) (nIt T pl a k).1))))] H locs := w
          refine lv_iconst (v := zI 1) hx hb dX7_isNumber_102 rfl ?_
          exact z_zret hx hb hr hlocks w dX7_isNumber_103 (by omega) ⟨rfl, by rw [e2]⟩
        · skip
          refine lv_iload_n hx hb dX7_isNumber_40 rfl (lv_at hl 0 rfl) ?_
          refine lv_bipush (v := zI 100) hx hb dX7_isNumber_41 (by decide +kernel) ?_
          refine z_icmp_ge (tgt := 88) hx hb (by omega) (by omega) dX7_isNumber_43 (by decide) (fun c43 => ?_) (fun c43 => ?_)
          · skip
            have e2 : nIt T pl a 2 = nIt T pl a k := nIt_2 hk (Or.inl (by rcases hk2 with rfl | rfl | rfl <;> omega))
            refine lv_aload_n hx hb dX7_isNumber_88 rfl (lv_at hl 1 rfl) ?_
            refine z_get hx hb hown hts w inX7 0 9 rfl rfl (by decide) f_30 rfl rfl dX7_isNumber_89 ?_
            refine lv_iconst (v := zI 5) hx hb dX7_isNumber_92 rfl ?_
            refine lv_aload_n hx hb dX7_isNumber_93 rfl (lv_at hl 1 rfl) ?_
            refine z_get hx hb hown hts w inX7 0 10 rfl rfl (by decide) f_183 rfl rfl dX7_isNumber_94 ?_
            refine z_imul hx hb dX7_isNumber_97 ?_
            refine lv_iload_n hx hb dX7_isNumber_98 rfl (lv_at hl 2 rfl) ?_
            refine z_iadd hx hb dX7_isNumber_99 ?_
            refine lv_iload_n hx hb dX7_isNumber_100 rfl (lv_at hl 0 rfl) ?_
            refine z_iast hx hb w 2 rfl ((5 * od) + k0) (by omega) (by decide) (by omega) dX7_isNumber_101 (fQ (zu Q (5 * od + k0) (nIt T pl a k).1)) (fun i hi => fQ_u) (fun H locs w => ?_)
            have w : zW D A s.heap s [(hmo, .inr (7, [.ref ha, .ref hth, .ref hpa, .int (zI (((c9 : Nat) : Int))), .ref hsl, .ref hhe, .ref hpd, .int (zI (((pl : Nat) : Int))), .int (zI ((((nIt T pl a k).2 : Nat) : Int))), .ref hor, .int (zI (((od : Nat) : Int)))])), (hpd, .inl (D.2 0, 80, .inl (fT T))), (hor, .inl (D.2 0, 205, .inl (fQ (zu Q (5 * od + k0) (nIt T pl a k).1))))] H locs := w
            refine lv_iconst (v := zI 1) hx hb dX7_isNumber_102 rfl ?_
            exact z_zret hx hb hr hlocks w dX7_isNumber_103 (by omega) ⟨rfl, by rw [e2]⟩
          · skip
            refine lv_aload_n hx hb dX7_isNumber_46 rfl (lv_at hl 1 rfl) ?_
            refine lv_bipush (v := zI 48) hx hb dX7_isNumber_47 (by decide +kernel) ?_
            refine lv_bipush (v := zI 57) hx hb dX7_isNumber_49 (by decide +kernel) ?_
            refine z_V_i (As := [.int (zI (48)), .int (zI (57))]) (rest := []) (Wr := []) ⟨hx, hb, hml, hown, hts⟩ (c_X7_isAt l D hmo ha hth hpa hsl hhe hpd hor c9 pl ((nIt T pl a k).2) od T Q hT (by omega) 48 57 (by omega) (by omega)) (cwV 2 hts gX7_isNumber_X7_isAt rfl rfl rfl (by decide +kernel) ⟨Nat.le_of_ble_eq_true rfl, Nat.le_of_ble_eq_true rfl⟩) w (q0 := 0) rfl rfl rfl [0, 1, 2] rfl (by decide) [] rfl (by decide) (by decide) rfl hl.1 rfl (lv_room (Nat.le_of_ble_eq_true rfl)) dX7_isNumber_51 ⟨Nat.zero_le _, Nat.zero_le _⟩ (fun r W1 H locs hp w => ?_)
            obtain ⟨rfl, rfl⟩ := hp
            have w : zW D A s.heap s [(hmo, .inr (7, [.ref ha, .ref hth, .ref hpa, .int (zI (((c9 : Nat) : Int))), .ref hsl, .ref hhe, .ref hpd, .int (zI (((pl : Nat) : Int))), .int (zI ((((nIt T pl a k).2 : Nat) : Int))), .ref hor, .int (zI (((od : Nat) : Int)))])), (hpd, .inl (D.2 0, 80, .inl (fT T))), (hor, .inl (D.2 0, 205, .inl (fQ Q)))] H locs := w.sub [0, 1, 2] (by decide) rfl
            have hca := cA_b hT ((nIt T pl a k).2)
            refine z_if_eq_b (tgt := 88) hx hb dX7_isNumber_54 (by decide) (fun c54 => ?_) (fun c54 => ?_)
            · skip
              have e2 : nIt T pl a 2 = nIt T pl a k := nIt_2 hk (Or.inr (fun q => by have := (dg_in q.2).1; omega))
              refine lv_aload_n hx hb dX7_isNumber_88 rfl (lv_at hl 1 rfl) ?_
              refine z_get hx hb hown hts w inX7 0 9 rfl rfl (by decide) f_30 rfl rfl dX7_isNumber_89 ?_
              refine lv_iconst (v := zI 5) hx hb dX7_isNumber_92 rfl ?_
              refine lv_aload_n hx hb dX7_isNumber_93 rfl (lv_at hl 1 rfl) ?_
              refine z_get hx hb hown hts w inX7 0 10 rfl rfl (by decide) f_183 rfl rfl dX7_isNumber_94 ?_
              refine z_imul hx hb dX7_isNumber_97 ?_
              refine lv_iload_n hx hb dX7_isNumber_98 rfl (lv_at hl 2 rfl) ?_
              refine z_iadd hx hb dX7_isNumber_99 ?_
              refine lv_iload_n hx hb dX7_isNumber_100 rfl (lv_at hl 0 rfl) ?_
              refine z_iast hx hb w 2 rfl ((5 * od) + k0) (by omega) (by decide) (by omega) dX7_isNumber_101 (fQ (zu Q (5 * od + k0) (nIt T pl a k).1)) (fun i hi => fQ_u) (fun H locs w => ?_)
              have w : zW D A s.heap s [(hmo, .inr (7, [.ref ha, .ref hth, .ref hpa, .int (zI (((c9 : Nat) : Int))), .ref hsl, .ref hhe, .ref hpd, .int (zI (((pl : Nat) : Int))), .int (zI ((((nIt T pl a k).2 : Nat) : Int))), .ref hor, .int (zI (((od : Nat) : Int)))])), (hpd, .inl (D.2 0, 80, .inl (fT T))), (hor, .inl (D.2 0, 205, .inl (fQ (zu Q (5 * od + k0) (nIt T pl a k).1))))] H locs := w
              refine lv_iconst (v := zI 1) hx hb dX7_isNumber_102 rfl ?_
              exact z_zret hx hb hr hlocks w dX7_isNumber_103 (by omega) ⟨rfl, by rw [e2]⟩
            · skip
              have hde9 : dg T pl (nIt T pl a k).2 = ((cA T pl (nIt T pl a k).2 : Nat) : Int) - 48 := if_pos (by omega)
              have hdg9 : 0 ≤ dg T pl (nIt T pl a k).2 := by omega
              have hal9 := dg_lt hdg9
              have ecn : cA T pl (nIt T pl a k).2 = T (nIt T pl a k).2 := cA_in hal9
              refine lv_bipush (v := zI 10) hx hb dX7_isNumber_57 (by decide +kernel) ?_
              refine lv_iload_n hx hb dX7_isNumber_59 rfl (lv_at hl 0 rfl) ?_
              refine z_imul hx hb dX7_isNumber_60 ?_
              refine lv_aload_n hx hb dX7_isNumber_61 rfl (lv_at hl 1 rfl) ?_
              refine z_get hx hb hown hts w inX7 0 6 rfl rfl (by decide) f_26 rfl rfl dX7_isNumber_62 ?_
              refine lv_aload_n hx hb dX7_isNumber_65 rfl (lv_at hl 1 rfl) ?_
              refine z_get hx hb hown hts w inX7 0 8 rfl rfl (by decide) f_176 rfl rfl dX7_isNumber_66 ?_
              refine z_iald hx hb w 1 rfl ((nIt T pl a k).2) (by omega) (by decide) rfl (v := (zI (((T ((nIt T pl a k).2) : Nat) : Int)))) rfl dX7_isNumber_69 ?_
              refine z_iadd hx hb dX7_isNumber_70 ?_
              refine lv_bipush (v := zI 48) hx hb dX7_isNumber_71 (by decide +kernel) ?_
              refine z_isub hx hb dX7_isNumber_73 ?_
              refine lv_istore_n (lv' := [(2, .int (zI (((10 * ((nIt T pl a k).1)) + ((T ((nIt T pl a k).2) : Nat) : Int)) - 48))), (0, .ref hmo), (1, .int (zI (((k0 : Nat) : Int))))]) hx hb dX7_isNumber_74 rfl hl (by decide) rfl (fun ls hl => ?_)
              refine lv_aload_n hx hb dX7_isNumber_75 rfl (lv_at hl 1 rfl) ?_
              refine lv_dup hx hb dX7_isNumber_76 rfl ?_
              refine z_get hx hb hown hts w inX7 0 8 rfl rfl (by decide) f_176 rfl rfl dX7_isNumber_77 ?_
              refine lv_iconst (v := zI 1) hx hb dX7_isNumber_80 rfl ?_
              refine z_iadd hx hb dX7_isNumber_81 ?_
              refine z_put hx hb hown hts w inX7 tyX7 tyX7_ok nmX7 0 8 rfl rfl (by decide) f_176 rfl rfl (ty := .int) rfl rfl rfl (Nat.le_of_ble_eq_true rfl) dX7_isNumber_82 (fun H locs w => ?_)
              have w : zW D A s.heap s [(hmo, .inr (7, [.ref ha, .ref hth, .ref hpa, .int (zI (((c9 : Nat) : Int))), .ref hsl, .ref hhe, .ref hpd, .int (zI (((pl : Nat) : Int))), .int (zI ((((nIt T pl a k).2 : Nat) : Int) + 1)), .ref hor, .int (zI (((od : Nat) : Int)))])), (hpd, .inl (D.2 0, 80, .inl (fT T))), (hor, .inl (D.2 0, 205, .inl (fQ Q)))] H locs := w
              refine lv_goto (tgt := 36) hx hb dX7_isNumber_85 (by decide) ?_
              have hlt2 : k ≤ 1 := by (rcases hk2 with rfl | rfl | rfl <;> omega)
              have ego := nIt_go (k := k) c37 hdg9
              have hkm2 : (k + 1 = 1 → 10 ≤ (nIt T pl a 1).1) ∧ (k + 1 = 2 → 100 ≤ (nIt T pl a 2).1) := by (rcases (show k = 0 ∨ k = 1 by omega) with rfl | rfl) <;> (refine ⟨fun q => ?_, fun q => ?_⟩ <;> first | omega | (rw [ego]; show _ ≤ 10 * _ + _; omega))
              exact ih_36 (k + 1) _ (by omega) (by omega) hkm2 (by rw [ego, hde9, ecn]; show _ = 10 * _ + (_ - 48); omega) _ _ _ (w.to (by rw [ego]; rfl)) (lv_sub hl [0, 1, 2] rfl)
    exact lp_36 ((3 - 0) + 1) 0 _ (by omega) (by omega) (by omega) (by show _ = dg T pl a; rw [(dg_in hy).2, eca]) _ _ _ (w.to rfl) (lv_sub hl [0, 1, 2] rfl)
  · skip
    exact absurd (show (48 : Int) ≤ ((cA T pl a : Nat) : Int) ∧ ((cA T pl a : Nat) : Int) ≤ 57 by omega) c8
