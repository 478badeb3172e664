set_option maxHeartbeats 6000000 in
set_option maxRecDepth 100000 in
theorem c_X7_isOrder (l : Launch) (D : zD) (hmo ha hth hpa hsl hhe hpd hor c9 : Nat) (pl a od : Nat) (T : Nat → Nat) (Q : Nat → Int) (hT : OkT T pl) (hapl : a ≤ pl) (hOd : od ≤ 40) : zM l yX7_isOrder wsX7_isOrder (zR (3)) zE0 D [.ref hmo] [(hmo, .inr (7, [.ref ha, .ref hth, .ref hpa, .int (zI (((c9 : Nat) : Int))), .ref hsl, .ref hhe, .ref hpd, .int (zI (((pl : Nat) : Int))), .int (zI (((a : Nat) : Int))), .ref hor, .int (zI (((od : Nat) : Int)))])), (hpd, .inl (D.2 0, 80, .inl (fT T))), (hor, .inl (D.2 0, 205, .inl (fQ Q)))] (zQi D (fun r W1 => r = zI (zb (oOk T pl a)) ∧ W1 = [(hmo, .inr (7, [.ref ha, .ref hth, .ref hpa, .int (zI (((c9 : Nat) : Int))), .ref hsl, .ref hhe, .ref hpd, .int (zI (((pl : Nat) : Int))), .int (zI ((((oE T pl a) : Nat) : Int))), .ref hor, .int (zI (((od : Nat) : Int)))])), (hpd, .inl (D.2 0, 80, .inl (fT T))), (hor, .inl (D.2 0, 205, .inl (fQ (rQ5 T pl a od Q))))])) := by
  refine zM.of (cc := cX7_isOrder) (maxL := 2) (ret := (some .boolean)) (by decide) rfl (Nat.le_of_ble_eq_true rfl) ?_
  intro p e s m below meth c A hx hb hml hown hts hr hlocks hE hnm w ls hl
  have hown : s.vm.findClass RX7 = some m.cls := hown
  have hl : lv_has ls 2 [(0, .ref hmo)] := hl
  have f_176 : (Cond.fieldLink RX7 176 "RelaxedStepsModel" "at" "I").before _ s = true := hts _ (by decide +kernel)
  have f_158 : (Cond.fieldLink RX7 158 "RelaxedStepsModel" "padded" "I").before _ s = true := hts _ (by decide +kernel)
  have f_30 : (Cond.fieldLink RX7 30 "RelaxedStepsModel" "orders" "[I").before _ s = true := hts _ (by decide +kernel)
  have f_183 : (Cond.fieldLink RX7 183 "RelaxedStepsModel" "ordered" "I").before _ s = true := hts _ (by decide +kernel)
  have f_26 : (Cond.fieldLink RX7 26 "RelaxedStepsModel" "pad" "[I").before _ s = true := hts _ (by decide +kernel)
  have inX7 : ∀ w ∈ u_ws RX7 TX7 11, w ∈ wsX7_isOrder := by decide +kernel
  have hpl := hT.1
  have w : zW D A s.heap s [(hmo, .inr (7, [.ref ha, .ref hth, .ref hpa, .int (zI (((c9 : Nat) : Int))), .ref hsl, .ref hhe, .ref hpd, .int (zI (((pl : Nat) : Int))), .int (zI (((a : Nat) : Int))), .ref hor, .int (zI (((od : Nat) : Int)))])), (hpd, .inl (D.2 0, 80, .inl (fT T))), (hor, .inl (D.2 0, 205, .inl (fQ Q)))] s.heap [] := w
  refine lv_aload_n hx hb dX7_isOrder_0 rfl (lv_at hl 0 rfl) ?_
  refine z_get hx hb hown hts w inX7 0 8 rfl rfl (by decide) f_176 rfl rfl dX7_isOrder_1 ?_
  refine lv_aload_n hx hb dX7_isOrder_4 rfl (lv_at hl 0 rfl) ?_
  refine z_get hx hb hown hts w inX7 0 7 rfl rfl (by decide) f_158 rfl rfl dX7_isOrder_5 ?_
  refine z_icmp_ge (tgt := 23) hx hb (by omega) (by omega) dX7_isOrder_8 (by decide) (fun c8 => ?_) (fun c8 => ?_)
  · skip
    have ec0 : cA T pl a = 0 := if_neg (by omega)
    refine lv_iconst (v := zI 0) hx hb dX7_isOrder_23 rfl ?_
    refine lv_istore_n (lv' := [(1, .int (zI (0))), (0, .ref hmo)]) hx hb dX7_isOrder_24 rfl hl (by decide) rfl (fun ls hl => ?_)
    refine lv_aload_n hx hb dX7_isOrder_25 rfl (lv_at hl 1 rfl) ?_
    refine z_get hx hb hown hts w inX7 0 9 rfl rfl (by decide) f_30 rfl rfl dX7_isOrder_26 ?_
    refine lv_iconst (v := zI 5) hx hb dX7_isOrder_29 rfl ?_
    refine lv_aload_n hx hb dX7_isOrder_30 rfl (lv_at hl 1 rfl) ?_
    refine z_get hx hb hown hts w inX7 0 10 rfl rfl (by decide) f_183 rfl rfl dX7_isOrder_31 ?_
    refine z_imul hx hb dX7_isOrder_34 ?_
    refine lv_iload_n hx hb dX7_isOrder_35 rfl (lv_at hl 0 rfl) ?_
    refine z_iast hx hb w 2 rfl (5 * od) (by omega) (by decide) (by omega) dX7_isOrder_36 (fQ (zu Q (5 * od) (0))) (fun i hi => fQ_u) (fun H locs w => ?_)
    have w : zW D A s.heap s [(hmo, .inr (7, [.ref ha, .ref hth, .ref hpa, .int (zI (((c9 : Nat) : Int))), .ref hsl, .ref hhe, .ref hpd, .int (zI (((pl : Nat) : Int))), .int (zI (((a : Nat) : Int))), .ref hor, .int (zI (((od : Nat) : Int)))])), (hpd, .inl (D.2 0, 80, .inl (fT T))), (hor, .inl (D.2 0, 205, .inl (fQ (zu Q (5 * od) (0)))))] H locs := w
    refine lv_iload_n hx hb dX7_isOrder_37 rfl (lv_at hl 0 rfl) ?_
    refine z_lswit (tgt := 254) hx hb (by omega) dX7_isOrder_38 (by decide) (off := 216) (by decide) (by decide) ?_
    refine lv_iconst (v := zI 0) hx hb dX7_isOrder_254 rfl ?_
    exact z_zret hx hb hr hlocks w dX7_isOrder_255 (by omega) (by obtain ⟨y1, y2, y3⟩ := oR_z (T := T) (pl := pl) (a := a) (rd := 5 * od + 1) (Q := zu Q (5 * od) ((cA T pl a : Nat) : Int)) (by rw [ec0]; rfl); unfold rQ5; rw [zb_f y1, y2, y3, ec0]; exact ⟨rfl, rfl⟩)
  · skip
    have eca : cA T pl a = T a := cA_in (by omega)
    have hTa := hT.2 a (by omega)
    refine lv_aload_n hx hb dX7_isOrder_11 rfl (lv_at hl 0 rfl) ?_
    refine z_get hx hb hown hts w inX7 0 6 rfl rfl (by decide) f_26 rfl rfl dX7_isOrder_12 ?_
    refine lv_aload_n hx hb dX7_isOrder_15 rfl (lv_at hl 0 rfl) ?_
    refine z_get hx hb hown hts w inX7 0 8 rfl rfl (by decide) f_176 rfl rfl dX7_isOrder_16 ?_
    refine z_iald hx hb w 1 rfl a (by omega) (by decide) rfl (v := (zI (((T a : Nat) : Int)))) rfl dX7_isOrder_19 ?_
    refine lv_goto (tgt := 24) hx hb dX7_isOrder_20 (by decide) ?_
    obtain ⟨ch, ech⟩ : ∃ ch, ch = cA T pl a := ⟨_, rfl⟩
    refine W.eq (g2 := F0 m 24 ls [.int (zI (((ch : Nat) : Int)))]) (by rw [ech, eca]) ?_
    obtain ⟨R9, eR0⟩ : ∃ R9, R9 = rP T pl (shL (kI ch)) a (5 * od + 1) (zu Q (5 * od) ((ch : Nat) : Int)) := ⟨_, rfl⟩
    refine lv_istore_n (lv' := [(1, .int (zI (((ch : Nat) : Int)))), (0, .ref hmo)]) hx hb dX7_isOrder_24 rfl hl (by decide) rfl (fun ls hl => ?_)
    refine lv_aload_n hx hb dX7_isOrder_25 rfl (lv_at hl 1 rfl) ?_
    refine z_get hx hb hown hts w inX7 0 9 rfl rfl (by decide) f_30 rfl rfl dX7_isOrder_26 ?_
    refine lv_iconst (v := zI 5) hx hb dX7_isOrder_29 rfl ?_
    refine lv_aload_n hx hb dX7_isOrder_30 rfl (lv_at hl 1 rfl) ?_
    refine z_get hx hb hown hts w inX7 0 10 rfl rfl (by decide) f_183 rfl rfl dX7_isOrder_31 ?_
    refine z_imul hx hb dX7_isOrder_34 ?_
    refine lv_iload_n hx hb dX7_isOrder_35 rfl (lv_at hl 0 rfl) ?_
    refine z_iast hx hb w 2 rfl (5 * od) (by omega) (by decide) (by omega) dX7_isOrder_36 (fQ (zu Q (5 * od) (((ch : Nat) : Int)))) (fun i hi => fQ_u) (fun H locs w => ?_)
    have w : zW D A s.heap s [(hmo, .inr (7, [.ref ha, .ref hth, .ref hpa, .int (zI (((c9 : Nat) : Int))), .ref hsl, .ref hhe, .ref hpd, .int (zI (((pl : Nat) : Int))), .int (zI (((a : Nat) : Int))), .ref hor, .int (zI (((od : Nat) : Int)))])), (hpd, .inl (D.2 0, 80, .inl (fT T))), (hor, .inl (D.2 0, 205, .inl (fQ (zu Q (5 * od) (((ch : Nat) : Int))))))] H locs := w
    refine lv_iload_n hx hb dX7_isOrder_37 rfl (lv_at hl 0 rfl) ?_
    rcases (show ((ch : Nat) : Int) = 45 ∨ ((ch : Nat) : Int) = 105 ∨ ((ch : Nat) : Int) = 108 ∨ ((ch : Nat) : Int) = 114 ∨ ((ch : Nat) : Int) = 115 ∨ ((ch : Nat) : Int) = 120 ∨ (¬ ((ch : Nat) : Int) = 45 ∧ ¬ ((ch : Nat) : Int) = 105 ∧ ¬ ((ch : Nat) : Int) = 108 ∧ ¬ ((ch : Nat) : Int) = 114 ∧ ¬ ((ch : Nat) : Int) = 115 ∧ ¬ ((ch : Nat) : Int) = 120) by omega) with csw38 | csw38 | csw38 | csw38 | csw38 | csw38 | csw38
    · skip
      rw [csw38]
      refine z_lswit (tgt := 226) hx hb (by omega) dX7_isOrder_38 (by decide) (off := 188) (by decide) (by decide) ?_
      have ek : ch = 45 := by omega
      have eR := eR0
      rw [show shL (kI ch) = [45, 78] by rw [ek]; decide +kernel, rP_S (c := 45) (by decide) (by decide) (by omega)] at eR
      have hal9 := cA_lt (T := T) (pl := pl) (a := a) (by omega)
      refine lv_aload_n hx hb dX7_isOrder_226 rfl (lv_at hl 1 rfl) ?_
      refine lv_dup hx hb dX7_isOrder_227 rfl ?_
      refine z_get hx hb hown hts w inX7 0 8 rfl rfl (by decide) f_176 rfl rfl dX7_isOrder_228 ?_
      refine lv_iconst (v := zI 1) hx hb dX7_isOrder_231 rfl ?_
      refine z_iadd hx hb dX7_isOrder_232 ?_
      refine z_put hx hb hown hts w inX7 tyX7 tyX7_ok nmX7 0 8 rfl rfl (by decide) f_176 rfl rfl (ty := .int) rfl rfl rfl (Nat.le_of_ble_eq_true rfl) dX7_isOrder_233 (fun H locs w => ?_)
      have w : zW D A s.heap s [(hmo, .inr (7, [.ref ha, .ref hth, .ref hpa, .int (zI (((c9 : Nat) : Int))), .ref hsl, .ref hhe, .ref hpd, .int (zI (((pl : Nat) : Int))), .int (zI (((a : Nat) : Int) + 1)), .ref hor, .int (zI (((od : Nat) : Int)))])), (hpd, .inl (D.2 0, 80, .inl (fT T))), (hor, .inl (D.2 0, 205, .inl (fQ (zu Q (5 * od) (((ch : Nat) : Int))))))] H locs := w
      refine lv_aload_n hx hb dX7_isOrder_236 rfl (lv_at hl 1 rfl) ?_
      refine lv_iconst (v := zI 1) hx hb dX7_isOrder_237 rfl ?_
      by_cases hP238 : 0 ≤ dg T pl (a + 1)
      · skip
        rw [rP_N (c := 78) rfl hP238] at eR
        have hni238 := nIt_at hP238 2
        refine z_V_i (As := [.int (zI (1))]) (rest := []) (Wr := []) ⟨hx, hb, hml, hown, hts⟩ (c_X7_isNumberY l D hmo ha hth hpa hsl hhe hpd hor c9 pl (a + 1) od T (zu Q (5 * od) (((ch : Nat) : Int))) hT (by omega) (by omega) 1 (by omega) hP238) (cwV 1 hts gX7_isOrder_X7_isNumber rfl rfl rfl (by decide +kernel) ⟨Nat.le_of_ble_eq_true rfl, Nat.le_of_ble_eq_true rfl⟩) w (q0 := 0) rfl rfl rfl [0, 1, 2] rfl (by decide) [] rfl (by decide) (by decide) rfl hl.1 rfl (lv_room (Nat.le_of_ble_eq_true rfl)) dX7_isOrder_238 ⟨Nat.zero_le _, Nat.zero_le _⟩ (fun r W1 H locs hp w => ?_)
        obtain ⟨rfl, rfl⟩ := hp
        have w : zW D A s.heap s [(hmo, .inr (7, [.ref ha, .ref hth, .ref hpa, .int (zI (((c9 : Nat) : Int))), .ref hsl, .ref hhe, .ref hpd, .int (zI (((pl : Nat) : Int))), .int (zI ((((nIt T pl (a + 1) 2).2 : Nat) : Int))), .ref hor, .int (zI (((od : Nat) : Int)))])), (hpd, .inl (D.2 0, 80, .inl (fT T))), (hor, .inl (D.2 0, 205, .inl (fQ (zu (zu Q (5 * od) (((ch : Nat) : Int))) (5 * od + 1) (nIt T pl (a + 1) 2).1))))] H locs := w.sub [0, 1, 2] (by decide) rfl
        exact z_zret hx hb hr hlocks w dX7_isOrder_241 (by omega) (by subst ech; rw [rP_0] at eR; obtain ⟨y1, y2, y3⟩ := oR_y eR0 eR (by rw [ek]; decide); unfold rQ5; rw [zb_t y1, y2, y3]; exact ⟨rfl, rfl⟩)
      · skip
        rw [rP_Nn (c := 78) rfl hP238] at eR
        refine z_V_i (As := [.int (zI (1))]) (rest := []) (Wr := []) ⟨hx, hb, hml, hown, hts⟩ (c_X7_isNumberN l D hmo ha hth hpa hsl hhe hpd hor c9 pl (a + 1) od T (zu Q (5 * od) (((ch : Nat) : Int))) hT (by omega) 1 (by omega) hP238) (cwV 1 hts gX7_isOrder_X7_isNumber rfl rfl rfl (by decide +kernel) ⟨Nat.le_of_ble_eq_true rfl, Nat.le_of_ble_eq_true rfl⟩) w (q0 := 0) rfl rfl rfl [0, 1, 2] rfl (by decide) [] rfl (by decide) (by decide) rfl hl.1 rfl (lv_room (Nat.le_of_ble_eq_true rfl)) dX7_isOrder_238 ⟨Nat.zero_le _, Nat.zero_le _⟩ (fun r W1 H locs hp w => ?_)
        obtain ⟨rfl, rfl⟩ := hp
        have w : zW D A s.heap s [(hmo, .inr (7, [.ref ha, .ref hth, .ref hpa, .int (zI (((c9 : Nat) : Int))), .ref hsl, .ref hhe, .ref hpd, .int (zI (((pl : Nat) : Int))), .int (zI (((a : Nat) : Int) + 1)), .ref hor, .int (zI (((od : Nat) : Int)))])), (hpd, .inl (D.2 0, 80, .inl (fT T))), (hor, .inl (D.2 0, 205, .inl (fQ (zu Q (5 * od) (((ch : Nat) : Int))))))] H locs := w.sub [0, 1, 2] (by decide) rfl
        exact z_zret hx hb hr hlocks w dX7_isOrder_241 (by omega) (by subst ech; obtain ⟨y1, y2, y3⟩ := oR_n eR0 eR; unfold rQ5; rw [zb_f y1, y2, y3]; exact ⟨rfl, rfl⟩)
    · skip
      rw [csw38]
      refine z_lswit (tgt := 96) hx hb (by omega) dX7_isOrder_38 (by decide) (off := 58) (by decide) (by decide) ?_
      have ek : ch = 105 := by omega
      have eR := eR0
      rw [show shL (kI ch) = [105, 78, 58, 78, 44, 78, 44, 78] by rw [ek]; decide +kernel, rP_S (c := 105) (by decide) (by decide) (by omega)] at eR
      have hal9 := cA_lt (T := T) (pl := pl) (a := a) (by omega)
      refine lv_aload_n hx hb dX7_isOrder_96 rfl (lv_at hl 1 rfl) ?_
      refine lv_dup hx hb dX7_isOrder_97 rfl ?_
      refine z_get hx hb hown hts w inX7 0 8 rfl rfl (by decide) f_176 rfl rfl dX7_isOrder_98 ?_
      refine lv_iconst (v := zI 1) hx hb dX7_isOrder_101 rfl ?_
      refine z_iadd hx hb dX7_isOrder_102 ?_
      refine z_put hx hb hown hts w inX7 tyX7 tyX7_ok nmX7 0 8 rfl rfl (by decide) f_176 rfl rfl (ty := .int) rfl rfl rfl (Nat.le_of_ble_eq_true rfl) dX7_isOrder_103 (fun H locs w => ?_)
      have w : zW D A s.heap s [(hmo, .inr (7, [.ref ha, .ref hth, .ref hpa, .int (zI (((c9 : Nat) : Int))), .ref hsl, .ref hhe, .ref hpd, .int (zI (((pl : Nat) : Int))), .int (zI (((a : Nat) : Int) + 1)), .ref hor, .int (zI (((od : Nat) : Int)))])), (hpd, .inl (D.2 0, 80, .inl (fT T))), (hor, .inl (D.2 0, 205, .inl (fQ (zu Q (5 * od) (((ch : Nat) : Int))))))] H locs := w
      refine lv_aload_n hx hb dX7_isOrder_106 rfl (lv_at hl 1 rfl) ?_
      refine lv_iconst (v := zI 1) hx hb dX7_isOrder_107 rfl ?_
      by_cases hP108 : 0 ≤ dg T pl (a + 1)
      · skip
        rw [rP_N (c := 78) rfl hP108] at eR
        have hni108 := nIt_at hP108 2
        refine z_V_i (As := [.int (zI (1))]) (rest := []) (Wr := []) ⟨hx, hb, hml, hown, hts⟩ (c_X7_isNumberY l D hmo ha hth hpa hsl hhe hpd hor c9 pl (a + 1) od T (zu Q (5 * od) (((ch : Nat) : Int))) hT (by omega) (by omega) 1 (by omega) hP108) (cwV 1 hts gX7_isOrder_X7_isNumber rfl rfl rfl (by decide +kernel) ⟨Nat.le_of_ble_eq_true rfl, Nat.le_of_ble_eq_true rfl⟩) w (q0 := 0) rfl rfl rfl [0, 1, 2] rfl (by decide) [] rfl (by decide) (by decide) rfl hl.1 rfl (lv_room (Nat.le_of_ble_eq_true rfl)) dX7_isOrder_108 ⟨Nat.zero_le _, Nat.zero_le _⟩ (fun r W1 H locs hp w => ?_)
        obtain ⟨rfl, rfl⟩ := hp
        have w : zW D A s.heap s [(hmo, .inr (7, [.ref ha, .ref hth, .ref hpa, .int (zI (((c9 : Nat) : Int))), .ref hsl, .ref hhe, .ref hpd, .int (zI (((pl : Nat) : Int))), .int (zI ((((nIt T pl (a + 1) 2).2 : Nat) : Int))), .ref hor, .int (zI (((od : Nat) : Int)))])), (hpd, .inl (D.2 0, 80, .inl (fT T))), (hor, .inl (D.2 0, 205, .inl (fQ (zu (zu Q (5 * od) (((ch : Nat) : Int))) (5 * od + 1) (nIt T pl (a + 1) 2).1))))] H locs := w.sub [0, 1, 2] (by decide) rfl
        refine z_if_eq (tgt := 169) hx hb (by omega) dX7_isOrder_111 (by decide) (fun c111 => ?_) (fun c111 => ?_)
        · skip
          exact absurd c111 (by omega)
        · skip
          refine lv_aload_n hx hb dX7_isOrder_114 rfl (lv_at hl 1 rfl) ?_
          refine lv_bipush (v := zI 58) hx hb dX7_isOrder_115 (by decide +kernel) ?_
          by_cases hP117 : cA T pl ((nIt T pl (a + 1) 2).2) = 58
          · skip
            rw [rP_S (c := 58) (by decide) (by decide) hP117] at eR
            have hal117 := cA_lt (T := T) (pl := pl) (a := (nIt T pl (a + 1) 2).2) (by omega)
            refine z_V_i (As := [.int (zI (58))]) (rest := []) (Wr := []) ⟨hx, hb, hml, hown, hts⟩ (c_X7_isSignY l D hmo ha hth hpa hsl hhe hpd hor c9 pl ((nIt T pl (a + 1) 2).2) od T (zu (zu Q (5 * od) (((ch : Nat) : Int))) (5 * od + 1) (nIt T pl (a + 1) 2).1) hT (by omega) 58 (by omega) hP117) (cwV 1 hts gX7_isOrder_X7_isSign rfl rfl rfl (by decide +kernel) ⟨Nat.le_of_ble_eq_true rfl, Nat.le_of_ble_eq_true rfl⟩) w (q0 := 0) rfl rfl rfl [0, 1, 2] rfl (by decide) [] rfl (by decide) (by decide) rfl hl.1 rfl (lv_room (Nat.le_of_ble_eq_true rfl)) dX7_isOrder_117 ⟨Nat.zero_le _, Nat.zero_le _⟩ (fun r W1 H locs hp w => ?_)
            obtain ⟨rfl, rfl⟩ := hp
            have w : zW D A s.heap s [(hmo, .inr (7, [.ref ha, .ref hth, .ref hpa, .int (zI (((c9 : Nat) : Int))), .ref hsl, .ref hhe, .ref hpd, .int (zI (((pl : Nat) : Int))), .int (zI (((((nIt T pl (a + 1) 2).2) + 1 : Nat) : Int))), .ref hor, .int (zI (((od : Nat) : Int)))])), (hpd, .inl (D.2 0, 80, .inl (fT T))), (hor, .inl (D.2 0, 205, .inl (fQ (zu (zu Q (5 * od) (((ch : Nat) : Int))) (5 * od + 1) (nIt T pl (a + 1) 2).1))))] H locs := w.sub [0, 1, 2] (by decide) rfl
            refine z_if_eq (tgt := 169) hx hb (by omega) dX7_isOrder_120 (by decide) (fun c120 => ?_) (fun c120 => ?_)
            · skip
              exact absurd c120 (by omega)
            · skip
              refine lv_aload_n hx hb dX7_isOrder_123 rfl (lv_at hl 1 rfl) ?_
              refine lv_iconst (v := zI 2) hx hb dX7_isOrder_124 rfl ?_
              by_cases hP125 : 0 ≤ dg T pl (((nIt T pl (a + 1) 2).2) + 1)
              · skip
                rw [rP_N (c := 78) rfl hP125] at eR
                have hni125 := nIt_at hP125 2
                refine z_V_i (As := [.int (zI (2))]) (rest := []) (Wr := []) ⟨hx, hb, hml, hown, hts⟩ (c_X7_isNumberY l D hmo ha hth hpa hsl hhe hpd hor c9 pl (((nIt T pl (a + 1) 2).2) + 1) od T (zu (zu Q (5 * od) (((ch : Nat) : Int))) (5 * od + 1) (nIt T pl (a + 1) 2).1) hT (by omega) (by omega) 2 (by omega) hP125) (cwV 1 hts gX7_isOrder_X7_isNumber rfl rfl rfl (by decide +kernel) ⟨Nat.le_of_ble_eq_true rfl, Nat.le_of_ble_eq_true rfl⟩) w (q0 := 0) rfl rfl rfl [0, 1, 2] rfl (by decide) [] rfl (by decide) (by decide) rfl hl.1 rfl (lv_room (Nat.le_of_ble_eq_true rfl)) dX7_isOrder_125 ⟨Nat.zero_le _, Nat.zero_le _⟩ (fun r W1 H locs hp w => ?_)
                obtain ⟨rfl, rfl⟩ := hp
                have w : zW D A s.heap s [(hmo, .inr (7, [.ref ha, .ref hth, .ref hpa, .int (zI (((c9 : Nat) : Int))), .ref hsl, .ref hhe, .ref hpd, .int (zI (((pl : Nat) : Int))), .int (zI ((((nIt T pl (((nIt T pl (a + 1) 2).2) + 1) 2).2 : Nat) : Int))), .ref hor, .int (zI (((od : Nat) : Int)))])), (hpd, .inl (D.2 0, 80, .inl (fT T))), (hor, .inl (D.2 0, 205, .inl (fQ (zu (zu (zu Q (5 * od) (((ch : Nat) : Int))) (5 * od + 1) (nIt T pl (a + 1) 2).1) (5 * od + 2) (nIt T pl (((nIt T pl (a + 1) 2).2) + 1) 2).1))))] H locs := w.sub [0, 1, 2] (by decide) rfl
                refine z_if_eq (tgt := 169) hx hb (by omega) dX7_isOrder_128 (by decide) (fun c128 => ?_) (fun c128 => ?_)
                · skip
                  exact absurd c128 (by omega)
                · skip
                  refine lv_aload_n hx hb dX7_isOrder_131 rfl (lv_at hl 1 rfl) ?_
                  refine lv_bipush (v := zI 44) hx hb dX7_isOrder_132 (by decide +kernel) ?_
                  by_cases hP134 : cA T pl ((nIt T pl (((nIt T pl (a + 1) 2).2) + 1) 2).2) = 44
                  · skip
                    rw [rP_S (c := 44) (by decide) (by decide) hP134] at eR
                    have hal134 := cA_lt (T := T) (pl := pl) (a := (nIt T pl (((nIt T pl (a + 1) 2).2) + 1) 2).2) (by omega)
                    refine z_V_i (As := [.int (zI (44))]) (rest := []) (Wr := []) ⟨hx, hb, hml, hown, hts⟩ (c_X7_isSignY l D hmo ha hth hpa hsl hhe hpd hor c9 pl ((nIt T pl (((nIt T pl (a + 1) 2).2) + 1) 2).2) od T (zu (zu (zu Q (5 * od) (((ch : Nat) : Int))) (5 * od + 1) (nIt T pl (a + 1) 2).1) (5 * od + 2) (nIt T pl (((nIt T pl (a + 1) 2).2) + 1) 2).1) hT (by omega) 44 (by omega) hP134) (cwV 1 hts gX7_isOrder_X7_isSign rfl rfl rfl (by decide +kernel) ⟨Nat.le_of_ble_eq_true rfl, Nat.le_of_ble_eq_true rfl⟩) w (q0 := 0) rfl rfl rfl [0, 1, 2] rfl (by decide) [] rfl (by decide) (by decide) rfl hl.1 rfl (lv_room (Nat.le_of_ble_eq_true rfl)) dX7_isOrder_134 ⟨Nat.zero_le _, Nat.zero_le _⟩ (fun r W1 H locs hp w => ?_)
                    obtain ⟨rfl, rfl⟩ := hp
                    have w : zW D A s.heap s [(hmo, .inr (7, [.ref ha, .ref hth, .ref hpa, .int (zI (((c9 : Nat) : Int))), .ref hsl, .ref hhe, .ref hpd, .int (zI (((pl : Nat) : Int))), .int (zI (((((nIt T pl (((nIt T pl (a + 1) 2).2) + 1) 2).2) + 1 : Nat) : Int))), .ref hor, .int (zI (((od : Nat) : Int)))])), (hpd, .inl (D.2 0, 80, .inl (fT T))), (hor, .inl (D.2 0, 205, .inl (fQ (zu (zu (zu Q (5 * od) (((ch : Nat) : Int))) (5 * od + 1) (nIt T pl (a + 1) 2).1) (5 * od + 2) (nIt T pl (((nIt T pl (a + 1) 2).2) + 1) 2).1))))] H locs := w.sub [0, 1, 2] (by decide) rfl
                    refine z_if_eq (tgt := 169) hx hb (by omega) dX7_isOrder_137 (by decide) (fun c137 => ?_) (fun c137 => ?_)
                    · skip
                      exact absurd c137 (by omega)
                    · skip
                      refine lv_aload_n hx hb dX7_isOrder_140 rfl (lv_at hl 1 rfl) ?_
                      refine lv_iconst (v := zI 3) hx hb dX7_isOrder_141 rfl ?_
                      by_cases hP142 : 0 ≤ dg T pl (((nIt T pl (((nIt T pl (a + 1) 2).2) + 1) 2).2) + 1)
                      · skip
                        rw [rP_N (c := 78) rfl hP142] at eR
                        have hni142 := nIt_at hP142 2
                        refine z_V_i (As := [.int (zI (3))]) (rest := []) (Wr := []) ⟨hx, hb, hml, hown, hts⟩ (c_X7_isNumberY l D hmo ha hth hpa hsl hhe hpd hor c9 pl (((nIt T pl (((nIt T pl (a + 1) 2).2) + 1) 2).2) + 1) od T (zu (zu (zu Q (5 * od) (((ch : Nat) : Int))) (5 * od + 1) (nIt T pl (a + 1) 2).1) (5 * od + 2) (nIt T pl (((nIt T pl (a + 1) 2).2) + 1) 2).1) hT (by omega) (by omega) 3 (by omega) hP142) (cwV 1 hts gX7_isOrder_X7_isNumber rfl rfl rfl (by decide +kernel) ⟨Nat.le_of_ble_eq_true rfl, Nat.le_of_ble_eq_true rfl⟩) w (q0 := 0) rfl rfl rfl [0, 1, 2] rfl (by decide) [] rfl (by decide) (by decide) rfl hl.1 rfl (lv_room (Nat.le_of_ble_eq_true rfl)) dX7_isOrder_142 ⟨Nat.zero_le _, Nat.zero_le _⟩ (fun r W1 H locs hp w => ?_)
                        obtain ⟨rfl, rfl⟩ := hp
                        have w : zW D A s.heap s [(hmo, .inr (7, [.ref ha, .ref hth, .ref hpa, .int (zI (((c9 : Nat) : Int))), .ref hsl, .ref hhe, .ref hpd, .int (zI (((pl : Nat) : Int))), .int (zI ((((nIt T pl (((nIt T pl (((nIt T pl (a + 1) 2).2) + 1) 2).2) + 1) 2).2 : Nat) : Int))), .ref hor, .int (zI (((od : Nat) : Int)))])), (hpd, .inl (D.2 0, 80, .inl (fT T))), (hor, .inl (D.2 0, 205, .inl (fQ (zu (zu (zu (zu Q (5 * od) (((ch : Nat) : Int))) (5 * od + 1) (nIt T pl (a + 1) 2).1) (5 * od + 2) (nIt T pl (((nIt T pl (a + 1) 2).2) + 1) 2).1) (5 * od + 3) (nIt T pl (((nIt T pl (((nIt T pl (a + 1) 2).2) + 1) 2).2) + 1) 2).1))))] H locs := w.sub [0, 1, 2] (by decide) rfl
                        refine z_if_eq (tgt := 169) hx hb (by omega) dX7_isOrder_145 (by decide) (fun c145 => ?_) (fun c145 => ?_)
                        · skip
                          exact absurd c145 (by omega)
                        · skip
                          refine lv_aload_n hx hb dX7_isOrder_148 rfl (lv_at hl 1 rfl) ?_
                          refine lv_bipush (v := zI 44) hx hb dX7_isOrder_149 (by decide +kernel) ?_
                          by_cases hP151 : cA T pl ((nIt T pl (((nIt T pl (((nIt T pl (a + 1) 2).2) + 1) 2).2) + 1) 2).2) = 44
                          · skip
                            rw [rP_S (c := 44) (by decide) (by decide) hP151] at eR
                            have hal151 := cA_lt (T := T) (pl := pl) (a := (nIt T pl (((nIt T pl (((nIt T pl (a + 1) 2).2) + 1) 2).2) + 1) 2).2) (by omega)
                            refine z_V_i (As := [.int (zI (44))]) (rest := []) (Wr := []) ⟨hx, hb, hml, hown, hts⟩ (c_X7_isSignY l D hmo ha hth hpa hsl hhe hpd hor c9 pl ((nIt T pl (((nIt T pl (((nIt T pl (a + 1) 2).2) + 1) 2).2) + 1) 2).2) od T (zu (zu (zu (zu Q (5 * od) (((ch : Nat) : Int))) (5 * od + 1) (nIt T pl (a + 1) 2).1) (5 * od + 2) (nIt T pl (((nIt T pl (a + 1) 2).2) + 1) 2).1) (5 * od + 3) (nIt T pl (((nIt T pl (((nIt T pl (a + 1) 2).2) + 1) 2).2) + 1) 2).1) hT (by omega) 44 (by omega) hP151) (cwV 1 hts gX7_isOrder_X7_isSign rfl rfl rfl (by decide +kernel) ⟨Nat.le_of_ble_eq_true rfl, Nat.le_of_ble_eq_true rfl⟩) w (q0 := 0) rfl rfl rfl [0, 1, 2] rfl (by decide) [] rfl (by decide) (by decide) rfl hl.1 rfl (lv_room (Nat.le_of_ble_eq_true rfl)) dX7_isOrder_151 ⟨Nat.zero_le _, Nat.zero_le _⟩ (fun r W1 H locs hp w => ?_)
                            obtain ⟨rfl, rfl⟩ := hp
                            have w : zW D A s.heap s [(hmo, .inr (7, [.ref ha, .ref hth, .ref hpa, .int (zI (((c9 : Nat) : Int))), .ref hsl, .ref hhe, .ref hpd, .int (zI (((pl : Nat) : Int))), .int (zI (((((nIt T pl (((nIt T pl (((nIt T pl (a + 1) 2).2) + 1) 2).2) + 1) 2).2) + 1 : Nat) : Int))), .ref hor, .int (zI (((od : Nat) : Int)))])), (hpd, .inl (D.2 0, 80, .inl (fT T))), (hor, .inl (D.2 0, 205, .inl (fQ (zu (zu (zu (zu Q (5 * od) (((ch : Nat) : Int))) (5 * od + 1) (nIt T pl (a + 1) 2).1) (5 * od + 2) (nIt T pl (((nIt T pl (a + 1) 2).2) + 1) 2).1) (5 * od + 3) (nIt T pl (((nIt T pl (((nIt T pl (a + 1) 2).2) + 1) 2).2) + 1) 2).1))))] H locs := w.sub [0, 1, 2] (by decide) rfl
                            refine z_if_eq (tgt := 169) hx hb (by omega) dX7_isOrder_154 (by decide) (fun c154 => ?_) (fun c154 => ?_)
                            · skip
                              exact absurd c154 (by omega)
                            · skip
                              refine lv_aload_n hx hb dX7_isOrder_157 rfl (lv_at hl 1 rfl) ?_
                              refine lv_iconst (v := zI 4) hx hb dX7_isOrder_158 rfl ?_
                              by_cases hP159 : 0 ≤ dg T pl (((nIt T pl (((nIt T pl (((nIt T pl (a + 1) 2).2) + 1) 2).2) + 1) 2).2) + 1)
                              · skip
                                rw [rP_N (c := 78) rfl hP159] at eR
                                have hni159 := nIt_at hP159 2
                                refine z_V_i (As := [.int (zI (4))]) (rest := []) (Wr := []) ⟨hx, hb, hml, hown, hts⟩ (c_X7_isNumberY l D hmo ha hth hpa hsl hhe hpd hor c9 pl (((nIt T pl (((nIt T pl (((nIt T pl (a + 1) 2).2) + 1) 2).2) + 1) 2).2) + 1) od T (zu (zu (zu (zu Q (5 * od) (((ch : Nat) : Int))) (5 * od + 1) (nIt T pl (a + 1) 2).1) (5 * od + 2) (nIt T pl (((nIt T pl (a + 1) 2).2) + 1) 2).1) (5 * od + 3) (nIt T pl (((nIt T pl (((nIt T pl (a + 1) 2).2) + 1) 2).2) + 1) 2).1) hT (by omega) (by omega) 4 (by omega) hP159) (cwV 1 hts gX7_isOrder_X7_isNumber rfl rfl rfl (by decide +kernel) ⟨Nat.le_of_ble_eq_true rfl, Nat.le_of_ble_eq_true rfl⟩) w (q0 := 0) rfl rfl rfl [0, 1, 2] rfl (by decide) [] rfl (by decide) (by decide) rfl hl.1 rfl (lv_room (Nat.le_of_ble_eq_true rfl)) dX7_isOrder_159 ⟨Nat.zero_le _, Nat.zero_le _⟩ (fun r W1 H locs hp w => ?_)
                                obtain ⟨rfl, rfl⟩ := hp
                                have w : zW D A s.heap s [(hmo, .inr (7, [.ref ha, .ref hth, .ref hpa, .int (zI (((c9 : Nat) : Int))), .ref hsl, .ref hhe, .ref hpd, .int (zI (((pl : Nat) : Int))), .int (zI ((((nIt T pl (((nIt T pl (((nIt T pl (((nIt T pl (a + 1) 2).2) + 1) 2).2) + 1) 2).2) + 1) 2).2 : Nat) : Int))), .ref hor, .int (zI (((od : Nat) : Int)))])), (hpd, .inl (D.2 0, 80, .inl (fT T))), (hor, .inl (D.2 0, 205, .inl (fQ (zu (zu (zu (zu (zu Q (5 * od) (((ch : Nat) : Int))) (5 * od + 1) (nIt T pl (a + 1) 2).1) (5 * od + 2) (nIt T pl (((nIt T pl (a + 1) 2).2) + 1) 2).1) (5 * od + 3) (nIt T pl (((nIt T pl (((nIt T pl (a + 1) 2).2) + 1) 2).2) + 1) 2).1) (5 * od + 4) (nIt T pl (((nIt T pl (((nIt T pl (((nIt T pl (a + 1) 2).2) + 1) 2).2) + 1) 2).2) + 1) 2).1))))] H locs := w.sub [0, 1, 2] (by decide) rfl
                                refine z_if_eq (tgt := 169) hx hb (by omega) dX7_isOrder_162 (by decide) (fun c162 => ?_) (fun c162 => ?_)
                                · skip
                                  exact absurd c162 (by omega)
                                · skip
                                  refine lv_iconst (v := zI 1) hx hb dX7_isOrder_165 rfl ?_
                                  refine lv_goto (tgt := 170) hx hb dX7_isOrder_166 (by decide) ?_
                                  exact z_zret hx hb hr hlocks w dX7_isOrder_170 (by omega) (by subst ech; rw [rP_0] at eR; obtain ⟨y1, y2, y3⟩ := oR_y eR0 eR (by rw [ek]; decide); unfold rQ5; rw [zb_t y1, y2, y3]; exact ⟨rfl, rfl⟩)
                              · skip
                                rw [rP_Nn (c := 78) rfl hP159] at eR
                                refine z_V_i (As := [.int (zI (4))]) (rest := []) (Wr := []) ⟨hx, hb, hml, hown, hts⟩ (c_X7_isNumberN l D hmo ha hth hpa hsl hhe hpd hor c9 pl (((nIt T pl (((nIt T pl (((nIt T pl (a + 1) 2).2) + 1) 2).2) + 1) 2).2) + 1) od T (zu (zu (zu (zu Q (5 * od) (((ch : Nat) : Int))) (5 * od + 1) (nIt T pl (a + 1) 2).1) (5 * od + 2) (nIt T pl (((nIt T pl (a + 1) 2).2) + 1) 2).1) (5 * od + 3) (nIt T pl (((nIt T pl (((nIt T pl (a + 1) 2).2) + 1) 2).2) + 1) 2).1) hT (by omega) 4 (by omega) hP159) (cwV 1 hts gX7_isOrder_X7_isNumber rfl rfl rfl (by decide +kernel) ⟨Nat.le_of_ble_eq_true rfl, Nat.le_of_ble_eq_true rfl⟩) w (q0 := 0) rfl rfl rfl [0, 1, 2] rfl (by decide) [] rfl (by decide) (by decide) rfl hl.1 rfl (lv_room (Nat.le_of_ble_eq_true rfl)) dX7_isOrder_159 ⟨Nat.zero_le _, Nat.zero_le _⟩ (fun r W1 H locs hp w => ?_)
                                obtain ⟨rfl, rfl⟩ := hp
                                have w : zW D A s.heap s [(hmo, .inr (7, [.ref ha, .ref hth, .ref hpa, .int (zI (((c9 : Nat) : Int))), .ref hsl, .ref hhe, .ref hpd, .int (zI (((pl : Nat) : Int))), .int (zI (((((nIt T pl (((nIt T pl (((nIt T pl (a + 1) 2).2) + 1) 2).2) + 1) 2).2) + 1 : Nat) : Int))), .ref hor, .int (zI (((od : Nat) : Int)))])), (hpd, .inl (D.2 0, 80, .inl (fT T))), (hor, .inl (D.2 0, 205, .inl (fQ (zu (zu (zu (zu Q (5 * od) (((ch : Nat) : Int))) (5 * od + 1) (nIt T pl (a + 1) 2).1) (5 * od + 2) (nIt T pl (((nIt T pl (a + 1) 2).2) + 1) 2).1) (5 * od + 3) (nIt T pl (((nIt T pl (((nIt T pl (a + 1) 2).2) + 1) 2).2) + 1) 2).1))))] H locs := w.sub [0, 1, 2] (by decide) rfl
                                refine z_if_eq (tgt := 169) hx hb (by omega) dX7_isOrder_162 (by decide) (fun c162 => ?_) (fun c162 => ?_)
                                · skip
                                  refine lv_iconst (v := zI 0) hx hb dX7_isOrder_169 rfl ?_
                                  exact z_zret hx hb hr hlocks w dX7_isOrder_170 (by omega) (by subst ech; obtain ⟨y1, y2, y3⟩ := oR_n eR0 eR; unfold rQ5; rw [zb_f y1, y2, y3]; exact ⟨rfl, rfl⟩)
                                · skip
                                  exact absurd c162 (by omega)
                          · skip
                            rw [rP_Sn (c := 44) (by decide) (by decide) hP151] at eR
                            refine z_V_i (As := [.int (zI (44))]) (rest := []) (Wr := []) ⟨hx, hb, hml, hown, hts⟩ (c_X7_isSignN l D hmo ha hth hpa hsl hhe hpd hor c9 pl ((nIt T pl (((nIt T pl (((nIt T pl (a + 1) 2).2) + 1) 2).2) + 1) 2).2) od T (zu (zu (zu (zu Q (5 * od) (((ch : Nat) : Int))) (5 * od + 1) (nIt T pl (a + 1) 2).1) (5 * od + 2) (nIt T pl (((nIt T pl (a + 1) 2).2) + 1) 2).1) (5 * od + 3) (nIt T pl (((nIt T pl (((nIt T pl (a + 1) 2).2) + 1) 2).2) + 1) 2).1) hT (by omega) 44 (by omega) hP151) (cwV 1 hts gX7_isOrder_X7_isSign rfl rfl rfl (by decide +kernel) ⟨Nat.le_of_ble_eq_true rfl, Nat.le_of_ble_eq_true rfl⟩) w (q0 := 0) rfl rfl rfl [0, 1, 2] rfl (by decide) [] rfl (by decide) (by decide) rfl hl.1 rfl (lv_room (Nat.le_of_ble_eq_true rfl)) dX7_isOrder_151 ⟨Nat.zero_le _, Nat.zero_le _⟩ (fun r W1 H locs hp w => ?_)
                            obtain ⟨rfl, rfl⟩ := hp
                            have w : zW D A s.heap s [(hmo, .inr (7, [.ref ha, .ref hth, .ref hpa, .int (zI (((c9 : Nat) : Int))), .ref hsl, .ref hhe, .ref hpd, .int (zI (((pl : Nat) : Int))), .int (zI ((((nIt T pl (((nIt T pl (((nIt T pl (a + 1) 2).2) + 1) 2).2) + 1) 2).2 : Nat) : Int))), .ref hor, .int (zI (((od : Nat) : Int)))])), (hpd, .inl (D.2 0, 80, .inl (fT T))), (hor, .inl (D.2 0, 205, .inl (fQ (zu (zu (zu (zu Q (5 * od) (((ch : Nat) : Int))) (5 * od + 1) (nIt T pl (a + 1) 2).1) (5 * od + 2) (nIt T pl (((nIt T pl (a + 1) 2).2) + 1) 2).1) (5 * od + 3) (nIt T pl (((nIt T pl (((nIt T pl (a + 1) 2).2) + 1) 2).2) + 1) 2).1))))] H locs := w.sub [0, 1, 2] (by decide) rfl
                            refine z_if_eq (tgt := 169) hx hb (by omega) dX7_isOrder_154 (by decide) (fun c154 => ?_) (fun c154 => ?_)
                            · skip
                              refine lv_iconst (v := zI 0) hx hb dX7_isOrder_169 rfl ?_
                              exact z_zret hx hb hr hlocks w dX7_isOrder_170 (by omega) (by subst ech; obtain ⟨y1, y2, y3⟩ := oR_n eR0 eR; unfold rQ5; rw [zb_f y1, y2, y3]; exact ⟨rfl, rfl⟩)
                            · skip
                              exact absurd c154 (by omega)
                      · skip
                        rw [rP_Nn (c := 78) rfl hP142] at eR
                        refine z_V_i (As := [.int (zI (3))]) (rest := []) (Wr := []) ⟨hx, hb, hml, hown, hts⟩ (c_X7_isNumberN l D hmo ha hth hpa hsl hhe hpd hor c9 pl (((nIt T pl (((nIt T pl (a + 1) 2).2) + 1) 2).2) + 1) od T (zu (zu (zu Q (5 * od) (((ch : Nat) : Int))) (5 * od + 1) (nIt T pl (a + 1) 2).1) (5 * od + 2) (nIt T pl (((nIt T pl (a + 1) 2).2) + 1) 2).1) hT (by omega) 3 (by omega) hP142) (cwV 1 hts gX7_isOrder_X7_isNumber rfl rfl rfl (by decide +kernel) ⟨Nat.le_of_ble_eq_true rfl, Nat.le_of_ble_eq_true rfl⟩) w (q0 := 0) rfl rfl rfl [0, 1, 2] rfl (by decide) [] rfl (by decide) (by decide) rfl hl.1 rfl (lv_room (Nat.le_of_ble_eq_true rfl)) dX7_isOrder_142 ⟨Nat.zero_le _, Nat.zero_le _⟩ (fun r W1 H locs hp w => ?_)
                        obtain ⟨rfl, rfl⟩ := hp
                        have w : zW D A s.heap s [(hmo, .inr (7, [.ref ha, .ref hth, .ref hpa, .int (zI (((c9 : Nat) : Int))), .ref hsl, .ref hhe, .ref hpd, .int (zI (((pl : Nat) : Int))), .int (zI (((((nIt T pl (((nIt T pl (a + 1) 2).2) + 1) 2).2) + 1 : Nat) : Int))), .ref hor, .int (zI (((od : Nat) : Int)))])), (hpd, .inl (D.2 0, 80, .inl (fT T))), (hor, .inl (D.2 0, 205, .inl (fQ (zu (zu (zu Q (5 * od) (((ch : Nat) : Int))) (5 * od + 1) (nIt T pl (a + 1) 2).1) (5 * od + 2) (nIt T pl (((nIt T pl (a + 1) 2).2) + 1) 2).1))))] H locs := w.sub [0, 1, 2] (by decide) rfl
                        refine z_if_eq (tgt := 169) hx hb (by omega) dX7_isOrder_145 (by decide) (fun c145 => ?_) (fun c145 => ?_)
                        · skip
                          refine lv_iconst (v := zI 0) hx hb dX7_isOrder_169 rfl ?_
                          exact z_zret hx hb hr hlocks w dX7_isOrder_170 (by omega) (by subst ech; obtain ⟨y1, y2, y3⟩ := oR_n eR0 eR; unfold rQ5; rw [zb_f y1, y2, y3]; exact ⟨rfl, rfl⟩)
                        · skip
                          exact absurd c145 (by omega)
                  · skip
                    rw [rP_Sn (c := 44) (by decide) (by decide) hP134] at eR
                    refine z_V_i (As := [.int (zI (44))]) (rest := []) (Wr := []) ⟨hx, hb, hml, hown, hts⟩ (c_X7_isSignN l D hmo ha hth hpa hsl hhe hpd hor c9 pl ((nIt T pl (((nIt T pl (a + 1) 2).2) + 1) 2).2) od T (zu (zu (zu Q (5 * od) (((ch : Nat) : Int))) (5 * od + 1) (nIt T pl (a + 1) 2).1) (5 * od + 2) (nIt T pl (((nIt T pl (a + 1) 2).2) + 1) 2).1) hT (by omega) 44 (by omega) hP134) (cwV 1 hts gX7_isOrder_X7_isSign rfl rfl rfl (by decide +kernel) ⟨Nat.le_of_ble_eq_true rfl, Nat.le_of_ble_eq_true rfl⟩) w (q0 := 0) rfl rfl rfl [0, 1, 2] rfl (by decide) [] rfl (by decide) (by decide) rfl hl.1 rfl (lv_room (Nat.le_of_ble_eq_true rfl)) dX7_isOrder_134 ⟨Nat.zero_le _, Nat.zero_le _⟩ (fun r W1 H locs hp w => ?_)
                    obtain ⟨rfl, rfl⟩ := hp
                    have w : zW D A s.heap s [(hmo, .inr (7, [.ref ha, .ref hth, .ref hpa, .int (zI (((c9 : Nat) : Int))), .ref hsl, .ref hhe, .ref hpd, .int (zI (((pl : Nat) : Int))), .int (zI ((((nIt T pl (((nIt T pl (a + 1) 2).2) + 1) 2).2 : Nat) : Int))), .ref hor, .int (zI (((od : Nat) : Int)))])), (hpd, .inl (D.2 0, 80, .inl (fT T))), (hor, .inl (D.2 0, 205, .inl (fQ (zu (zu (zu Q (5 * od) (((ch : Nat) : Int))) (5 * od + 1) (nIt T pl (a + 1) 2).1) (5 * od + 2) (nIt T pl (((nIt T pl (a + 1) 2).2) + 1) 2).1))))] H locs := w.sub [0, 1, 2] (by decide) rfl
                    refine z_if_eq (tgt := 169) hx hb (by omega) dX7_isOrder_137 (by decide) (fun c137 => ?_) (fun c137 => ?_)
                    · skip
                      refine lv_iconst (v := zI 0) hx hb dX7_isOrder_169 rfl ?_
                      exact z_zret hx hb hr hlocks w dX7_isOrder_170 (by omega) (by subst ech; obtain ⟨y1, y2, y3⟩ := oR_n eR0 eR; unfold rQ5; rw [zb_f y1, y2, y3]; exact ⟨rfl, rfl⟩)
                    · skip
                      exact absurd c137 (by omega)
              · skip
                rw [rP_Nn (c := 78) rfl hP125] at eR
                refine z_V_i (As := [.int (zI (2))]) (rest := []) (Wr := []) ⟨hx, hb, hml, hown, hts⟩ (c_X7_isNumberN l D hmo ha hth hpa hsl hhe hpd hor c9 pl (((nIt T pl (a + 1) 2).2) + 1) od T (zu (zu Q (5 * od) (((ch : Nat) : Int))) (5 * od + 1) (nIt T pl (a + 1) 2).1) hT (by omega) 2 (by omega) hP125) (cwV 1 hts gX7_isOrder_X7_isNumber rfl rfl rfl (by decide +kernel) ⟨Nat.le_of_ble_eq_true rfl, Nat.le_of_ble_eq_true rfl⟩) w (q0 := 0) rfl rfl rfl [0, 1, 2] rfl (by decide) [] rfl (by decide) (by decide) rfl hl.1 rfl (lv_room (Nat.le_of_ble_eq_true rfl)) dX7_isOrder_125 ⟨Nat.zero_le _, Nat.zero_le _⟩ (fun r W1 H locs hp w => ?_)
                obtain ⟨rfl, rfl⟩ := hp
                have w : zW D A s.heap s [(hmo, .inr (7, [.ref ha, .ref hth, .ref hpa, .int (zI (((c9 : Nat) : Int))), .ref hsl, .ref hhe, .ref hpd, .int (zI (((pl : Nat) : Int))), .int (zI (((((nIt T pl (a + 1) 2).2) + 1 : Nat) : Int))), .ref hor, .int (zI (((od : Nat) : Int)))])), (hpd, .inl (D.2 0, 80, .inl (fT T))), (hor, .inl (D.2 0, 205, .inl (fQ (zu (zu Q (5 * od) (((ch : Nat) : Int))) (5 * od + 1) (nIt T pl (a + 1) 2).1))))] H locs := w.sub [0, 1, 2] (by decide) rfl
                refine z_if_eq (tgt := 169) hx hb (by omega) dX7_isOrder_128 (by decide) (fun c128 => ?_) (fun c128 => ?_)
                · skip
                  refine lv_iconst (v := zI 0) hx hb dX7_isOrder_169 rfl ?_
                  exact z_zret hx hb hr hlocks w dX7_isOrder_170 (by omega) (by subst ech; obtain ⟨y1, y2, y3⟩ := oR_n eR0 eR; unfold rQ5; rw [zb_f y1, y2, y3]; exact ⟨rfl, rfl⟩)
                · skip
                  exact absurd c128 (by omega)
          · skip
            rw [rP_Sn (c := 58) (by decide) (by decide) hP117] at eR
            refine z_V_i (As := [.int (zI (58))]) (rest := []) (Wr := []) ⟨hx, hb, hml, hown, hts⟩ (c_X7_isSignN l D hmo ha hth hpa hsl hhe hpd hor c9 pl ((nIt T pl (a + 1) 2).2) od T (zu (zu Q (5 * od) (((ch : Nat) : Int))) (5 * od + 1) (nIt T pl (a + 1) 2).1) hT (by omega) 58 (by omega) hP117) (cwV 1 hts gX7_isOrder_X7_isSign rfl rfl rfl (by decide +kernel) ⟨Nat.le_of_ble_eq_true rfl, Nat.le_of_ble_eq_true rfl⟩) w (q0 := 0) rfl rfl rfl [0, 1, 2] rfl (by decide) [] rfl (by decide) (by decide) rfl hl.1 rfl (lv_room (Nat.le_of_ble_eq_true rfl)) dX7_isOrder_117 ⟨Nat.zero_le _, Nat.zero_le _⟩ (fun r W1 H locs hp w => ?_)
            obtain ⟨rfl, rfl⟩ := hp
            have w : zW D A s.heap s [(hmo, .inr (7, [.ref ha, .ref hth, .ref hpa, .int (zI (((c9 : Nat) : Int))), .ref hsl, .ref hhe, .ref hpd, .int (zI (((pl : Nat) : Int))), .int (zI ((((nIt T pl (a + 1) 2).2 : Nat) : Int))), .ref hor, .int (zI (((od : Nat) : Int)))])), (hpd, .inl (D.2 0, 80, .inl (fT T))), (hor, .inl (D.2 0, 205, .inl (fQ (zu (zu Q (5 * od) (((ch : Nat) : Int))) (5 * od + 1) (nIt T pl (a + 1) 2).1))))] H locs := w.sub [0, 1, 2] (by decide) rfl
            refine z_if_eq (tgt := 169) hx hb (by omega) dX7_isOrder_120 (by decide) (fun c120 => ?_) (fun c120 => ?_)
            · skip
              refine lv_iconst (v := zI 0) hx hb dX7_isOrder_169 rfl ?_
              exact z_zret hx hb hr hlocks w dX7_isOrder_170 (by omega) (by subst ech; obtain ⟨y1, y2, y3⟩ := oR_n eR0 eR; unfold rQ5; rw [zb_f y1, y2, y3]; exact ⟨rfl, rfl⟩)
            · skip
              exact absurd c120 (by omega)
      · skip
        rw [rP_Nn (c := 78) rfl hP108] at eR
        refine z_V_i (As := [.int (zI (1))]) (rest := []) (Wr := []) ⟨hx, hb, hml, hown, hts⟩ (c_X7_isNumberN l D hmo ha hth hpa hsl hhe hpd hor c9 pl (a + 1) od T (zu Q (5 * od) (((ch : Nat) : Int))) hT (by omega) 1 (by omega) hP108) (cwV 1 hts gX7_isOrder_X7_isNumber rfl rfl rfl (by decide +kernel) ⟨Nat.le_of_ble_eq_true rfl, Nat.le_of_ble_eq_true rfl⟩) w (q0 := 0) rfl rfl rfl [0, 1, 2] rfl (by decide) [] rfl (by decide) (by decide) rfl hl.1 rfl (lv_room (Nat.le_of_ble_eq_true rfl)) dX7_isOrder_108 ⟨Nat.zero_le _, Nat.zero_le _⟩ (fun r W1 H locs hp w => ?_)
        obtain ⟨rfl, rfl⟩ := hp
        have w : zW D A s.heap s [(hmo, .inr (7, [.ref ha, .ref hth, .ref hpa, .int (zI (((c9 : Nat) : Int))), .ref hsl, .ref hhe, .ref hpd, .int (zI (((pl : Nat) : Int))), .int (zI (((a : Nat) : Int) + 1)), .ref hor, .int (zI (((od : Nat) : Int)))])), (hpd, .inl (D.2 0, 80, .inl (fT T))), (hor, .inl (D.2 0, 205, .inl (fQ (zu Q (5 * od) (((ch : Nat) : Int))))))] H locs := w.sub [0, 1, 2] (by decide) rfl
        refine z_if_eq (tgt := 169) hx hb (by omega) dX7_isOrder_111 (by decide) (fun c111 => ?_) (fun c111 => ?_)
        · skip
          refine lv_iconst (v := zI 0) hx hb dX7_isOrder_169 rfl ?_
          exact z_zret hx hb hr hlocks w dX7_isOrder_170 (by omega) (by subst ech; obtain ⟨y1, y2, y3⟩ := oR_n eR0 eR; unfold rQ5; rw [zb_f y1, y2, y3]; exact ⟨rfl, rfl⟩)
        · skip
          exact absurd c111 (by omega)
    · skip
      rw [csw38]
      refine z_lswit (tgt := 171) hx hb (by omega) dX7_isOrder_38 (by decide) (off := 133) (by decide) (by decide) ?_
      have ek : ch = 108 := by omega
      have eR := eR0
      rw [show shL (kI ch) = [108, 68, 61, 78] by rw [ek]; decide +kernel, rP_S (c := 108) (by decide) (by decide) (by omega)] at eR
      have hal9 := cA_lt (T := T) (pl := pl) (a := a) (by omega)
      refine lv_aload_n hx hb dX7_isOrder_171 rfl (lv_at hl 1 rfl) ?_
      refine lv_dup hx hb dX7_isOrder_172 rfl ?_
      refine z_get hx hb hown hts w inX7 0 8 rfl rfl (by decide) f_176 rfl rfl dX7_isOrder_173 ?_
      refine lv_iconst (v := zI 1) hx hb dX7_isOrder_176 rfl ?_
      refine z_iadd hx hb dX7_isOrder_177 ?_
      refine z_put hx hb hown hts w inX7 tyX7 tyX7_ok nmX7 0 8 rfl rfl (by decide) f_176 rfl rfl (ty := .int) rfl rfl rfl (Nat.le_of_ble_eq_true rfl) dX7_isOrder_178 (fun H locs w => ?_)
      have w : zW D A s.heap s [(hmo, .inr (7, [.ref ha, .ref hth, .ref hpa, .int (zI (((c9 : Nat) : Int))), .ref hsl, .ref hhe, .ref hpd, .int (zI (((pl : Nat) : Int))), .int (zI (((a : Nat) : Int) + 1)), .ref hor, .int (zI (((od : Nat) : Int)))])), (hpd, .inl (D.2 0, 80, .inl (fT T))), (hor, .inl (D.2 0, 205, .inl (fQ (zu Q (5 * od) (((ch : Nat) : Int))))))] H locs := w
      refine lv_aload_n hx hb dX7_isOrder_181 rfl (lv_at hl 1 rfl) ?_
      by_cases hP182 : 48 ≤ cA T pl (a + 1) ∧ cA T pl (a + 1) ≤ 50
      · skip
        rw [rP_D (c := 68) rfl hP182] at eR
        have hal182 := cA_lt (T := T) (pl := pl) (a := a + 1) (by omega)
        refine z_V_i (As := []) (rest := []) (Wr := []) ⟨hx, hb, hml, hown, hts⟩ (c_X7_isDigitY l D hmo ha hth hpa hsl hhe hpd hor c9 pl (a + 1) od T (zu Q (5 * od) (((ch : Nat) : Int))) hT (by omega) (by omega) hP182) (cwV 0 hts gX7_isOrder_X7_isDigit rfl rfl rfl (by decide +kernel) ⟨Nat.le_of_ble_eq_true rfl, Nat.le_of_ble_eq_true rfl⟩) w (q0 := 0) rfl rfl rfl [0, 1, 2] rfl (by decide) [] rfl (by decide) (by decide) rfl hl.1 rfl (lv_room (Nat.le_of_ble_eq_true rfl)) dX7_isOrder_182 ⟨Nat.zero_le _, Nat.zero_le _⟩ (fun r W1 H locs hp w => ?_)
        obtain ⟨rfl, rfl⟩ := hp
        have w : zW D A s.heap s [(hmo, .inr (7, [.ref ha, .ref hth, .ref hpa, .int (zI (((c9 : Nat) : Int))), .ref hsl, .ref hhe, .ref hpd, .int (zI (((pl : Nat) : Int))), .int (zI ((((a + 1) + 1 : Nat) : Int))), .ref hor, .int (zI (((od : Nat) : Int)))])), (hpd, .inl (D.2 0, 80, .inl (fT T))), (hor, .inl (D.2 0, 205, .inl (fQ (zu (zu Q (5 * od) (((ch : Nat) : Int))) (5 * od + 1) (((cA T pl (a + 1) : Nat) : Int) - 48)))))] H locs := w.sub [0, 1, 2] (by decide) rfl
        refine z_if_eq (tgt := 209) hx hb (by omega) dX7_isOrder_185 (by decide) (fun c185 => ?_) (fun c185 => ?_)
        · skip
          exact absurd c185 (by omega)
        · skip
          refine lv_aload_n hx hb dX7_isOrder_188 rfl (lv_at hl 1 rfl) ?_
          refine lv_bipush (v := zI 61) hx hb dX7_isOrder_189 (by decide +kernel) ?_
          by_cases hP191 : cA T pl ((a + 1) + 1) = 61
          · skip
            rw [rP_S (c := 61) (by decide) (by decide) hP191] at eR
            have hal191 := cA_lt (T := T) (pl := pl) (a := (a + 1) + 1) (by omega)
            refine z_V_i (As := [.int (zI (61))]) (rest := []) (Wr := []) ⟨hx, hb, hml, hown, hts⟩ (c_X7_isSignY l D hmo ha hth hpa hsl hhe hpd hor c9 pl ((a + 1) + 1) od T (zu (zu Q (5 * od) (((ch : Nat) : Int))) (5 * od + 1) (((cA T pl (a + 1) : Nat) : Int) - 48)) hT (by omega) 61 (by omega) hP191) (cwV 1 hts gX7_isOrder_X7_isSign rfl rfl rfl (by decide +kernel) ⟨Nat.le_of_ble_eq_true rfl, Nat.le_of_ble_eq_true rfl⟩) w (q0 := 0) rfl rfl rfl [0, 1, 2] rfl (by decide) [] rfl (by decide) (by decide) rfl hl.1 rfl (lv_room (Nat.le_of_ble_eq_true rfl)) dX7_isOrder_191 ⟨Nat.zero_le _, Nat.zero_le _⟩ (fun r W1 H locs hp w => ?_)
            obtain ⟨rfl, rfl⟩ := hp
            have w : zW D A s.heap s [(hmo, .inr (7, [.ref ha, .ref hth, .ref hpa, .int (zI (((c9 : Nat) : Int))), .ref hsl, .ref hhe, .ref hpd, .int (zI (((pl : Nat) : Int))), .int (zI (((((a + 1) + 1) + 1 : Nat) : Int))), .ref hor, .int (zI (((od : Nat) : Int)))])), (hpd, .inl (D.2 0, 80, .inl (fT T))), (hor, .inl (D.2 0, 205, .inl (fQ (zu (zu Q (5 * od) (((ch : Nat) : Int))) (5 * od + 1) (((cA T pl (a + 1) : Nat) : Int) - 48)))))] H locs := w.sub [0, 1, 2] (by decide) rfl
            refine z_if_eq (tgt := 209) hx hb (by omega) dX7_isOrder_194 (by decide) (fun c194 => ?_) (fun c194 => ?_)
            · skip
              exact absurd c194 (by omega)
            · skip
              refine lv_aload_n hx hb dX7_isOrder_197 rfl (lv_at hl 1 rfl) ?_
              refine lv_iconst (v := zI 2) hx hb dX7_isOrder_198 rfl ?_
              by_cases hP199 : 0 ≤ dg T pl (((a + 1) + 1) + 1)
              · skip
                rw [rP_N (c := 78) rfl hP199] at eR
                have hni199 := nIt_at hP199 2
                refine z_V_i (As := [.int (zI (2))]) (rest := []) (Wr := []) ⟨hx, hb, hml, hown, hts⟩ (c_X7_isNumberY l D hmo ha hth hpa hsl hhe hpd hor c9 pl (((a + 1) + 1) + 1) od T (zu (zu Q (5 * od) (((ch : Nat) : Int))) (5 * od + 1) (((cA T pl (a + 1) : Nat) : Int) - 48)) hT (by omega) (by omega) 2 (by omega) hP199) (cwV 1 hts gX7_isOrder_X7_isNumber rfl rfl rfl (by decide +kernel) ⟨Nat.le_of_ble_eq_true rfl, Nat.le_of_ble_eq_true rfl⟩) w (q0 := 0) rfl rfl rfl [0, 1, 2] rfl (by decide) [] rfl (by decide) (by decide) rfl hl.1 rfl (lv_room (Nat.le_of_ble_eq_true rfl)) dX7_isOrder_199 ⟨Nat.zero_le _, Nat.zero_le _⟩ (fun r W1 H locs hp w => ?_)
                obtain ⟨rfl, rfl⟩ := hp
                have w : zW D A s.heap s [(hmo, .inr (7, [.ref ha, .ref hth, .ref hpa, .int (zI (((c9 : Nat) : Int))), .ref hsl, .ref hhe, .ref hpd, .int (zI (((pl : Nat) : Int))), .int (zI ((((nIt T pl (((a + 1) + 1) + 1) 2).2 : Nat) : Int))), .ref hor, .int (zI (((od : Nat) : Int)))])), (hpd, .inl (D.2 0, 80, .inl (fT T))), (hor, .inl (D.2 0, 205, .inl (fQ (zu (zu (zu Q (5 * od) (((ch : Nat) : Int))) (5 * od + 1) (((cA T pl (a + 1) : Nat) : Int) - 48)) (5 * od + 2) (nIt T pl (((a + 1) + 1) + 1) 2).1))))] H locs := w.sub [0, 1, 2] (by decide) rfl
                refine z_if_eq (tgt := 209) hx hb (by omega) dX7_isOrder_202 (by decide) (fun c202 => ?_) (fun c202 => ?_)
                · skip
                  exact absurd c202 (by omega)
                · skip
                  refine lv_iconst (v := zI 1) hx hb dX7_isOrder_205 rfl ?_
                  refine lv_goto (tgt := 210) hx hb dX7_isOrder_206 (by decide) ?_
                  exact z_zret hx hb hr hlocks w dX7_isOrder_210 (by omega) (by subst ech; rw [rP_0] at eR; obtain ⟨y1, y2, y3⟩ := oR_y eR0 eR (by rw [ek]; decide); unfold rQ5; rw [zb_t y1, y2, y3]; exact ⟨rfl, rfl⟩)
              · skip
                rw [rP_Nn (c := 78) rfl hP199] at eR
                refine z_V_i (As := [.int (zI (2))]) (rest := []) (Wr := []) ⟨hx, hb, hml, hown, hts⟩ (c_X7_isNumberN l D hmo ha hth hpa hsl hhe hpd hor c9 pl (((a + 1) + 1) + 1) od T (zu (zu Q (5 * od) (((ch : Nat) : Int))) (5 * od + 1) (((cA T pl (a + 1) : Nat) : Int) - 48)) hT (by omega) 2 (by omega) hP199) (cwV 1 hts gX7_isOrder_X7_isNumber rfl rfl rfl (by decide +kernel) ⟨Nat.le_of_ble_eq_true rfl, Nat.le_of_ble_eq_true rfl⟩) w (q0 := 0) rfl rfl rfl [0, 1, 2] rfl (by decide) [] rfl (by decide) (by decide) rfl hl.1 rfl (lv_room (Nat.le_of_ble_eq_true rfl)) dX7_isOrder_199 ⟨Nat.zero_le _, Nat.zero_le _⟩ (fun r W1 H locs hp w => ?_)
                obtain ⟨rfl, rfl⟩ := hp
                have w : zW D A s.heap s [(hmo, .inr (7, [.ref ha, .ref hth, .ref hpa, .int (zI (((c9 : Nat) : Int))), .ref hsl, .ref hhe, .ref hpd, .int (zI (((pl : Nat) : Int))), .int (zI (((((a + 1) + 1) + 1 : Nat) : Int))), .ref hor, .int (zI (((od : Nat) : Int)))])), (hpd, .inl (D.2 0, 80, .inl (fT T))), (hor, .inl (D.2 0, 205, .inl (fQ (zu (zu Q (5 * od) (((ch : Nat) : Int))) (5 * od + 1) (((cA T pl (a + 1) : Nat) : Int) - 48)))))] H locs := w.sub [0, 1, 2] (by decide) rfl
                refine z_if_eq (tgt := 209) hx hb (by omega) dX7_isOrder_202 (by decide) (fun c202 => ?_) (fun c202 => ?_)
                · skip
                  refine lv_iconst (v := zI 0) hx hb dX7_isOrder_209 rfl ?_
                  exact z_zret hx hb hr hlocks w dX7_isOrder_210 (by omega) (by subst ech; obtain ⟨y1, y2, y3⟩ := oR_n eR0 eR; unfold rQ5; rw [zb_f y1, y2, y3]; exact ⟨rfl, rfl⟩)
                · skip
                  exact absurd c202 (by omega)
          · skip
            rw [rP_Sn (c := 61) (by decide) (by decide) hP191] at eR
            refine z_V_i (As := [.int (zI (61))]) (rest := []) (Wr := []) ⟨hx, hb, hml, hown, hts⟩ (c_X7_isSignN l D hmo ha hth hpa hsl hhe hpd hor c9 pl ((a + 1) + 1) od T (zu (zu Q (5 * od) (((ch : Nat) : Int))) (5 * od + 1) (((cA T pl (a + 1) : Nat) : Int) - 48)) hT (by omega) 61 (by omega) hP191) (cwV 1 hts gX7_isOrder_X7_isSign rfl rfl rfl (by decide +kernel) ⟨Nat.le_of_ble_eq_true rfl, Nat.le_of_ble_eq_true rfl⟩) w (q0 := 0) rfl rfl rfl [0, 1, 2] rfl (by decide) [] rfl (by decide) (by decide) rfl hl.1 rfl (lv_room (Nat.le_of_ble_eq_true rfl)) dX7_isOrder_191 ⟨Nat.zero_le _, Nat.zero_le _⟩ (fun r W1 H locs hp w => ?_)
            obtain ⟨rfl, rfl⟩ := hp
            have w : zW D A s.heap s [(hmo, .inr (7, [.ref ha, .ref hth, .ref hpa, .int (zI (((c9 : Nat) : Int))), .ref hsl, .ref hhe, .ref hpd, .int (zI (((pl : Nat) : Int))), .int (zI ((((a + 1) + 1 : Nat) : Int))), .ref hor, .int (zI (((od : Nat) : Int)))])), (hpd, .inl (D.2 0, 80, .inl (fT T))), (hor, .inl (D.2 0, 205, .inl (fQ (zu (zu Q (5 * od) (((ch : Nat) : Int))) (5 * od + 1) (((cA T pl (a + 1) : Nat) : Int) - 48)))))] H locs := w.sub [0, 1, 2] (by decide) rfl
            refine z_if_eq (tgt := 209) hx hb (by omega) dX7_isOrder_194 (by decide) (fun c194 => ?_) (fun c194 => ?_)
            · skip
              refine lv_iconst (v := zI 0) hx hb dX7_isOrder_209 rfl ?_
              exact z_zret hx hb hr hlocks w dX7_isOrder_210 (by omega) (by subst ech; obtain ⟨y1, y2, y3⟩ := oR_n eR0 eR; unfold rQ5; rw [zb_f y1, y2, y3]; exact ⟨rfl, rfl⟩)
            · skip
              exact absurd c194 (by omega)
      · skip
        rw [rP_Dn (c := 68) rfl hP182] at eR
        refine z_V_i (As := []) (rest := []) (Wr := []) ⟨hx, hb, hml, hown, hts⟩ (c_X7_isDigitN l D hmo ha hth hpa hsl hhe hpd hor c9 pl (a + 1) od T (zu Q (5 * od) (((ch : Nat) : Int))) hT (by omega) hP182) (cwV 0 hts gX7_isOrder_X7_isDigit rfl rfl rfl (by decide +kernel) ⟨Nat.le_of_ble_eq_true rfl, Nat.le_of_ble_eq_true rfl⟩) w (q0 := 0) rfl rfl rfl [0, 1, 2] rfl (by decide) [] rfl (by decide) (by decide) rfl hl.1 rfl (lv_room (Nat.le_of_ble_eq_true rfl)) dX7_isOrder_182 ⟨Nat.zero_le _, Nat.zero_le _⟩ (fun r W1 H locs hp w => ?_)
        obtain ⟨rfl, rfl⟩ := hp
        have w : zW D A s.heap s [(hmo, .inr (7, [.ref ha, .ref hth, .ref hpa, .int (zI (((c9 : Nat) : Int))), .ref hsl, .ref hhe, .ref hpd, .int (zI (((pl : Nat) : Int))), .int (zI (((a : Nat) : Int) + 1)), .ref hor, .int (zI (((od : Nat) : Int)))])), (hpd, .inl (D.2 0, 80, .inl (fT T))), (hor, .inl (D.2 0, 205, .inl (fQ (zu Q (5 * od) (((ch : Nat) : Int))))))] H locs := w.sub [0, 1, 2] (by decide) rfl
        refine z_if_eq (tgt := 209) hx hb (by omega) dX7_isOrder_185 (by decide) (fun c185 => ?_) (fun c185 => ?_)
        · skip
          refine lv_iconst (v := zI 0) hx hb dX7_isOrder_209 rfl ?_
          exact z_zret hx hb hr hlocks w dX7_isOrder_210 (by omega) (by subst ech; obtain ⟨y1, y2, y3⟩ := oR_n eR0 eR; unfold rQ5; rw [zb_f y1, y2, y3]; exact ⟨rfl, rfl⟩)
        · skip
          exact absurd c185 (by omega)
    · skip
      rw [csw38]
      refine z_lswit (tgt := 211) hx hb (by omega) dX7_isOrder_38 (by decide) (off := 173) (by decide) (by decide) ?_
      have ek : ch = 114 := by omega
      have eR := eR0
      rw [show shL (kI ch) = [114, 68] by rw [ek]; decide +kernel, rP_S (c := 114) (by decide) (by decide) (by omega)] at eR
      have hal9 := cA_lt (T := T) (pl := pl) (a := a) (by omega)
      refine lv_aload_n hx hb dX7_isOrder_211 rfl (lv_at hl 1 rfl) ?_
      refine lv_dup hx hb dX7_isOrder_212 rfl ?_
      refine z_get hx hb hown hts w inX7 0 8 rfl rfl (by decide) f_176 rfl rfl dX7_isOrder_213 ?_
      refine lv_iconst (v := zI 1) hx hb dX7_isOrder_216 rfl ?_
      refine z_iadd hx hb dX7_isOrder_217 ?_
      refine z_put hx hb hown hts w inX7 tyX7 tyX7_ok nmX7 0 8 rfl rfl (by decide) f_176 rfl rfl (ty := .int) rfl rfl rfl (Nat.le_of_ble_eq_true rfl) dX7_isOrder_218 (fun H locs w => ?_)
      have w : zW D A s.heap s [(hmo, .inr (7, [.ref ha, .ref hth, .ref hpa, .int (zI (((c9 : Nat) : Int))), .ref hsl, .ref hhe, .ref hpd, .int (zI (((pl : Nat) : Int))), .int (zI (((a : Nat) : Int) + 1)), .ref hor, .int (zI (((od : Nat) : Int)))])), (hpd, .inl (D.2 0, 80, .inl (fT T))), (hor, .inl (D.2 0, 205, .inl (fQ (zu Q (5 * od) (((ch : Nat) : Int))))))] H locs := w
      refine lv_aload_n hx hb dX7_isOrder_221 rfl (lv_at hl 1 rfl) ?_
      by_cases hP222 : 48 ≤ cA T pl (a + 1) ∧ cA T pl (a + 1) ≤ 50
      · skip
        rw [rP_D (c := 68) rfl hP222] at eR
        have hal222 := cA_lt (T := T) (pl := pl) (a := a + 1) (by omega)
        refine z_V_i (As := []) (rest := []) (Wr := []) ⟨hx, hb, hml, hown, hts⟩ (c_X7_isDigitY l D hmo ha hth hpa hsl hhe hpd hor c9 pl (a + 1) od T (zu Q (5 * od) (((ch : Nat) : Int))) hT (by omega) (by omega) hP222) (cwV 0 hts gX7_isOrder_X7_isDigit rfl rfl rfl (by decide +kernel) ⟨Nat.le_of_ble_eq_true rfl, Nat.le_of_ble_eq_true rfl⟩) w (q0 := 0) rfl rfl rfl [0, 1, 2] rfl (by decide) [] rfl (by decide) (by decide) rfl hl.1 rfl (lv_room (Nat.le_of_ble_eq_true rfl)) dX7_isOrder_222 ⟨Nat.zero_le _, Nat.zero_le _⟩ (fun r W1 H locs hp w => ?_)
        obtain ⟨rfl, rfl⟩ := hp
        have w : zW D A s.heap s [(hmo, .inr (7, [.ref ha, .ref hth, .ref hpa, .int (zI (((c9 : Nat) : Int))), .ref hsl, .ref hhe, .ref hpd, .int (zI (((pl : Nat) : Int))), .int (zI ((((a + 1) + 1 : Nat) : Int))), .ref hor, .int (zI (((od : Nat) : Int)))])), (hpd, .inl (D.2 0, 80, .inl (fT T))), (hor, .inl (D.2 0, 205, .inl (fQ (zu (zu Q (5 * od) (((ch : Nat) : Int))) (5 * od + 1) (((cA T pl (a + 1) : Nat) : Int) - 48)))))] H locs := w.sub [0, 1, 2] (by decide) rfl
        exact z_zret hx hb hr hlocks w dX7_isOrder_225 (by omega) (by subst ech; rw [rP_0] at eR; obtain ⟨y1, y2, y3⟩ := oR_y eR0 eR (by rw [ek]; decide); unfold rQ5; rw [zb_t y1, y2, y3]; exact ⟨rfl, rfl⟩)
      · skip
        rw [rP_Dn (c := 68) rfl hP222] at eR
        refine z_V_i (As := []) (rest := []) (Wr := []) ⟨hx, hb, hml, hown, hts⟩ (c_X7_isDigitN l D hmo ha hth hpa hsl hhe hpd hor c9 pl (a + 1) od T (zu Q (5 * od) (((ch : Nat) : Int))) hT (by omega) hP222) (cwV 0 hts gX7_isOrder_X7_isDigit rfl rfl rfl (by decide +kernel) ⟨Nat.le_of_ble_eq_true rfl, Nat.le_of_ble_eq_true rfl⟩) w (q0 := 0) rfl rfl rfl [0, 1, 2] rfl (by decide) [] rfl (by decide) (by decide) rfl hl.1 rfl (lv_room (Nat.le_of_ble_eq_true rfl)) dX7_isOrder_222 ⟨Nat.zero_le _, Nat.zero_le _⟩ (fun r W1 H locs hp w => ?_)
        obtain ⟨rfl, rfl⟩ := hp
        have w : zW D A s.heap s [(hmo, .inr (7, [.ref ha, .ref hth, .ref hpa, .int (zI (((c9 : Nat) : Int))), .ref hsl, .ref hhe, .ref hpd, .int (zI (((pl : Nat) : Int))), .int (zI (((a : Nat) : Int) + 1)), .ref hor, .int (zI (((od : Nat) : Int)))])), (hpd, .inl (D.2 0, 80, .inl (fT T))), (hor, .inl (D.2 0, 205, .inl (fQ (zu Q (5 * od) (((ch : Nat) : Int))))))] H locs := w.sub [0, 1, 2] (by decide) rfl
        exact z_zret hx hb hr hlocks w dX7_isOrder_225 (by omega) (by subst ech; obtain ⟨y1, y2, y3⟩ := oR_n eR0 eR; unfold rQ5; rw [zb_f y1, y2, y3]; exact ⟨rfl, rfl⟩)
    · skip
      rw [csw38]
      refine z_lswit (tgt := 226) hx hb (by omega) dX7_isOrder_38 (by decide) (off := 188) (by decide) (by decide) ?_
      have ek : ch = 115 := by omega
      have eR := eR0
      rw [show shL (kI ch) = [115, 78] by rw [ek]; decide +kernel, rP_S (c := 115) (by decide) (by decide) (by omega)] at eR
      have hal9 := cA_lt (T := T) (pl := pl) (a := a) (by omega)
      refine lv_aload_n hx hb dX7_isOrder_226 rfl (lv_at hl 1 rfl) ?_
      refine lv_dup hx hb dX7_isOrder_227 rfl ?_
      refine z_get hx hb hown hts w inX7 0 8 rfl rfl (by decide) f_176 rfl rfl dX7_isOrder_228 ?_
      refine lv_iconst (v := zI 1) hx hb dX7_isOrder_231 rfl ?_
      refine z_iadd hx hb dX7_isOrder_232 ?_
      refine z_put hx hb hown hts w inX7 tyX7 tyX7_ok nmX7 0 8 rfl rfl (by decide) f_176 rfl rfl (ty := .int) rfl rfl rfl (Nat.le_of_ble_eq_true rfl) dX7_isOrder_233 (fun H locs w => ?_)
      have w : zW D A s.heap s [(hmo, .inr (7, [.ref ha, .ref hth, .ref hpa, .int (zI (((c9 : Nat) : Int))), .ref hsl, .ref hhe, .ref hpd, .int (zI (((pl : Nat) : Int))), .int (zI (((a : Nat) : Int) + 1)), .ref hor, .int (zI (((od : Nat) : Int)))])), (hpd, .inl (D.2 0, 80, .inl (fT T))), (hor, .inl (D.2 0, 205, .inl (fQ (zu Q (5 * od) (((ch : Nat) : Int))))))] H locs := w
      refine lv_aload_n hx hb dX7_isOrder_236 rfl (lv_at hl 1 rfl) ?_
      refine lv_iconst (v := zI 1) hx hb dX7_isOrder_237 rfl ?_
      by_cases hP238 : 0 ≤ dg T pl (a + 1)
      · skip
        rw [rP_N (c := 78) rfl hP238] at eR
        have hni238 := nIt_at hP238 2
        refine z_V_i (As := [.int (zI (1))]) (rest := []) (Wr := []) ⟨hx, hb, hml, hown, hts⟩ (c_X7_isNumberY l D hmo ha hth hpa hsl hhe hpd hor c9 pl (a + 1) od T (zu Q (5 * od) (((ch : Nat) : Int))) hT (by omega) (by omega) 1 (by omega) hP238) (cwV 1 hts gX7_isOrder_X7_isNumber rfl rfl rfl (by decide +kernel) ⟨Nat.le_of_ble_eq_true rfl, Nat.le_of_ble_eq_true rfl⟩) w (q0 := 0) rfl rfl rfl [0, 1, 2] rfl (by decide) [] rfl (by decide) (by decide) rfl hl.1 rfl (lv_room (Nat.le_of_ble_eq_true rfl)) dX7_isOrder_238 ⟨Nat.zero_le _, Nat.zero_le _⟩ (fun r W1 H locs hp w => ?_)
        obtain ⟨rfl, rfl⟩ := hp
        have w : zW D A s.heap s [(hmo, .inr (7, [.ref ha, .ref hth, .ref hpa, .int (zI (((c9 : Nat) : Int))), .ref hsl, .ref hhe, .ref hpd, .int (zI (((pl : Nat) : Int))), .int (zI ((((nIt T pl (a + 1) 2).2 : Nat) : Int))), .ref hor, .int (zI (((od : Nat) : Int)))])), (hpd, .inl (D.2 0, 80, .inl (fT T))), (hor, .inl (D.2 0, 205, .inl (fQ (zu (zu Q (5 * od) (((ch : Nat) : Int))) (5 * od + 1) (nIt T pl (a + 1) 2).1))))] H locs := w.sub [0, 1, 2] (by decide) rfl
        exact z_zret hx hb hr hlocks w dX7_isOrder_241 (by omega) (by subst ech; rw [rP_0] at eR; obtain ⟨y1, y2, y3⟩ := oR_y eR0 eR (by rw [ek]; decide); unfold rQ5; rw [zb_t y1, y2, y3]; exact ⟨rfl, rfl⟩)
      · skip
        rw [rP_Nn (c := 78) rfl hP238] at eR
        refine z_V_i (As := [.int (zI (1))]) (rest := []) (Wr := []) ⟨hx, hb, hml, hown, hts⟩ (c_X7_isNumberN l D hmo ha hth hpa hsl hhe hpd hor c9 pl (a + 1) od T (zu Q (5 * od) (((ch : Nat) : Int))) hT (by omega) 1 (by omega) hP238) (cwV 1 hts gX7_isOrder_X7_isNumber rfl rfl rfl (by decide +kernel) ⟨Nat.le_of_ble_eq_true rfl, Nat.le_of_ble_eq_true rfl⟩) w (q0 := 0) rfl rfl rfl [0, 1, 2] rfl (by decide) [] rfl (by decide) (by decide) rfl hl.1 rfl (lv_room (Nat.le_of_ble_eq_true rfl)) dX7_isOrder_238 ⟨Nat.zero_le _, Nat.zero_le _⟩ (fun r W1 H locs hp w => ?_)
        obtain ⟨rfl, rfl⟩ := hp
        have w : zW D A s.heap s [(hmo, .inr (7, [.ref ha, .ref hth, .ref hpa, .int (zI (((c9 : Nat) : Int))), .ref hsl, .ref hhe, .ref hpd, .int (zI (((pl : Nat) : Int))), .int (zI (((a : Nat) : Int) + 1)), .ref hor, .int (zI (((od : Nat) : Int)))])), (hpd, .inl (D.2 0, 80, .inl (fT T))), (hor, .inl (D.2 0, 205, .inl (fQ (zu Q (5 * od) (((ch : Nat) : Int))))))] H locs := w.sub [0, 1, 2] (by decide) rfl
        exact z_zret hx hb hr hlocks w dX7_isOrder_241 (by omega) (by subst ech; obtain ⟨y1, y2, y3⟩ := oR_n eR0 eR; unfold rQ5; rw [zb_f y1, y2, y3]; exact ⟨rfl, rfl⟩)
    · skip
      rw [csw38]
      refine z_lswit (tgt := 242) hx hb (by omega) dX7_isOrder_38 (by decide) (off := 204) (by decide) (by decide) ?_
      have ek : ch = 120 := by omega
      have eR := eR0
      rw [show shL (kI ch) = [120] by rw [ek]; decide +kernel, rP_S (c := 120) (by decide) (by decide) (by omega)] at eR
      have hal9 := cA_lt (T := T) (pl := pl) (a := a) (by omega)
      refine lv_aload_n hx hb dX7_isOrder_242 rfl (lv_at hl 1 rfl) ?_
      refine lv_dup hx hb dX7_isOrder_243 rfl ?_
      refine z_get hx hb hown hts w inX7 0 8 rfl rfl (by decide) f_176 rfl rfl dX7_isOrder_244 ?_
      refine lv_iconst (v := zI 1) hx hb dX7_isOrder_247 rfl ?_
      refine z_iadd hx hb dX7_isOrder_248 ?_
      refine z_put hx hb hown hts w inX7 tyX7 tyX7_ok nmX7 0 8 rfl rfl (by decide) f_176 rfl rfl (ty := .int) rfl rfl rfl (Nat.le_of_ble_eq_true rfl) dX7_isOrder_249 (fun H locs w => ?_)
      have w : zW D A s.heap s [(hmo, .inr (7, [.ref ha, .ref hth, .ref hpa, .int (zI (((c9 : Nat) : Int))), .ref hsl, .ref hhe, .ref hpd, .int (zI (((pl : Nat) : Int))), .int (zI (((a : Nat) : Int) + 1)), .ref hor, .int (zI (((od : Nat) : Int)))])), (hpd, .inl (D.2 0, 80, .inl (fT T))), (hor, .inl (D.2 0, 205, .inl (fQ (zu Q (5 * od) (((ch : Nat) : Int))))))] H locs := w
      refine lv_iconst (v := zI 1) hx hb dX7_isOrder_252 rfl ?_
      exact z_zret hx hb hr hlocks w dX7_isOrder_253 (by omega) (by subst ech; rw [rP_0] at eR; obtain ⟨y1, y2, y3⟩ := oR_y eR0 eR (by rw [ek]; decide); unfold rQ5; rw [zb_t y1, y2, y3]; exact ⟨rfl, rfl⟩)
    · skip
      obtain ⟨nk38_0, nk38_1, nk38_2, nk38_3, nk38_4, nk38_5⟩ := csw38
      refine z_lswit (tgt := 254) hx hb (by omega) dX7_isOrder_38 (by decide) (off := 216) (by simp [Op.lookupswitch.offset, nk38_0, Ne.symm nk38_0, nk38_1, Ne.symm nk38_1, nk38_2, Ne.symm nk38_2, nk38_3, Ne.symm nk38_3, nk38_4, Ne.symm nk38_4, nk38_5, Ne.symm nk38_5]) (by decide) ?_
      refine lv_iconst (v := zI 0) hx hb dX7_isOrder_254 rfl ?_
      exact z_zret hx hb hr hlocks w dX7_isOrder_255 (by omega) (by subst ech; obtain ⟨y1, y2, y3⟩ := oR_z (T := T) (pl := pl) (a := a) (rd := 5 * od + 1) (Q := zu Q (5 * od) ((cA T pl a : Nat) : Int)) (kI_6 (by omega) (by omega) (by omega) (by omega) (by omega) (by omega)); unfold rQ5; rw [zb_f y1, y2, y3]; exact ⟨rfl, rfl⟩)
