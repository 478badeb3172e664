set_option maxHeartbeats 6000000 in
set_option maxRecDepth 100000 in
theorem c_X4_greatestWorth0 (l : Launch) (D : zD) (hse hlf hwb hp hw hz h0 h1 h2 hl0 : Nat) (S : Nat → Int) (L Wb : Nat → Int32) (hok : OkP S) (u : Int) (hu : 0 ≤ u ∧ u ≤ 99) : zM l yX4_greatestWorth wsX4_greatestWorth (zR (24)) zE0 D [.ref hse, .ref hp, .int (zI (0)), .int (zI (u))] (wSe D hse hlf hwb L Wb ++ wPk D hp hw hz h0 h1 h2 hl0 S) (zQi D (fun r W1 => r = zI (sGr S (zn S) (sLim S 0 u) 0 0) ∧ ∃ L2 W2 : Nat → Int32, W1 = (wSe D hse hlf hwb L2 W2 ++ wPk D hp hw hz h0 h1 h2 hl0 S))) := by
  refine zM.of (cc := cX4_greatestWorth) (maxL := 4) (ret := (some .int)) (by decide) rfl (Nat.le_of_ble_eq_true rfl) ?_
  intro p e s m below meth c A hx hb hml hown hts hr hlocks hE hnm w ls hl
  have hown : s.vm.findClass RX4 = some m.cls := hown
  have hl : lv_has ls 4 [(0, .ref hse), (1, .ref hp), (2, .int (zI (0))), (3, .int (zI (u)))] := hl
  have f_9 : (Cond.fieldLink RX4 9 "RelaxedSteps$Search" "left" "[I").before _ s = true := hts _ (by decide +kernel)
  have f_26 : (Cond.fieldLink RX4 26 "RelaxedSteps$Packing" "items" "I").before _ s = true := hts _ (by decide +kernel)
  have inX4 : ∀ w ∈ u_ws RX4 TX4 2, w ∈ wsX4_greatestWorth := by decide +kernel
  have inX2 : ∀ w ∈ u_ws RX2 TX2 4, w ∈ wsX4_greatestWorth := by decide +kernel
  have hn := zn_eq hok
  have h16 := zn_le hok
  have hlim := hok.2.2
  have hokp := hok
  have hLL := OkL_lim hok (d := 0) hu
  have w : zW D A s.heap s [(hse, .inr (4, [.ref hlf, .ref hwb])), (hlf, .inl (D.2 0, 3, .inl (L))), (hwb, .inl (D.2 0, 17, .inl (Wb))), (hp, .inr (2, [.ref hw, .ref hz, .ref hl0, .int (zI (S 0))])), (hw, .inl (D.2 0, 16, .inl (fC S 0))), (hz, .inl (D.2 5, 3, .inr (.inr (.inr (.inr (f3 h0 h1 h2)))))), (h0, .inl (D.2 0, 16, .inl (fC S 1))), (h1, .inl (D.2 0, 16, .inl (fC S 2))), (h2, .inl (D.2 0, 16, .inl (fC S 3))), (hl0, .inl (D.2 0, 3, .inl (fLm S)))] s.heap [] := w
  refine lv_aload_n hx hb dX4_greatestWorth_0 rfl (lv_at hl 0 rfl) ?_
  refine lv_aload_n hx hb dX4_greatestWorth_1 rfl (lv_at hl 1 rfl) ?_
  refine z_V_v (As := [.ref hp]) (rest := []) (Wr := []) ⟨hx, hb, hml, hown, hts⟩ (c_X4_start l D hse hlf hwb hp hw hz h0 h1 h2 hl0 S L Wb hokp) (cwV 1 hts gX4_greatestWorth_X4_start rfl rfl rfl (by decide +kernel) ⟨by simp only [zR]; omega, by simp only [zR]; omega⟩) w (q0 := 0) rfl rfl rfl [0, 1, 2, 3, 4, 5, 6, 7, 8, 9] rfl (by decide) [] rfl (by decide) (by decide) rfl hl.1 rfl (lv_room (Nat.le_of_ble_eq_true rfl)) dX4_greatestWorth_2 ⟨Nat.zero_le _, Nat.zero_le _⟩ (fun W1 H locs hp w => ?_)
  obtain ⟨Wc, rfl, hW⟩ := hp
  have w : zW D A s.heap s [(hse, .inr (4, [.ref hlf, .ref hwb])), (hlf, .inl (D.2 0, 3, .inl (fLm S))), (hwb, .inl (D.2 0, 17, .inl (Wc))), (hp, .inr (2, [.ref hw, .ref hz, .ref hl0, .int (zI (S 0))])), (hw, .inl (D.2 0, 16, .inl (fC S 0))), (hz, .inl (D.2 5, 3, .inr (.inr (.inr (.inr (f3 h0 h1 h2)))))), (h0, .inl (D.2 0, 16, .inl (fC S 1))), (h1, .inl (D.2 0, 16, .inl (fC S 2))), (h2, .inl (D.2 0, 16, .inl (fC S 3))), (hl0, .inl (D.2 0, 3, .inl (fLm S)))] H locs := w.sub [0, 1, 2, 3, 4, 5, 6, 7, 8, 9] (by decide) rfl
  refine lv_iload_n hx hb dX4_greatestWorth_5 rfl (lv_at hl 2 rfl) ?_
  refine z_SN_i (As := [.int (zI (0))]) (rest := []) (Wr := [(hse, .inr (4, [.ref hlf, .ref hwb])), (hlf, .inl (D.2 0, 3, .inl (fLm S))), (hwb, .inl (D.2 0, 17, .inl (Wc))), (hp, .inr (2, [.ref hw, .ref hz, .ref hl0, .int (zI (S 0))])), (hw, .inl (D.2 0, 16, .inl (fC S 0))), (hz, .inl (D.2 5, 3, .inr (.inr (.inr (.inr (f3 h0 h1 h2)))))), (h0, .inl (D.2 0, 16, .inl (fC S 1))), (h1, .inl (D.2 0, 16, .inl (fC S 2))), (h2, .inl (D.2 0, 16, .inl (fC S 3))), (hl0, .inl (D.2 0, 3, .inl (fLm S)))]) ⟨hx, hb, hml, hown, hts⟩ (c_X6_isDimension l D 0 (by omega)) ⟨va_cnB 1 hts ggX4_greatestWorth_X6_isDimension rfl rfl rfl (w.1.2 (RX4, 22, yX6_isDimension, "RelaxedSteps") (by decide +kernel)) (hts (.initialized RX6) (by decide +kernel)) (by decide +kernel) ⟨by simp only [zR]; omega, by simp only [zR]; omega⟩, hts (.static yX6_isDimension) (by decide +kernel), trivial⟩ w [] rfl (by decide) [0, 1, 2, 3, 4, 5, 6, 7, 8, 9] rfl (by decide) (by decide) rfl hl.1 rfl (lv_room (Nat.le_of_ble_eq_true rfl)) dX4_greatestWorth_6 ⟨Nat.zero_le _, Nat.zero_le _⟩ (fun r W1 H locs hp w => ?_)
  obtain ⟨rfl, rfl⟩ := hp
  have w : zW D A s.heap s [(hse, .inr (4, [.ref hlf, .ref hwb])), (hlf, .inl (D.2 0, 3, .inl (fLm S))), (hwb, .inl (D.2 0, 17, .inl (Wc))), (hp, .inr (2, [.ref hw, .ref hz, .ref hl0, .int (zI (S 0))])), (hw, .inl (D.2 0, 16, .inl (fC S 0))), (hz, .inl (D.2 5, 3, .inr (.inr (.inr (.inr (f3 h0 h1 h2)))))), (h0, .inl (D.2 0, 16, .inl (fC S 1))), (h1, .inl (D.2 0, 16, .inl (fC S 2))), (h2, .inl (D.2 0, 16, .inl (fC S 3))), (hl0, .inl (D.2 0, 3, .inl (fLm S)))] H locs := w.sub [0, 1, 2, 3, 4, 5, 6, 7, 8, 9] (by decide) rfl
  refine z_if_eq_b (tgt := 22) hx hb dX4_greatestWorth_9 (by decide) (fun c9 => ?_) (fun c9 => ?_)
  · skip
    exact absurd (show (0 : Int) ≤ 0 ∧ (0 : Int) ≤ 2 by omega) c9
  · skip
    refine lv_aload_n hx hb dX4_greatestWorth_12 rfl (lv_at hl 0 rfl) ?_
    refine z_get hx hb hown hts w inX4 0 0 rfl rfl (by decide) f_9 rfl rfl dX4_greatestWorth_13 ?_
    refine lv_iload_n hx hb dX4_greatestWorth_16 rfl (lv_at hl 2 rfl) ?_
    refine lv_dup2_11 hx hb dX4_greatestWorth_17 rfl rfl ?_
    refine z_iald hx hb w 1 rfl 0 (by omega) (by decide) rfl (v := (zI (S 65))) (if_pos (by omega)) dX4_greatestWorth_18 ?_
    refine lv_iload_n hx hb dX4_greatestWorth_19 rfl (lv_at hl 3 rfl) ?_
    refine z_iadd hx hb dX4_greatestWorth_20 ?_
    refine z_iast hx hb w 1 rfl 0 (by omega) (by decide) rfl dX4_greatestWorth_21 (fMu (sLim S 0 u)) (fun i hi => by rw [fLm_lim S 0]; exact fMu_lim (by omega) hi) (fun H locs w => ?_)
    have w : zW D A s.heap s [(hse, .inr (4, [.ref hlf, .ref hwb])), (hlf, .inl (D.2 0, 3, .inl (fMu (sLim S 0 u)))), (hwb, .inl (D.2 0, 17, .inl (Wc))), (hp, .inr (2, [.ref hw, .ref hz, .ref hl0, .int (zI (S 0))])), (hw, .inl (D.2 0, 16, .inl (fC S 0))), (hz, .inl (D.2 5, 3, .inr (.inr (.inr (.inr (f3 h0 h1 h2)))))), (h0, .inl (D.2 0, 16, .inl (fC S 1))), (h1, .inl (D.2 0, 16, .inl (fC S 2))), (h2, .inl (D.2 0, 16, .inl (fC S 3))), (hl0, .inl (D.2 0, 3, .inl (fLm S)))] H locs := w
    refine lv_aload_n hx hb dX4_greatestWorth_22 rfl (lv_at hl 0 rfl) ?_
    refine lv_aload_n hx hb dX4_greatestWorth_23 rfl (lv_at hl 1 rfl) ?_
    refine lv_aload_n hx hb dX4_greatestWorth_24 rfl (lv_at hl 1 rfl) ?_
    refine z_get hx hb hown hts w inX2 3 3 rfl rfl (by decide) f_26 rfl rfl dX4_greatestWorth_25 ?_
    refine lv_iconst (v := zI 0) hx hb dX4_greatestWorth_28 rfl ?_
    refine lv_iconst (v := zI 0) hx hb dX4_greatestWorth_29 rfl ?_
    refine W.eq (g2 := F0 m 30 ls [.int (zI (0)), .int (zI (0)), .int (zI (((zn S : Nat) : Int))), .ref hp, .ref hse]) (by rw [hn]) ?_
    refine z_S_i (As := [.ref hse, .ref hp, .int (zI (((zn S : Nat) : Int))), .int (zI (0)), .int (zI (0))]) (rest := []) (Wr := []) ⟨hx, hb, hml, hown, hts⟩ (c_X4_greatest l D hse hlf hwb hp hw hz h0 h1 h2 hl0 S Wc hokp hW (zn S) (Nat.le_refl _) (sLim S 0 u) 0 0 hLL (by omega) (by omega) (by omega) (by omega)) (va_cwS 5 hts gX4_greatestWorth_X4_greatest rfl rfl rfl (by decide +kernel) ⟨by simp only [zR]; omega, by simp only [zR]; omega⟩) w [0, 1, 2, 3, 4, 5, 6, 7, 8, 9] rfl (by decide) [] rfl (by decide) (by decide) rfl hl.1 rfl (lv_room (Nat.le_of_ble_eq_true rfl)) dX4_greatestWorth_30 ⟨Nat.zero_le _, Nat.zero_le _⟩ (fun r W1 H locs hp w => ?_)
    obtain ⟨rfl, rfl⟩ := hp
    have w : zW D A s.heap s [(hse, .inr (4, [.ref hlf, .ref hwb])), (hlf, .inl (D.2 0, 3, .inl (fMu (sLim S 0 u)))), (hwb, .inl (D.2 0, 17, .inl (Wc))), (hp, .inr (2, [.ref hw, .ref hz, .ref hl0, .int (zI (S 0))])), (hw, .inl (D.2 0, 16, .inl (fC S 0))), (hz, .inl (D.2 5, 3, .inr (.inr (.inr (.inr (f3 h0 h1 h2)))))), (h0, .inl (D.2 0, 16, .inl (fC S 1))), (h1, .inl (D.2 0, 16, .inl (fC S 2))), (h2, .inl (D.2 0, 16, .inl (fC S 3))), (hl0, .inl (D.2 0, 3, .inl (fLm S)))] H locs := w.sub [0, 1, 2, 3, 4, 5, 6, 7, 8, 9] (by decide) rfl
    exact z_iret hx hb hr hlocks w dX4_greatestWorth_33 ⟨rfl, _, _, rfl⟩
set_option maxHeartbeats 6000000 in
set_option maxRecDepth 100000 in
theorem c_X4_greatestWorth1 (l : Launch) (D : zD) (hse hlf hwb hp hw hz h0 h1 h2 hl0 : Nat) (S : Nat → Int) (L Wb : Nat → Int32) (hok : OkP S) (u : Int) (hu : 0 ≤ u ∧ u ≤ 99) : zM l yX4_greatestWorth wsX4_greatestWorth (zR (24)) zE0 D [.ref hse, .ref hp, .int (zI (1)), .int (zI (u))] (wSe D hse hlf hwb L Wb ++ wPk D hp hw hz h0 h1 h2 hl0 S) (zQi D (fun r W1 => r = zI (sGr S (zn S) (sLim S 1 u) 0 0) ∧ ∃ L2 W2 : Nat → Int32, W1 = (wSe D hse hlf hwb L2 W2 ++ wPk D hp hw hz h0 h1 h2 hl0 S))) := by
  refine zM.of (cc := cX4_greatestWorth) (maxL := 4) (ret := (some .int)) (by decide) rfl (Nat.le_of_ble_eq_true rfl) ?_
  intro p e s m below meth c A hx hb hml hown hts hr hlocks hE hnm w ls hl
  have hown : s.vm.findClass RX4 = some m.cls := hown
  have hl : lv_has ls 4 [(0, .ref hse), (1, .ref hp), (2, .int (zI (1))), (3, .int (zI (u)))] := hl
  have f_9 : (Cond.fieldLink RX4 9 "RelaxedSteps$Search" "left" "[I").before _ s = true := hts _ (by decide +kernel)
  have f_26 : (Cond.fieldLink RX4 26 "RelaxedSteps$Packing" "items" "I").before _ s = true := hts _ (by decide +kernel)
  have inX4 : ∀ w ∈ u_ws RX4 TX4 2, w ∈ wsX4_greatestWorth := by decide +kernel
  have inX2 : ∀ w ∈ u_ws RX2 TX2 4, w ∈ wsX4_greatestWorth := by decide +kernel
  have hn := zn_eq hok
  have h16 := zn_le hok
  have hlim := hok.2.2
  have hokp := hok
  have hLL := OkL_lim hok (d := 1) hu
  have w : zW D A s.heap s [(hse, .inr (4, [.ref hlf, .ref hwb])), (hlf, .inl (D.2 0, 3, .inl (L))), (hwb, .inl (D.2 0, 17, .inl (Wb))), (hp, .inr (2, [.ref hw, .ref hz, .ref hl0, .int (zI (S 0))])), (hw, .inl (D.2 0, 16, .inl (fC S 0))), (hz, .inl (D.2 5, 3, .inr (.inr (.inr (.inr (f3 h0 h1 h2)))))), (h0, .inl (D.2 0, 16, .inl (fC S 1))), (h1, .inl (D.2 0, 16, .inl (fC S 2))), (h2, .inl (D.2 0, 16, .inl (fC S 3))), (hl0, .inl (D.2 0, 3, .inl (fLm S)))] s.heap [] := w
  refine lv_aload_n hx hb dX4_greatestWorth_0 rfl (lv_at hl 0 rfl) ?_
  refine lv_aload_n hx hb dX4_greatestWorth_1 rfl (lv_at hl 1 rfl) ?_
  refine z_V_v (As := [.ref hp]) (rest := []) (Wr := []) ⟨hx, hb, hml, hown, hts⟩ (c_X4_start l D hse hlf hwb hp hw hz h0 h1 h2 hl0 S L Wb hokp) (cwV 1 hts gX4_greatestWorth_X4_start rfl rfl rfl (by decide +kernel) ⟨by simp only [zR]; omega, by simp only [zR]; omega⟩) w (q0 := 0) rfl rfl rfl [0, 1, 2, 3, 4, 5, 6, 7, 8, 9] rfl (by decide) [] rfl (by decide) (by decide) rfl hl.1 rfl (lv_room (Nat.le_of_ble_eq_true rfl)) dX4_greatestWorth_2 ⟨Nat.zero_le _, Nat.zero_le _⟩ (fun W1 H locs hp w => ?_)
  obtain ⟨Wc, rfl, hW⟩ := hp
  have w : zW D A s.heap s [(hse, .inr (4, [.ref hlf, .ref hwb])), (hlf, .inl (D.2 0, 3, .inl (fLm S))), (hwb, .inl (D.2 0, 17, .inl (Wc))), (hp, .inr (2, [.ref hw, .ref hz, .ref hl0, .int (zI (S 0))])), (hw, .inl (D.2 0, 16, .inl (fC S 0))), (hz, .inl (D.2 5, 3, .inr (.inr (.inr (.inr (f3 h0 h1 h2)))))), (h0, .inl (D.2 0, 16, .inl (fC S 1))), (h1, .inl (D.2 0, 16, .inl (fC S 2))), (h2, .inl (D.2 0, 16, .inl (fC S 3))), (hl0, .inl (D.2 0, 3, .inl (fLm S)))] H locs := w.sub [0, 1, 2, 3, 4, 5, 6, 7, 8, 9] (by decide) rfl
  refine lv_iload_n hx hb dX4_greatestWorth_5 rfl (lv_at hl 2 rfl) ?_
  refine z_SN_i (As := [.int (zI (1))]) (rest := []) (Wr := [(hse, .inr (4, [.ref hlf, .ref hwb])), (hlf, .inl (D.2 0, 3, .inl (fLm S))), (hwb, .inl (D.2 0, 17, .inl (Wc))), (hp, .inr (2, [.ref hw, .ref hz, .ref hl0, .int (zI (S 0))])), (hw, .inl (D.2 0, 16, .inl (fC S 0))), (hz, .inl (D.2 5, 3, .inr (.inr (.inr (.inr (f3 h0 h1 h2)))))), (h0, .inl (D.2 0, 16, .inl (fC S 1))), (h1, .inl (D.2 0, 16, .inl (fC S 2))), (h2, .inl (D.2 0, 16, .inl (fC S 3))), (hl0, .inl (D.2 0, 3, .inl (fLm S)))]) ⟨hx, hb, hml, hown, hts⟩ (c_X6_isDimension l D 1 (by omega)) ⟨va_cnB 1 hts ggX4_greatestWorth_X6_isDimension rfl rfl rfl (w.1.2 (RX4, 22, yX6_isDimension, "RelaxedSteps") (by decide +kernel)) (hts (.initialized RX6) (by decide +kernel)) (by decide +kernel) ⟨by simp only [zR]; omega, by simp only [zR]; omega⟩, hts (.static yX6_isDimension) (by decide +kernel), trivial⟩ w [] rfl (by decide) [0, 1, 2, 3, 4, 5, 6, 7, 8, 9] rfl (by decide) (by decide) rfl hl.1 rfl (lv_room (Nat.le_of_ble_eq_true rfl)) dX4_greatestWorth_6 ⟨Nat.zero_le _, Nat.zero_le _⟩ (fun r W1 H locs hp w => ?_)
  obtain ⟨rfl, rfl⟩ := hp
  have w : zW D A s.heap s [(hse, .inr (4, [.ref hlf, .ref hwb])), (hlf, .inl (D.2 0, 3, .inl (fLm S))), (hwb, .inl (D.2 0, 17, .inl (Wc))), (hp, .inr (2, [.ref hw, .ref hz, .ref hl0, .int (zI (S 0))])), (hw, .inl (D.2 0, 16, .inl (fC S 0))), (hz, .inl (D.2 5, 3, .inr (.inr (.inr (.inr (f3 h0 h1 h2)))))), (h0, .inl (D.2 0, 16, .inl (fC S 1))), (h1, .inl (D.2 0, 16, .inl (fC S 2))), (h2, .inl (D.2 0, 16, .inl (fC S 3))), (hl0, .inl (D.2 0, 3, .inl (fLm S)))] H locs := w.sub [0, 1, 2, 3, 4, 5, 6, 7, 8, 9] (by decide) rfl
  refine z_if_eq_b (tgt := 22) hx hb dX4_greatestWorth_9 (by decide) (fun c9 => ?_) (fun c9 => ?_)
  · skip
    exact absurd (show (0 : Int) ≤ 1 ∧ (1 : Int) ≤ 2 by omega) c9
  · skip
    refine lv_aload_n hx hb dX4_greatestWorth_12 rfl (lv_at hl 0 rfl) ?_
    refine z_get hx hb hown hts w inX4 0 0 rfl rfl (by decide) f_9 rfl rfl dX4_greatestWorth_13 ?_
    refine lv_iload_n hx hb dX4_greatestWorth_16 rfl (lv_at hl 2 rfl) ?_
    refine lv_dup2_11 hx hb dX4_greatestWorth_17 rfl rfl ?_
    refine z_iald hx hb w 1 rfl 1 (by omega) (by decide) rfl (v := (zI (S 66))) (if_pos (by omega)) dX4_greatestWorth_18 ?_
    refine lv_iload_n hx hb dX4_greatestWorth_19 rfl (lv_at hl 3 rfl) ?_
    refine z_iadd hx hb dX4_greatestWorth_20 ?_
    refine z_iast hx hb w 1 rfl 1 (by omega) (by decide) rfl dX4_greatestWorth_21 (fMu (sLim S 1 u)) (fun i hi => by rw [fLm_lim S 1]; exact fMu_lim (by omega) hi) (fun H locs w => ?_)
    have w : zW D A s.heap s [(hse, .inr (4, [.ref hlf, .ref hwb])), (hlf, .inl (D.2 0, 3, .inl (fMu (sLim S 1 u)))), (hwb, .inl (D.2 0, 17, .inl (Wc))), (hp, .inr (2, [.ref hw, .ref hz, .ref hl0, .int (zI (S 0))])), (hw, .inl (D.2 0, 16, .inl (fC S 0))), (hz, .inl (D.2 5, 3, .inr (.inr (.inr (.inr (f3 h0 h1 h2)))))), (h0, .inl (D.2 0, 16, .inl (fC S 1))), (h1, .inl (D.2 0, 16, .inl (fC S 2))), (h2, .inl (D.2 0, 16, .inl (fC S 3))), (hl0, .inl (D.2 0, 3, .inl (fLm S)))] H locs := w
    refine lv_aload_n hx hb dX4_greatestWorth_22 rfl (lv_at hl 0 rfl) ?_
    refine lv_aload_n hx hb dX4_greatestWorth_23 rfl (lv_at hl 1 rfl) ?_
    refine lv_aload_n hx hb dX4_greatestWorth_24 rfl (lv_at hl 1 rfl) ?_
    refine z_get hx hb hown hts w inX2 3 3 rfl rfl (by decide) f_26 rfl rfl dX4_greatestWorth_25 ?_
    refine lv_iconst (v := zI 0) hx hb dX4_greatestWorth_28 rfl ?_
    refine lv_iconst (v := zI 0) hx hb dX4_greatestWorth_29 rfl ?_
    refine W.eq (g2 := F0 m 30 ls [.int (zI (0)), .int (zI (0)), .int (zI (((zn S : Nat) : Int))), .ref hp, .ref hse]) (by rw [hn]) ?_
    refine z_S_i (As := [.ref hse, .ref hp, .int (zI (((zn S : Nat) : Int))), .int (zI (0)), .int (zI (0))]) (rest := []) (Wr := []) ⟨hx, hb, hml, hown, hts⟩ (c_X4_greatest l D hse hlf hwb hp hw hz h0 h1 h2 hl0 S Wc hokp hW (zn S) (Nat.le_refl _) (sLim S 1 u) 0 0 hLL (by omega) (by omega) (by omega) (by omega)) (va_cwS 5 hts gX4_greatestWorth_X4_greatest rfl rfl rfl (by decide +kernel) ⟨by simp only [zR]; omega, by simp only [zR]; omega⟩) w [0, 1, 2, 3, 4, 5, 6, 7, 8, 9] rfl (by decide) [] rfl (by decide) (by decide) rfl hl.1 rfl (lv_room (Nat.le_of_ble_eq_true rfl)) dX4_greatestWorth_30 ⟨Nat.zero_le _, Nat.zero_le _⟩ (fun r W1 H locs hp w => ?_)
    obtain ⟨rfl, rfl⟩ := hp
    have w : zW D A s.heap s [(hse, .inr (4, [.ref hlf, .ref hwb])), (hlf, .inl (D.2 0, 3, .inl (fMu (sLim S 1 u)))), (hwb, .inl (D.2 0, 17, .inl (Wc))), (hp, .inr (2, [.ref hw, .ref hz, .ref hl0, .int (zI (S 0))])), (hw, .inl (D.2 0, 16, .inl (fC S 0))), (hz, .inl (D.2 5, 3, .inr (.inr (.inr (.inr (f3 h0 h1 h2)))))), (h0, .inl (D.2 0, 16, .inl (fC S 1))), (h1, .inl (D.2 0, 16, .inl (fC S 2))), (h2, .inl (D.2 0, 16, .inl (fC S 3))), (hl0, .inl (D.2 0, 3, .inl (fLm S)))] H locs := w.sub [0, 1, 2, 3, 4, 5, 6, 7, 8, 9] (by decide) rfl
    exact z_iret hx hb hr hlocks w dX4_greatestWorth_33 ⟨rfl, _, _, rfl⟩
set_option maxHeartbeats 6000000 in
set_option maxRecDepth 100000 in
theorem c_X4_greatestWorth2 (l : Launch) (D : zD) (hse hlf hwb hp hw hz h0 h1 h2 hl0 : Nat) (S : Nat → Int) (L Wb : Nat → Int32) (hok : OkP S) (u : Int) (hu : 0 ≤ u ∧ u ≤ 99) : zM l yX4_greatestWorth wsX4_greatestWorth (zR (24)) zE0 D [.ref hse, .ref hp, .int (zI (2)), .int (zI (u))] (wSe D hse hlf hwb L Wb ++ wPk D hp hw hz h0 h1 h2 hl0 S) (zQi D (fun r W1 => r = zI (sGr S (zn S) (sLim S 2 u) 0 0) ∧ ∃ L2 W2 : Nat → Int32, W1 = (wSe D hse hlf hwb L2 W2 ++ wPk D hp hw hz h0 h1 h2 hl0 S))) := by
  refine zM.of (cc := cX4_greatestWorth) (maxL := 4) (ret := (some .int)) (by decide) rfl (Nat.le_of_ble_eq_true rfl) ?_
  intro p e s m below meth c A hx hb hml hown hts hr hlocks hE hnm w ls hl
  have hown : s.vm.findClass RX4 = some m.cls := hown
  have hl : lv_has ls 4 [(0, .ref hse), (1, .ref hp), (2, .int (zI (2))), (3, .int (zI (u)))] := hl
  have f_9 : (Cond.fieldLink RX4 9 "RelaxedSteps$Search" "left" "[I").before _ s = true := hts _ (by decide +kernel)
  have f_26 : (Cond.fieldLink RX4 26 "RelaxedSteps$Packing" "items" "I").before _ s = true := hts _ (by decide +kernel)
  have inX4 : ∀ w ∈ u_ws RX4 TX4 2, w ∈ wsX4_greatestWorth := by decide +kernel
  have inX2 : ∀ w ∈ u_ws RX2 TX2 4, w ∈ wsX4_greatestWorth := by decide +kernel
  have hn := zn_eq hok
  have h16 := zn_le hok
  have hlim := hok.2.2
  have hokp := hok
  have hLL := OkL_lim hok (d := 2) hu
  have w : zW D A s.heap s [(hse, .inr (4, [.ref hlf, .ref hwb])), (hlf, .inl (D.2 0, 3, .inl (L))), (hwb, .inl (D.2 0, 17, .inl (Wb))), (hp, .inr (2, [.ref hw, .ref hz, .ref hl0, .int (zI (S 0))])), (hw, .inl (D.2 0, 16, .inl (fC S 0))), (hz, .inl (D.2 5, 3, .inr (.inr (.inr (.inr (f3 h0 h1 h2)))))), (h0, .inl (D.2 0, 16, .inl (fC S 1))), (h1, .inl (D.2 0, 16, .inl (fC S 2))), (h2, .inl (D.2 0, 16, .inl (fC S 3))), (hl0, .inl (D.2 0, 3, .inl (fLm S)))] s.heap [] := w
  refine lv_aload_n hx hb dX4_greatestWorth_0 rfl (lv_at hl 0 rfl) ?_
  refine lv_aload_n hx hb dX4_greatestWorth_1 rfl (lv_at hl 1 rfl) ?_
  refine z_V_v (As := [.ref hp]) (rest := []) (Wr := []) ⟨hx, hb, hml, hown, hts⟩ (c_X4_start l D hse hlf hwb hp hw hz h0 h1 h2 hl0 S L Wb hokp) (cwV 1 hts gX4_greatestWorth_X4_start rfl rfl rfl (by decide +kernel) ⟨by simp only [zR]; omega, by simp only [zR]; omega⟩) w (q0 := 0) rfl rfl rfl [0, 1, 2, 3, 4, 5, 6, 7, 8, 9] rfl (by decide) [] rfl (by decide) (by decide) rfl hl.1 rfl (lv_room (Nat.le_of_ble_eq_true rfl)) dX4_greatestWorth_2 ⟨Nat.zero_le _, Nat.zero_le _⟩ (fun W1 H locs hp w => ?_)
  obtain ⟨Wc, rfl, hW⟩ := hp
  have w : zW D A s.heap s [(hse, .inr (4, [.ref hlf, .ref hwb])), (hlf, .inl (D.2 0, 3, .inl (fLm S))), (hwb, .inl (D.2 0, 17, .inl (Wc))), (hp, .inr (2, [.ref hw, .ref hz, .ref hl0, .int (zI (S 0))])), (hw, .inl (D.2 0, 16, .inl (fC S 0))), (hz, .inl (D.2 5, 3, .inr (.inr (.inr (.inr (f3 h0 h1 h2)))))), (h0, .inl (D.2 0, 16, .inl (fC S 1))), (h1, .inl (D.2 0, 16, .inl (fC S 2))), (h2, .inl (D.2 0, 16, .inl (fC S 3))), (hl0, .inl (D.2 0, 3, .inl (fLm S)))] H locs := w.sub [0, 1, 2, 3, 4, 5, 6, 7, 8, 9] (by decide) rfl
  refine lv_iload_n hx hb dX4_greatestWorth_5 rfl (lv_at hl 2 rfl) ?_
  refine z_SN_i (As := [.int (zI (2))]) (rest := []) (Wr := [(hse, .inr (4, [.ref hlf, .ref hwb])), (hlf, .inl (D.2 0, 3, .inl (fLm S))), (hwb, .inl (D.2 0, 17, .inl (Wc))), (hp, .inr (2, [.ref hw, .ref hz, .ref hl0, .int (zI (S 0))])), (hw, .inl (D.2 0, 16, .inl (fC S 0))), (hz, .inl (D.2 5, 3, .inr (.inr (.inr (.inr (f3 h0 h1 h2)))))), (h0, .inl (D.2 0, 16, .inl (fC S 1))), (h1, .inl (D.2 0, 16, .inl (fC S 2))), (h2, .inl (D.2 0, 16, .inl (fC S 3))), (hl0, .inl (D.2 0, 3, .inl (fLm S)))]) ⟨hx, hb, hml, hown, hts⟩ (c_X6_isDimension l D 2 (by omega)) ⟨va_cnB 1 hts ggX4_greatestWorth_X6_isDimension rfl rfl rfl (w.1.2 (RX4, 22, yX6_isDimension, "RelaxedSteps") (by decide +kernel)) (hts (.initialized RX6) (by decide +kernel)) (by decide +kernel) ⟨by simp only [zR]; omega, by simp only [zR]; omega⟩, hts (.static yX6_isDimension) (by decide +kernel), trivial⟩ w [] rfl (by decide) [0, 1, 2, 3, 4, 5, 6, 7, 8, 9] rfl (by decide) (by decide) rfl hl.1 rfl (lv_room (Nat.le_of_ble_eq_true rfl)) dX4_greatestWorth_6 ⟨Nat.zero_le _, Nat.zero_le _⟩ (fun r W1 H locs hp w => ?_)
  obtain ⟨rfl, rfl⟩ := hp
  have w : zW D A s.heap s [(hse, .inr (4, [.ref hlf, .ref hwb])), (hlf, .inl (D.2 0, 3, .inl (fLm S))), (hwb, .inl (D.2 0, 17, .inl (Wc))), (hp, .inr (2, [.ref hw, .ref hz, .ref hl0, .int (zI (S 0))])), (hw, .inl (D.2 0, 16, .inl (fC S 0))), (hz, .inl (D.2 5, 3, .inr (.inr (.inr (.inr (f3 h0 h1 h2)))))), (h0, .inl (D.2 0, 16, .inl (fC S 1))), (h1, .inl (D.2 0, 16, .inl (fC S 2))), (h2, .inl (D.2 0, 16, .inl (fC S 3))), (hl0, .inl (D.2 0, 3, .inl (fLm S)))] H locs := w.sub [0, 1, 2, 3, 4, 5, 6, 7, 8, 9] (by decide) rfl
  refine z_if_eq_b (tgt := 22) hx hb dX4_greatestWorth_9 (by decide) (fun c9 => ?_) (fun c9 => ?_)
  · skip
    exact absurd (show (0 : Int) ≤ 2 ∧ (2 : Int) ≤ 2 by omega) c9
  · skip
    refine lv_aload_n hx hb dX4_greatestWorth_12 rfl (lv_at hl 0 rfl) ?_
    refine z_get hx hb hown hts w inX4 0 0 rfl rfl (by decide) f_9 rfl rfl dX4_greatestWorth_13 ?_
    refine lv_iload_n hx hb dX4_greatestWorth_16 rfl (lv_at hl 2 rfl) ?_
    refine lv_dup2_11 hx hb dX4_greatestWorth_17 rfl rfl ?_
    refine z_iald hx hb w 1 rfl 2 (by omega) (by decide) rfl (v := (zI (S 67))) (if_pos (by omega)) dX4_greatestWorth_18 ?_
    refine lv_iload_n hx hb dX4_greatestWorth_19 rfl (lv_at hl 3 rfl) ?_
    refine z_iadd hx hb dX4_greatestWorth_20 ?_
    refine z_iast hx hb w 1 rfl 2 (by omega) (by decide) rfl dX4_greatestWorth_21 (fMu (sLim S 2 u)) (fun i hi => by rw [fLm_lim S 2]; exact fMu_lim (by omega) hi) (fun H locs w => ?_)
    have w : zW D A s.heap s [(hse, .inr (4, [.ref hlf, .ref hwb])), (hlf, .inl (D.2 0, 3, .inl (fMu (sLim S 2 u)))), (hwb, .inl (D.2 0, 17, .inl (Wc))), (hp, .inr (2, [.ref hw, .ref hz, .ref hl0, .int (zI (S 0))])), (hw, .inl (D.2 0, 16, .inl (fC S 0))), (hz, .inl (D.2 5, 3, .inr (.inr (.inr (.inr (f3 h0 h1 h2)))))), (h0, .inl (D.2 0, 16, .inl (fC S 1))), (h1, .inl (D.2 0, 16, .inl (fC S 2))), (h2, .inl (D.2 0, 16, .inl (fC S 3))), (hl0, .inl (D.2 0, 3, .inl (fLm S)))] H locs := w
    refine lv_aload_n hx hb dX4_greatestWorth_22 rfl (lv_at hl 0 rfl) ?_
    refine lv_aload_n hx hb dX4_greatestWorth_23 rfl (lv_at hl 1 rfl) ?_
    refine lv_aload_n hx hb dX4_greatestWorth_24 rfl (lv_at hl 1 rfl) ?_
    refine z_get hx hb hown hts w inX2 3 3 rfl rfl (by decide) f_26 rfl rfl dX4_greatestWorth_25 ?_
    refine lv_iconst (v := zI 0) hx hb dX4_greatestWorth_28 rfl ?_
    refine lv_iconst (v := zI 0) hx hb dX4_greatestWorth_29 rfl ?_
    refine W.eq (g2 := F0 m 30 ls [.int (zI (0)), .int (zI (0)), .int (zI (((zn S : Nat) : Int))), .ref hp, .ref hse]) (by rw [hn]) ?_
    refine z_S_i (As := [.ref hse, .ref hp, .int (zI (((zn S : Nat) : Int))), .int (zI (0)), .int (zI (0))]) (rest := []) (Wr := []) ⟨hx, hb, hml, hown, hts⟩ (c_X4_greatest l D hse hlf hwb hp hw hz h0 h1 h2 hl0 S Wc hokp hW (zn S) (Nat.le_refl _) (sLim S 2 u) 0 0 hLL (by omega) (by omega) (by omega) (by omega)) (va_cwS 5 hts gX4_greatestWorth_X4_greatest rfl rfl rfl (by decide +kernel) ⟨by simp only [zR]; omega, by simp only [zR]; omega⟩) w [0, 1, 2, 3, 4, 5, 6, 7, 8, 9] rfl (by decide) [] rfl (by decide) (by decide) rfl hl.1 rfl (lv_room (Nat.le_of_ble_eq_true rfl)) dX4_greatestWorth_30 ⟨Nat.zero_le _, Nat.zero_le _⟩ (fun r W1 H locs hp w => ?_)
    obtain ⟨rfl, rfl⟩ := hp
    have w : zW D A s.heap s [(hse, .inr (4, [.ref hlf, .ref hwb])), (hlf, .inl (D.2 0, 3, .inl (fMu (sLim S 2 u)))), (hwb, .inl (D.2 0, 17, .inl (Wc))), (hp, .inr (2, [.ref hw, .ref hz, .ref hl0, .int (zI (S 0))])), (hw, .inl (D.2 0, 16, .inl (fC S 0))), (hz, .inl (D.2 5, 3, .inr (.inr (.inr (.inr (f3 h0 h1 h2)))))), (h0, .inl (D.2 0, 16, .inl (fC S 1))), (h1, .inl (D.2 0, 16, .inl (fC S 2))), (h2, .inl (D.2 0, 16, .inl (fC S 3))), (hl0, .inl (D.2 0, 3, .inl (fLm S)))] H locs := w.sub [0, 1, 2, 3, 4, 5, 6, 7, 8, 9] (by decide) rfl
    exact z_iret hx hb hr hlocks w dX4_greatestWorth_33 ⟨rfl, _, _, rfl⟩
set_option maxHeartbeats 6000000 in
set_option maxRecDepth 100000 in
theorem c_X4_leastBestSet (l : Launch) (D : zD) (hse hlf hwb hp hw hz h0 h1 h2 hl0 : Nat) (S : Nat → Int) (L Wb : Nat → Int32) (hok : OkP S) : zM l yX4_leastBestSet wsX4_leastBestSet (zR (25)) zE0 D [.ref hse, .ref hp] (wSe D hse hlf hwb L Wb ++ wPk D hp hw hz h0 h1 h2 hl0 S) (zQi D (fun r W1 => r = zI (sLe S (zn S) (sLim S 0 0) (sGr S (zn S) (sLim S 0 0) 0 0) 0) ∧ ∃ L2 W2 : Nat → Int32, W1 = (wSe D hse hlf hwb L2 W2 ++ wPk D hp hw hz h0 h1 h2 hl0 S))) := by
  refine zM.of (cc := cX4_leastBestSet) (maxL := 3) (ret := (some .int)) (by decide) rfl (Nat.le_of_ble_eq_true rfl) ?_
  intro p e s m below meth c A hx hb hml hown hts hr hlocks hE hnm w ls hl
  have hown : s.vm.findClass RX4 = some m.cls := hown
  have hl : lv_has ls 3 [(0, .ref hse), (1, .ref hp)] := hl
  have f_26 : (Cond.fieldLink RX4 26 "RelaxedSteps$Packing" "items" "I").before _ s = true := hts _ (by decide +kernel)
  have inX2 : ∀ w ∈ u_ws RX2 TX2 4, w ∈ wsX4_leastBestSet := by decide +kernel
  have hn := zn_eq hok
  have h16 := zn_le hok
  have hlim := hok.2.2
  have hokp := hok
  have hLL := OkL_lim hok (d := 0) (u := 0) (by omega)
  have hgb := sGr_b (S := S) (zn S) (sLim S 0 0) 0 0 hok h16 (by omega) (by omega) (by omega) (by omega)
  have w : zW D A s.heap s [(hse, .inr (4, [.ref hlf, .ref hwb])), (hlf, .inl (D.2 0, 3, .inl (L))), (hwb, .inl (D.2 0, 17, .inl (Wb))), (hp, .inr (2, [.ref hw, .ref hz, .ref hl0, .int (zI (S 0))])), (hw, .inl (D.2 0, 16, .inl (fC S 0))), (hz, .inl (D.2 5, 3, .inr (.inr (.inr (.inr (f3 h0 h1 h2)))))), (h0, .inl (D.2 0, 16, .inl (fC S 1))), (h1, .inl (D.2 0, 16, .inl (fC S 2))), (h2, .inl (D.2 0, 16, .inl (fC S 3))), (hl0, .inl (D.2 0, 3, .inl (fLm S)))] s.heap [] := w
  refine lv_aload_n hx hb dX4_leastBestSet_0 rfl (lv_at hl 0 rfl) ?_
  refine lv_aload_n hx hb dX4_leastBestSet_1 rfl (lv_at hl 1 rfl) ?_
  refine lv_iconst (v := zI 0) hx hb dX4_leastBestSet_2 rfl ?_
  refine lv_iconst (v := zI 0) hx hb dX4_leastBestSet_3 rfl ?_
  refine z_V_i (As := [.ref hp, .int (zI (0)), .int (zI (0))]) (rest := []) (Wr := []) ⟨hx, hb, hml, hown, hts⟩ (c_X4_greatestWorth0 l D hse hlf hwb hp hw hz h0 h1 h2 hl0 S L Wb hokp 0 (by omega)) (cwV 3 hts gX4_leastBestSet_X4_greatestWorth rfl rfl rfl (by decide +kernel) ⟨by simp only [zR]; omega, by simp only [zR]; omega⟩) w (q0 := 0) rfl rfl rfl [0, 1, 2, 3, 4, 5, 6, 7, 8, 9] rfl (by decide) [] rfl (by decide) (by decide) rfl hl.1 rfl (lv_room (Nat.le_of_ble_eq_true rfl)) dX4_leastBestSet_4 ⟨Nat.zero_le _, Nat.zero_le _⟩ (fun r W1 H locs hp w => ?_)
  obtain ⟨rfl, L2, W2, rfl⟩ := hp
  have w : zW D A s.heap s [(hse, .inr (4, [.ref hlf, .ref hwb])), (hlf, .inl (D.2 0, 3, .inl (L2))), (hwb, .inl (D.2 0, 17, .inl (W2))), (hp, .inr (2, [.ref hw, .ref hz, .ref hl0, .int (zI (S 0))])), (hw, .inl (D.2 0, 16, .inl (fC S 0))), (hz, .inl (D.2 5, 3, .inr (.inr (.inr (.inr (f3 h0 h1 h2)))))), (h0, .inl (D.2 0, 16, .inl (fC S 1))), (h1, .inl (D.2 0, 16, .inl (fC S 2))), (h2, .inl (D.2 0, 16, .inl (fC S 3))), (hl0, .inl (D.2 0, 3, .inl (fLm S)))] H locs := w.sub [0, 1, 2, 3, 4, 5, 6, 7, 8, 9] (by decide) rfl
  refine lv_istore_n (lv' := [(2, .int (zI (sGr S (zn S) (sLim S 0 0) 0 0))), (0, .ref hse), (1, .ref hp)]) hx hb dX4_leastBestSet_7 rfl hl (by decide) rfl (fun ls hl => ?_)
  refine lv_aload_n hx hb dX4_leastBestSet_8 rfl (lv_at hl 1 rfl) ?_
  refine lv_aload_n hx hb dX4_leastBestSet_9 rfl (lv_at hl 2 rfl) ?_
  refine z_V_v (As := [.ref hp]) (rest := []) (Wr := []) ⟨hx, hb, hml, hown, hts⟩ (c_X4_start l D hse hlf hwb hp hw hz h0 h1 h2 hl0 S L2 W2 hokp) (cwV 1 hts gX4_leastBestSet_X4_start rfl rfl rfl (by decide +kernel) ⟨by simp only [zR]; omega, by simp only [zR]; omega⟩) w (q0 := 0) rfl rfl rfl [0, 1, 2, 3, 4, 5, 6, 7, 8, 9] rfl (by decide) [] rfl (by decide) (by decide) rfl hl.1 rfl (lv_room (Nat.le_of_ble_eq_true rfl)) dX4_leastBestSet_10 ⟨Nat.zero_le _, Nat.zero_le _⟩ (fun W1 H locs hp w => ?_)
  obtain ⟨Wc, rfl, hW⟩ := hp
  have w : zW D A s.heap s [(hse, .inr (4, [.ref hlf, .ref hwb])), (hlf, .inl (D.2 0, 3, .inl (fLm S))), (hwb, .inl (D.2 0, 17, .inl (Wc))), (hp, .inr (2, [.ref hw, .ref hz, .ref hl0, .int (zI (S 0))])), (hw, .inl (D.2 0, 16, .inl (fC S 0))), (hz, .inl (D.2 5, 3, .inr (.inr (.inr (.inr (f3 h0 h1 h2)))))), (h0, .inl (D.2 0, 16, .inl (fC S 1))), (h1, .inl (D.2 0, 16, .inl (fC S 2))), (h2, .inl (D.2 0, 16, .inl (fC S 3))), (hl0, .inl (D.2 0, 3, .inl (fLm S)))] H locs := w.sub [0, 1, 2, 3, 4, 5, 6, 7, 8, 9] (by decide) rfl
  have w : zW D A s.heap s [(hse, .inr (4, [.ref hlf, .ref hwb])), (hlf, .inl (D.2 0, 3, .inl (fMu (sLim S 0 0)))), (hwb, .inl (D.2 0, 17, .inl (Wc))), (hp, .inr (2, [.ref hw, .ref hz, .ref hl0, .int (zI (S 0))])), (hw, .inl (D.2 0, 16, .inl (fC S 0))), (hz, .inl (D.2 5, 3, .inr (.inr (.inr (.inr (f3 h0 h1 h2)))))), (h0, .inl (D.2 0, 16, .inl (fC S 1))), (h1, .inl (D.2 0, 16, .inl (fC S 2))), (h2, .inl (D.2 0, 16, .inl (fC S 3))), (hl0, .inl (D.2 0, 3, .inl (fLm S)))] H locs := w.to (by rw [fLm_lim S 0])
  refine lv_aload_n hx hb dX4_leastBestSet_13 rfl (lv_at hl 1 rfl) ?_
  refine lv_aload_n hx hb dX4_leastBestSet_14 rfl (lv_at hl 2 rfl) ?_
  refine lv_aload_n hx hb dX4_leastBestSet_15 rfl (lv_at hl 2 rfl) ?_
  refine z_get hx hb hown hts w inX2 3 3 rfl rfl (by decide) f_26 rfl rfl dX4_leastBestSet_16 ?_
  refine lv_iload_n hx hb dX4_leastBestSet_19 rfl (lv_at hl 0 rfl) ?_
  refine lv_iconst (v := zI 0) hx hb dX4_leastBestSet_20 rfl ?_
  refine W.eq (g2 := F0 m 21 ls [.int (zI (0)), .int (zI (sGr S (zn S) (sLim S 0 0) 0 0)), .int (zI (((zn S : Nat) : Int))), .ref hp, .ref hse]) (by rw [hn]) ?_
  refine z_S_i (As := [.ref hse, .ref hp, .int (zI (((zn S : Nat) : Int))), .int (zI (sGr S (zn S) (sLim S 0 0) 0 0)), .int (zI (0))]) (rest := []) (Wr := []) ⟨hx, hb, hml, hown, hts⟩ (c_X4_least l D hse hlf hwb hp hw hz h0 h1 h2 hl0 S Wc hokp hW (zn S) (Nat.le_refl _) (sLim S 0 0) (sGr S (zn S) (sLim S 0 0) 0 0) 0 hLL (by omega) (by omega) (by omega)) (va_cwS 5 hts gX4_leastBestSet_X4_least rfl rfl rfl (by decide +kernel) ⟨by simp only [zR]; omega, by simp only [zR]; omega⟩) w [0, 1, 2, 3, 4, 5, 6, 7, 8, 9] rfl (by decide) [] rfl (by decide) (by decide) rfl hl.1 rfl (lv_room (Nat.le_of_ble_eq_true rfl)) dX4_leastBestSet_21 ⟨Nat.zero_le _, Nat.zero_le _⟩ (fun r W1 H locs hp w => ?_)
  obtain ⟨rfl, rfl⟩ := hp
  have w : zW D A s.heap s [(hse, .inr (4, [.ref hlf, .ref hwb])), (hlf, .inl (D.2 0, 3, .inl (fMu (sLim S 0 0)))), (hwb, .inl (D.2 0, 17, .inl (Wc))), (hp, .inr (2, [.ref hw, .ref hz, .ref hl0, .int (zI (S 0))])), (hw, .inl (D.2 0, 16, .inl (fC S 0))), (hz, .inl (D.2 5, 3, .inr (.inr (.inr (.inr (f3 h0 h1 h2)))))), (h0, .inl (D.2 0, 16, .inl (fC S 1))), (h1, .inl (D.2 0, 16, .inl (fC S 2))), (h2, .inl (D.2 0, 16, .inl (fC S 3))), (hl0, .inl (D.2 0, 3, .inl (fLm S)))] H locs := w.sub [0, 1, 2, 3, 4, 5, 6, 7, 8, 9] (by decide) rfl
  exact z_iret hx hb hr hlocks w dX4_leastBestSet_24 ⟨rfl, _, _, rfl⟩
