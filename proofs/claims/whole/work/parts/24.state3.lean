set_option maxHeartbeats 6000000 in
set_option maxRecDepth 100000 in
theorem c_X5_copyFrom (l : Launch) (D : zD) (ho hm hg hbu hs hp hw hz h0 h1 h2 hl0 : Nat) (S : Nat → Int) (G : Nat → Int32) (hoo hmo hgo hbuo hso hpo hwo hzo h0o h1o h2o hl0o : Nat) (T : Nat → Int) (G2 : Nat → Int32) : zM l yX5_copyFrom wsX5_copyFrom (zR 2) zE0 D [.ref ho, .ref hoo] ((wSt D ho hm hg hbu hs hp hw hz h0 h1 h2 hl0 S G) ++ (wSt D hoo hmo hgo hbuo hso hpo hwo hzo h0o h1o h2o hl0o T G2)) (zQv D (fun W1 => W1 = ((wSt D ho hm hg hbu hs hp hw hz h0 h1 h2 hl0 T G) ++ (wSt D hoo hmo hgo hbuo hso hpo hwo hzo h0o h1o h2o hl0o T G2)))) := by
  refine zM.of (cc := cX5_copyFrom) (maxL := 2) (ret := none) (by decide) rfl (Nat.le_of_ble_eq_true rfl) ?_
  intro p e s m below meth c A hx hb hml hown hts hr hlocks hE hnm w ls hl
  have hown : s.vm.findClass RX5 = some m.cls := hown
  have hl : lv_has ls 2 [(0, .ref ho), (1, .ref hoo)] := hl
  have f_12 : (Cond.fieldLink RX5 12 "RelaxedSteps$State" "packing" "LRelaxedSteps$Packing;").before _ s = true := hts _ (by decide +kernel)
  have f_21 : (Cond.fieldLink RX5 21 "RelaxedSteps$State" "bundle" "LRelaxedSteps$Bundle;").before _ s = true := hts _ (by decide +kernel)
  have f_25 : (Cond.fieldLink RX5 25 "RelaxedSteps$State" "multipliers" "[I").before _ s = true := hts _ (by decide +kernel)
  have ac_l : (Cond.methodLink RX5 62 arraycopyName).before _ s = true := hts _ (by decide +kernel)
  have ac_n : (Cond.native arraycopyName).before _ s = true := hts _ (by decide +kernel)
  have ac_s : (Cond.static arraycopyName).before _ s = true := hts _ (by decide +kernel)
  have ac_i : (Cond.initialized "java/lang/System").before _ s = true := hts _ (by decide +kernel)
  have f_32 : (Cond.fieldLink RX5 32 "RelaxedSteps$State" "rule" "I").before _ s = true := hts _ (by decide +kernel)
  have f_36 : (Cond.fieldLink RX5 36 "RelaxedSteps$State" "step" "I").before _ s = true := hts _ (by decide +kernel)
  have f_39 : (Cond.fieldLink RX5 39 "RelaxedSteps$State" "solution" "I").before _ s = true := hts _ (by decide +kernel)
  have f_42 : (Cond.fieldLink RX5 42 "RelaxedSteps$State" "solutionWorth" "I").before _ s = true := hts _ (by decide +kernel)
  have f_45 : (Cond.fieldLink RX5 45 "RelaxedSteps$State" "stepsSince" "I").before _ s = true := hts _ (by decide +kernel)
  have f_48 : (Cond.fieldLink RX5 48 "RelaxedSteps$State" "stepsInAll" "I").before _ s = true := hts _ (by decide +kernel)
  have f_51 : (Cond.fieldLink RX5 51 "RelaxedSteps$State" "bestBound" "J").before _ s = true := hts _ (by decide +kernel)
  have inX5 : ∀ w ∈ u_ws RX5 TX5 11, w ∈ wsX5_copyFrom := by decide +kernel
  have w : zW D A s.heap s [(ho, .inr (5, [.ref hp, .ref hbu, .ref hm, .ref hg, .int (zI (S 71)), .int (zI (S 72)), .int (zI (fSol S)), .int (zI (fSw S)), .int (zI (S 73)), .int (zI (S 74)), .long (zL (S 75))])), (hm, .inl (D.2 0, 3, .inl (fMu (mu S)))), (hg, .inl (D.2 0, 3, .inl (G))), (hbu, .inr (0, [.ref hs, .int (zI (S 77))])), (hs, .inl (D.2 0, 8, .inl (fSt S))), (hp, .inr (2, [.ref hw, .ref hz, .ref hl0, .int (zI (S 0))])), (hw, .inl (D.2 0, 16, .inl (fC S 0))), (hz, .inl (D.2 5, 3, .inr (.inr (.inr (.inr (f3 h0 h1 h2)))))), (h0, .inl (D.2 0, 16, .inl (fC S 1))), (h1, .inl (D.2 0, 16, .inl (fC S 2))), (h2, .inl (D.2 0, 16, .inl (fC S 3))), (hl0, .inl (D.2 0, 3, .inl (fLm S))), (hoo, .inr (5, [.ref hpo, .ref hbuo, .ref hmo, .ref hgo, .int (zI (T 71)), .int (zI (T 72)), .int (zI (fSol T)), .int (zI (fSw T)), .int (zI (T 73)), .int (zI (T 74)), .long (zL (T 75))])), (hmo, .inl (D.2 0, 3, .inl (fMu (mu T)))), (hgo, .inl (D.2 0, 3, .inl (G2))), (hbuo, .inr (0, [.ref hso, .int (zI (T 77))])), (hso, .inl (D.2 0, 8, .inl (fSt T))), (hpo, .inr (2, [.ref hwo, .ref hzo, .ref hl0o, .int (zI (T 0))])), (hwo, .inl (D.2 0, 16, .inl (fC T 0))), (hzo, .inl (D.2 5, 3, .inr (.inr (.inr (.inr (f3 h0o h1o h2o)))))), (h0o, .inl (D.2 0, 16, .inl (fC T 1))), (h1o, .inl (D.2 0, 16, .inl (fC T 2))), (h2o, .inl (D.2 0, 16, .inl (fC T 3))), (hl0o, .inl (D.2 0, 3, .inl (fLm T)))] s.heap [] := w
  refine lv_aload_n hx hb dX5_copyFrom_0 rfl (lv_at hl 0 rfl) ?_
  refine z_get hx hb hown hts w inX5 0 0 rfl rfl (by decide) f_12 rfl rfl dX5_copyFrom_1 ?_
  refine lv_aload_n hx hb dX5_copyFrom_4 rfl (lv_at hl 1 rfl) ?_
  refine z_get hx hb hown hts w inX5 12 0 rfl rfl (by decide) f_12 rfl rfl dX5_copyFrom_5 ?_
  refine z_V_v (As := [.ref hpo]) (rest := []) (Wr := [(ho, .inr (5, [.ref hp, .ref hbu, .ref hm, .ref hg, .int (zI (S 71)), .int (zI (S 72)), .int (zI (fSol S)), .int (zI (fSw S)), .int (zI (S 73)), .int (zI (S 74)), .long (zL (S 75))])), (hm, .inl (D.2 0, 3, .inl (fMu (mu S)))), (hg, .inl (D.2 0, 3, .inl (G))), (hbu, .inr (0, [.ref hs, .int (zI (S 77))])), (hs, .inl (D.2 0, 8, .inl (fSt S))), (hoo, .inr (5, [.ref hpo, .ref hbuo, .ref hmo, .ref hgo, .int (zI (T 71)), .int (zI (T 72)), .int (zI (fSol T)), .int (zI (fSw T)), .int (zI (T 73)), .int (zI (T 74)), .long (zL (T 75))])), (hmo, .inl (D.2 0, 3, .inl (fMu (mu T)))), (hgo, .inl (D.2 0, 3, .inl (G2))), (hbuo, .inr (0, [.ref hso, .int (zI (T 77))])), (hso, .inl (D.2 0, 8, .inl (fSt T)))]) ⟨hx, hb, hml, hown, hts⟩ (c_X2_copyFrom l D hp hw hz h0 h1 h2 hl0 S hpo hwo hzo h0o h1o h2o hl0o T) (cwV 1 hts gX5_copyFrom_X2_copyFrom rfl rfl rfl (by decide +kernel) ⟨Nat.le_of_ble_eq_true rfl, Nat.le_of_ble_eq_true rfl⟩) w (q0 := 5) rfl rfl rfl [5, 6, 7, 8, 9, 10, 11, 17, 18, 19, 20, 21, 22, 23] rfl (by decide) [0, 1, 2, 3, 4, 12, 13, 14, 15, 16] rfl (by decide) (by decide) rfl hl.1 rfl (lv_room (Nat.le_of_ble_eq_true rfl)) dX5_copyFrom_8 ⟨Nat.zero_le _, Nat.zero_le _⟩ (fun W1 H locs hp w => ?_)
  subst hp
  have w : zW D A s.heap s [(ho, .inr (5, [.ref hp, .ref hbu, .ref hm, .ref hg, .int (zI (S 71)), .int (zI (S 72)), .int (zI (fSol S)), .int (zI (fSw S)), .int (zI (S 73)), .int (zI (S 74)), .long (zL (S 75))])), (hm, .inl (D.2 0, 3, .inl (fMu (mu S)))), (hg, .inl (D.2 0, 3, .inl (G))), (hbu, .inr (0, [.ref hs, .int (zI (S 77))])), (hs, .inl (D.2 0, 8, .inl (fSt S))), (hp, .inr (2, [.ref hw, .ref hz, .ref hl0, .int (zI (T 0))])), (hw, .inl (D.2 0, 16, .inl (fC T 0))), (hz, .inl (D.2 5, 3, .inr (.inr (.inr (.inr (f3 h0 h1 h2)))))), (h0, .inl (D.2 0, 16, .inl (fC T 1))), (h1, .inl (D.2 0, 16, .inl (fC T 2))), (h2, .inl (D.2 0, 16, .inl (fC T 3))), (hl0, .inl (D.2 0, 3, .inl (fLm T))), (hoo, .inr (5, [.ref hpo, .ref hbuo, .ref hmo, .ref hgo, .int (zI (T 71)), .int (zI (T 72)), .int (zI (fSol T)), .int (zI (fSw T)), .int (zI (T 73)), .int (zI (T 74)), .long (zL (T 75))])), (hmo, .inl (D.2 0, 3, .inl (fMu (mu T)))), (hgo, .inl (D.2 0, 3, .inl (G2))), (hbuo, .inr (0, [.ref hso, .int (zI (T 77))])), (hso, .inl (D.2 0, 8, .inl (fSt T))), (hpo, .inr (2, [.ref hwo, .ref hzo, .ref hl0o, .int (zI (T 0))])), (hwo, .inl (D.2 0, 16, .inl (fC T 0))), (hzo, .inl (D.2 5, 3, .inr (.inr (.inr (.inr (f3 h0o h1o h2o)))))), (h0o, .inl (D.2 0, 16, .inl (fC T 1))), (h1o, .inl (D.2 0, 16, .inl (fC T 2))), (h2o, .inl (D.2 0, 16, .inl (fC T 3))), (hl0o, .inl (D.2 0, 3, .inl (fLm T)))] H locs := w.sub [0, 1, 2, 3, 4, 10, 11, 12, 13, 14, 15, 16, 5, 6, 7, 8, 9, 17, 18, 19, 20, 21, 22, 23] (by decide) rfl
  refine lv_aload_n hx hb dX5_copyFrom_11 rfl (lv_at hl 0 rfl) ?_
  refine z_get hx hb hown hts w inX5 0 1 rfl rfl (by decide) f_21 rfl rfl dX5_copyFrom_12 ?_
  refine lv_aload_n hx hb dX5_copyFrom_15 rfl (lv_at hl 1 rfl) ?_
  refine z_get hx hb hown hts w inX5 12 1 rfl rfl (by decide) f_21 rfl rfl dX5_copyFrom_16 ?_
  refine z_V_v (As := [.ref hbuo]) (rest := []) (Wr := [(ho, .inr (5, [.ref hp, .ref hbu, .ref hm, .ref hg, .int (zI (S 71)), .int (zI (S 72)), .int (zI (fSol S)), .int (zI (fSw S)), .int (zI (S 73)), .int (zI (S 74)), .long (zL (S 75))])), (hm, .inl (D.2 0, 3, .inl (fMu (mu S)))), (hg, .inl (D.2 0, 3, .inl (G))), (hp, .inr (2, [.ref hw, .ref hz, .ref hl0, .int (zI (T 0))])), (hw, .inl (D.2 0, 16, .inl (fC T 0))), (hz, .inl (D.2 5, 3, .inr (.inr (.inr (.inr (f3 h0 h1 h2)))))), (h0, .inl (D.2 0, 16, .inl (fC T 1))), (h1, .inl (D.2 0, 16, .inl (fC T 2))), (h2, .inl (D.2 0, 16, .inl (fC T 3))), (hl0, .inl (D.2 0, 3, .inl (fLm T))), (hoo, .inr (5, [.ref hpo, .ref hbuo, .ref hmo, .ref hgo, .int (zI (T 71)), .int (zI (T 72)), .int (zI (fSol T)), .int (zI (fSw T)), .int (zI (T 73)), .int (zI (T 74)), .long (zL (T 75))])), (hmo, .inl (D.2 0, 3, .inl (fMu (mu T)))), (hgo, .inl (D.2 0, 3, .inl (G2))), (hpo, .inr (2, [.ref hwo, .ref hzo, .ref hl0o, .int (zI (T 0))])), (hwo, .inl (D.2 0, 16, .inl (fC T 0))), (hzo, .inl (D.2 5, 3, .inr (.inr (.inr (.inr (f3 h0o h1o h2o)))))), (h0o, .inl (D.2 0, 16, .inl (fC T 1))), (h1o, .inl (D.2 0, 16, .inl (fC T 2))), (h2o, .inl (D.2 0, 16, .inl (fC T 3))), (hl0o, .inl (D.2 0, 3, .inl (fLm T)))]) ⟨hx, hb, hml, hown, hts⟩ (c_X0_copyFrom l D hbu hs hbuo hso S T) (cwV 1 hts gX5_copyFrom_X0_copyFrom rfl rfl rfl (by decide +kernel) ⟨Nat.le_of_ble_eq_true rfl, Nat.le_of_ble_eq_true rfl⟩) w (q0 := 3) rfl rfl rfl [3, 4, 15, 16] rfl (by decide) [0, 1, 2, 5, 6, 7, 8, 9, 10, 11, 12, 13, 14, 17, 18, 19, 20, 21, 22, 23] rfl (by decide) (by decide) rfl hl.1 rfl (lv_room (Nat.le_of_ble_eq_true rfl)) dX5_copyFrom_19 ⟨Nat.zero_le _, Nat.zero_le _⟩ (fun W1 H locs hp w => ?_)
  subst hp
  have w : zW D A s.heap s [(ho, .inr (5, [.ref hp, .ref hbu, .ref hm, .ref hg, .int (zI (S 71)), .int (zI (S 72)), .int (zI (fSol S)), .int (zI (fSw S)), .int (zI (S 73)), .int (zI (S 74)), .long (zL (S 75))])), (hm, .inl (D.2 0, 3, .inl (fMu (mu S)))), (hg, .inl (D.2 0, 3, .inl (G))), (hbu, .inr (0, [.ref hs, .int (zI (T 77))])), (hs, .inl (D.2 0, 8, .inl (fSt T))), (hp, .inr (2, [.ref hw, .ref hz, .ref hl0, .int (zI (T 0))])), (hw, .inl (D.2 0, 16, .inl (fC T 0))), (hz, .inl (D.2 5, 3, .inr (.inr (.inr (.inr (f3 h0 h1 h2)))))), (h0, .inl (D.2 0, 16, .inl (fC T 1))), (h1, .inl (D.2 0, 16, .inl (fC T 2))), (h2, .inl (D.2 0, 16, .inl (fC T 3))), (hl0, .inl (D.2 0, 3, .inl (fLm T))), (hoo, .inr (5, [.ref hpo, .ref hbuo, .ref hmo, .ref hgo, .int (zI (T 71)), .int (zI (T 72)), .int (zI (fSol T)), .int (zI (fSw T)), .int (zI (T 73)), .int (zI (T 74)), .long (zL (T 75))])), (hmo, .inl (D.2 0, 3, .inl (fMu (mu T)))), (hgo, .inl (D.2 0, 3, .inl (G2))), (hbuo, .inr (0, [.ref hso, .int (zI (T 77))])), (hso, .inl (D.2 0, 8, .inl (fSt T))), (hpo, .inr (2, [.ref hwo, .ref hzo, .ref hl0o, .int (zI (T 0))])), (hwo, .inl (D.2 0, 16, .inl (fC T 0))), (hzo, .inl (D.2 5, 3, .inr (.inr (.inr (.inr (f3 h0o h1o h2o)))))), (h0o, .inl (D.2 0, 16, .inl (fC T 1))), (h1o, .inl (D.2 0, 16, .inl (fC T 2))), (h2o, .inl (D.2 0, 16, .inl (fC T 3))), (hl0o, .inl (D.2 0, 3, .inl (fLm T)))] H locs := w.sub [0, 1, 2, 20, 21, 3, 4, 5, 6, 7, 8, 9, 10, 11, 12, 22, 23, 13, 14, 15, 16, 17, 18, 19] (by decide) rfl
  refine lv_aload_n hx hb dX5_copyFrom_22 rfl (lv_at hl 1 rfl) ?_
  refine z_get hx hb hown hts w inX5 12 2 rfl rfl (by decide) f_25 rfl rfl dX5_copyFrom_23 ?_
  refine lv_iconst (v := zI 0) hx hb dX5_copyFrom_26 rfl ?_
  refine lv_aload_n hx hb dX5_copyFrom_27 rfl (lv_at hl 0 rfl) ?_
  refine z_get hx hb hown hts w inX5 0 2 rfl rfl (by decide) f_25 rfl rfl dX5_copyFrom_28 ?_
  refine lv_iconst (v := zI 0) hx hb dX5_copyFrom_31 rfl ?_
  refine lv_iconst (v := zI 3) hx hb dX5_copyFrom_32 rfl ?_
  refine z_copy (sp := 0) (dp := 0) (n := 3) hx hb (by rw [hml]; exact hl.1.symm) hown ac_l ac_n ac_s ac_i w 13 1 rfl rfl (by omega) rfl rfl rfl (by decide) (by decide) (by omega) dX5_copyFrom_33 (Nat.le_of_ble_eq_true rfl) (Nat.le_of_ble_eq_true rfl) (fMu (mu T)) (fun i hi => zcpy_all hi) (fun H locs w => ?_)
  have w : zW D A s.heap s [(ho, .inr (5, [.ref hp, .ref hbu, .ref hm, .ref hg, .int (zI (S 71)), .int (zI (S 72)), .int (zI (fSol S)), .int (zI (fSw S)), .int (zI (S 73)), .int (zI (S 74)), .long (zL (S 75))])), (hm, .inl (D.2 0, 3, .inl (fMu (mu T)))), (hg, .inl (D.2 0, 3, .inl (G))), (hbu, .inr (0, [.ref hs, .int (zI (T 77))])), (hs, .inl (D.2 0, 8, .inl (fSt T))), (hp, .inr (2, [.ref hw, .ref hz, .ref hl0, .int (zI (T 0))])), (hw, .inl (D.2 0, 16, .inl (fC T 0))), (hz, .inl (D.2 5, 3, .inr (.inr (.inr (.inr (f3 h0 h1 h2)))))), (h0, .inl (D.2 0, 16, .inl (fC T 1))), (h1, .inl (D.2 0, 16, .inl (fC T 2))), (h2, .inl (D.2 0, 16, .inl (fC T 3))), (hl0, .inl (D.2 0, 3, .inl (fLm T))), (hoo, .inr (5, [.ref hpo, .ref hbuo, .ref hmo, .ref hgo, .int (zI (T 71)), .int (zI (T 72)), .int (zI (fSol T)), .int (zI (fSw T)), .int (zI (T 73)), .int (zI (T 74)), .long (zL (T 75))])), (hmo, .inl (D.2 0, 3, .inl (fMu (mu T)))), (hgo, .inl (D.2 0, 3, .inl (G2))), (hbuo, .inr (0, [.ref hso, .int (zI (T 77))])), (hso, .inl (D.2 0, 8, .inl (fSt T))), (hpo, .inr (2, [.ref hwo, .ref hzo, .ref hl0o, .int (zI (T 0))])), (hwo, .inl (D.2 0, 16, .inl (fC T 0))), (hzo, .inl (D.2 5, 3, .inr (.inr (.inr (.inr (f3 h0o h1o h2o)))))), (h0o, .inl (D.2 0, 16, .inl (fC T 1))), (h1o, .inl (D.2 0, 16, .inl (fC T 2))), (h2o, .inl (D.2 0, 16, .inl (fC T 3))), (hl0o, .inl (D.2 0, 3, .inl (fLm T)))] H locs := w
  refine lv_aload_n hx hb dX5_copyFrom_36 rfl (lv_at hl 0 rfl) ?_
  refine lv_aload_n hx hb dX5_copyFrom_37 rfl (lv_at hl 1 rfl) ?_
  refine z_get hx hb hown hts w inX5 12 4 rfl rfl (by decide) f_32 rfl rfl dX5_copyFrom_38 ?_
  refine z_put hx hb hown hts w inX5 tyX5 tyX5_ok nmX5 0 4 rfl rfl (by decide) f_32 rfl rfl (ty := .int) rfl rfl rfl (Nat.le_of_ble_eq_true rfl) dX5_copyFrom_41 (fun H locs w => ?_)
  have w : zW D A s.heap s [(ho, .inr (5, [.ref hp, .ref hbu, .ref hm, .ref hg, .int (zI (T 71)), .int (zI (S 72)), .int (zI (fSol S)), .int (zI (fSw S)), .int (zI (S 73)), .int (zI (S 74)), .long (zL (S 75))])), (hm, .inl (D.2 0, 3, .inl (fMu (mu T)))), (hg, .inl (D.2 0, 3, .inl (G))), (hbu, .inr (0, [.ref hs, .int (zI (T 77))])), (hs, .inl (D.2 0, 8, .inl (fSt T))), (hp, .inr (2, [.ref hw, .ref hz, .ref hl0, .int (zI (T 0))])), (hw, .inl (D.2 0, 16, .inl (fC T 0))), (hz, .inl (D.2 5, 3, .inr (.inr (.inr (.inr (f3 h0 h1 h2)))))), (h0, .inl (D.2 0, 16, .inl (fC T 1))), (h1, .inl (D.2 0, 16, .inl (fC T 2))), (h2, .inl (D.2 0, 16, .inl (fC T 3))), (hl0, .inl (D.2 0, 3, .inl (fLm T))), (hoo, .inr (5, [.ref hpo, .ref hbuo, .ref hmo, .ref hgo, .int (zI (T 71)), .int (zI (T 72)), .int (zI (fSol T)), .int (zI (fSw T)), .int (zI (T 73)), .int (zI (T 74)), .long (zL (T 75))])), (hmo, .inl (D.2 0, 3, .inl (fMu (mu T)))), (hgo, .inl (D.2 0, 3, .inl (G2))), (hbuo, .inr (0, [.ref hso, .int (zI (T 77))])), (hso, .inl (D.2 0, 8, .inl (fSt T))), (hpo, .inr (2, [.ref hwo, .ref hzo, .ref hl0o, .int (zI (T 0))])), (hwo, .inl (D.2 0, 16, .inl (fC T 0))), (hzo, .inl (D.2 5, 3, .inr (.inr (.inr (.inr (f3 h0o h1o h2o)))))), (h0o, .inl (D.2 0, 16, .inl (fC T 1))), (h1o, .inl (D.2 0, 16, .inl (fC T 2))), (h2o, .inl (D.2 0, 16, .inl (fC T 3))), (hl0o, .inl (D.2 0, 3, .inl (fLm T)))] H locs := w
  refine lv_aload_n hx hb dX5_copyFrom_44 rfl (lv_at hl 0 rfl) ?_
  refine lv_aload_n hx hb dX5_copyFrom_45 rfl (lv_at hl 1 rfl) ?_
  refine z_get hx hb hown hts w inX5 12 5 rfl rfl (by decide) f_36 rfl rfl dX5_copyFrom_46 ?_
  refine z_put hx hb hown hts w inX5 tyX5 tyX5_ok nmX5 0 5 rfl rfl (by decide) f_36 rfl rfl (ty := .int) rfl rfl rfl (Nat.le_of_ble_eq_true rfl) dX5_copyFrom_49 (fun H locs w => ?_)
  have w : zW D A s.heap s [(ho, .inr (5, [.ref hp, .ref hbu, .ref hm, .ref hg, .int (zI (T 71)), .int (zI (T 72)), .int (zI (fSol S)), .int (zI (fSw S)), .int (zI (S 73)), .int (zI (S 74)), .long (zL (S 75))])), (hm, .inl (D.2 0, 3, .inl (fMu (mu T)))), (hg, .inl (D.2 0, 3, .inl (G))), (hbu, .inr (0, [.ref hs, .int (zI (T 77))])), (hs, .inl (D.2 0, 8, .inl (fSt T))), (hp, .inr (2, [.ref hw, .ref hz, .ref hl0, .int (zI (T 0))])), (hw, .inl (D.2 0, 16, .inl (fC T 0))), (hz, .inl (D.2 5, 3, .inr (.inr (.inr (.inr (f3 h0 h1 h2)))))), (h0, .inl (D.2 0, 16, .inl (fC T 1))), (h1, .inl (D.2 0, 16, .inl (fC T 2))), (h2, .inl (D.2 0, 16, .inl (fC T 3))), (hl0, .inl (D.2 0, 3, .inl (fLm T))), (hoo, .inr (5, [.ref hpo, .ref hbuo, .ref hmo, .ref hgo, .int (zI (T 71)), .int (zI (T 72)), .int (zI (fSol T)), .int (zI (fSw T)), .int (zI (T 73)), .int (zI (T 74)), .long (zL (T 75))])), (hmo, .inl (D.2 0, 3, .inl (fMu (mu T)))), (hgo, .inl (D.2 0, 3, .inl (G2))), (hbuo, .inr (0, [.ref hso, .int (zI (T 77))])), (hso, .inl (D.2 0, 8, .inl (fSt T))), (hpo, .inr (2, [.ref hwo, .ref hzo, .ref hl0o, .int (zI (T 0))])), (hwo, .inl (D.2 0, 16, .inl (fC T 0))), (hzo, .inl (D.2 5, 3, .inr (.inr (.inr (.inr (f3 h0o h1o h2o)))))), (h0o, .inl (D.2 0, 16, .inl (fC T 1))), (h1o, .inl (D.2 0, 16, .inl (fC T 2))), (h2o, .inl (D.2 0, 16, .inl (fC T 3))), (hl0o, .inl (D.2 0, 3, .inl (fLm T)))] H locs := w
  refine lv_aload_n hx hb dX5_copyFrom_52 rfl (lv_at hl 0 rfl) ?_
  refine lv_aload_n hx hb dX5_copyFrom_53 rfl (lv_at hl 1 rfl) ?_
  refine z_get hx hb hown hts w inX5 12 6 rfl rfl (by decide) f_39 rfl rfl dX5_copyFrom_54 ?_
  refine z_put hx hb hown hts w inX5 tyX5 tyX5_ok nmX5 0 6 rfl rfl (by decide) f_39 rfl rfl (ty := .int) rfl rfl rfl (Nat.le_of_ble_eq_true rfl) dX5_copyFrom_57 (fun H locs w => ?_)
  have w : zW D A s.heap s [(ho, .inr (5, [.ref hp, .ref hbu, .ref hm, .ref hg, .int (zI (T 71)), .int (zI (T 72)), .int (zI (fSol T)), .int (zI (fSw S)), .int (zI (S 73)), .int (zI (S 74)), .long (zL (S 75))])), (hm, .inl (D.2 0, 3, .inl (fMu (mu T)))), (hg, .inl (D.2 0, 3, .inl (G))), (hbu, .inr (0, [.ref hs, .int (zI (T 77))])), (hs, .inl (D.2 0, 8, .inl (fSt T))), (hp, .inr (2, [.ref hw, .ref hz, .ref hl0, .int (zI (T 0))])), (hw, .inl (D.2 0, 16, .inl (fC T 0))), (hz, .inl (D.2 5, 3, .inr (.inr (.inr (.inr (f3 h0 h1 h2)))))), (h0, .inl (D.2 0, 16, .inl (fC T 1))), (h1, .inl (D.2 0, 16, .inl (fC T 2))), (h2, .inl (D.2 0, 16, .inl (fC T 3))), (hl0, .inl (D.2 0, 3, .inl (fLm T))), (hoo, .inr (5, [.ref hpo, .ref hbuo, .ref hmo, .ref hgo, .int (zI (T 71)), .int (zI (T 72)), .int (zI (fSol T)), .int (zI (fSw T)), .int (zI (T 73)), .int (zI (T 74)), .long (zL (T 75))])), (hmo, .inl (D.2 0, 3, .inl (fMu (mu T)))), (hgo, .inl (D.2 0, 3, .inl (G2))), (hbuo, .inr (0, [.ref hso, .int (zI (T 77))])), (hso, .inl (D.2 0, 8, .inl (fSt T))), (hpo, .inr (2, [.ref hwo, .ref hzo, .ref hl0o, .int (zI (T 0))])), (hwo, .inl (D.2 0, 16, .inl (fC T 0))), (hzo, .inl (D.2 5, 3, .inr (.inr (.inr (.inr (f3 h0o h1o h2o)))))), (h0o, .inl (D.2 0, 16, .inl (fC T 1))), (h1o, .inl (D.2 0, 16, .inl (fC T 2))), (h2o, .inl (D.2 0, 16, .inl (fC T 3))), (hl0o, .inl (D.2 0, 3, .inl (fLm T)))] H locs := w
  refine lv_aload_n hx hb dX5_copyFrom_60 rfl (lv_at hl 0 rfl) ?_
  refine lv_aload_n hx hb dX5_copyFrom_61 rfl (lv_at hl 1 rfl) ?_
  refine z_get hx hb hown hts w inX5 12 7 rfl rfl (by decide) f_42 rfl rfl dX5_copyFrom_62 ?_
  refine z_put hx hb hown hts w inX5 tyX5 tyX5_ok nmX5 0 7 rfl rfl (by decide) f_42 rfl rfl (ty := .int) rfl rfl rfl (Nat.le_of_ble_eq_true rfl) dX5_copyFrom_65 (fun H locs w => ?_)
  have w : zW D A s.heap s [(ho, .inr (5, [.ref hp, .ref hbu, .ref hm, .ref hg, .int (zI (T 71)), .int (zI (T 72)), .int (zI (fSol T)), .int (zI (fSw T)), .int (zI (S 73)), .int (zI (S 74)), .long (zL (S 75))])), (hm, .inl (D.2 0, 3, .inl (fMu (mu T)))), (hg, .inl (D.2 0, 3, .inl (G))), (hbu, .inr (0, [.ref hs, .int (zI (T 77))])), (hs, .inl (D.2 0, 8, .inl (fSt T))), (hp, .inr (2, [.ref hw, .ref hz, .ref hl0, .int (zI (T 0))])), (hw, .inl (D.2 0, 16, .inl (fC T 0))), (hz, .inl (D.2 5, 3, .inr (.inr (.inr (.inr (f3 h0 h1 h2)))))), (h0, .inl (D.2 0, 16, .inl (fC T 1))), (h1, .inl (D.2 0, 16, .inl (fC T 2))), (h2, .inl (D.2 0, 16, .inl (fC T 3))), (hl0, .inl (D.2 0, 3, .inl (fLm T))), (hoo, .inr (5, [.ref hpo, .ref hbuo, .ref hmo, .ref hgo, .int (zI (T 71)), .int (zI (T 72)), .int (zI (fSol T)), .int (zI (fSw T)), .int (zI (T 73)), .int (zI (T 74)), .long (zL (T 75))])), (hmo, .inl (D.2 0, 3, .inl (fMu (mu T)))), (hgo, .inl (D.2 0, 3, .inl (G2))), (hbuo, .inr (0, [.ref hso, .int (zI (T 77))])), (hso, .inl (D.2 0, 8, .inl (fSt T))), (hpo, .inr (2, [.ref hwo, .ref hzo, .ref hl0o, .int (zI (T 0))])), (hwo, .inl (D.2 0, 16, .inl (fC T 0))), (hzo, .inl (D.2 5, 3, .inr (.inr (.inr (.inr (f3 h0o h1o h2o)))))), (h0o, .inl (D.2 0, 16, .inl (fC T 1))), (h1o, .inl (D.2 0, 16, .inl (fC T 2))), (h2o, .inl (D.2 0, 16, .inl (fC T 3))), (hl0o, .inl (D.2 0, 3, .inl (fLm T)))] H locs := w
  refine lv_aload_n hx hb dX5_copyFrom_68 rfl (lv_at hl 0 rfl) ?_
  refine lv_aload_n hx hb dX5_copyFrom_69 rfl (lv_at hl 1 rfl) ?_
  refine z_get hx hb hown hts w inX5 12 8 rfl rfl (by decide) f_45 rfl rfl dX5_copyFrom_70 ?_
  refine z_put hx hb hown hts w inX5 tyX5 tyX5_ok nmX5 0 8 rfl rfl (by decide) f_45 rfl rfl (ty := .int) rfl rfl rfl (Nat.le_of_ble_eq_true rfl) dX5_copyFrom_73 (fun H locs w => ?_)
  have w : zW D A s.heap s [(ho, .inr (5, [.ref hp, .ref hbu, .ref hm, .ref hg, .int (zI (T 71)), .int (zI (T 72)), .int (zI (fSol T)), .int (zI (fSw T)), .int (zI (T 73)), .int (zI (S 74)), .long (zL (S 75))])), (hm, .inl (D.2 0, 3, .inl (fMu (mu T)))), (hg, .inl (D.2 0, 3, .inl (G))), (hbu, .inr (0, [.ref hs, .int (zI (T 77))])), (hs, .inl (D.2 0, 8, .inl (fSt T))), (hp, .inr (2, [.ref hw, .ref hz, .ref hl0, .int (zI (T 0))])), (hw, .inl (D.2 0, 16, .inl (fC T 0))), (hz, .inl (D.2 5, 3, .inr (.inr (.inr (.inr (f3 h0 h1 h2)))))), (h0, .inl (D.2 0, 16, .inl (fC T 1))), (h1, .inl (D.2 0, 16, .inl (fC T 2))), (h2, .inl (D.2 0, 16, .inl (fC T 3))), (hl0, .inl (D.2 0, 3, .inl (fLm T))), (hoo, .inr (5, [.ref hpo, .ref hbuo, .ref hmo, .ref hgo, .int (zI (T 71)), .int (zI (T 72)), .int (zI (fSol T)), .int (zI (fSw T)), .int (zI (T 73)), .int (zI (T 74)), .long (zL (T 75))])), (hmo, .inl (D.2 0, 3, .inl (fMu (mu T)))), (hgo, .inl (D.2 0, 3, .inl (G2))), (hbuo, .inr (0, [.ref hso, .int (zI (T 77))])), (hso, .inl (D.2 0, 8, .inl (fSt T))), (hpo, .inr (2, [.ref hwo, .ref hzo, .ref hl0o, .int (zI (T 0))])), (hwo, .inl (D.2 0, 16, .inl (fC T 0))), (hzo, .inl (D.2 5, 3, .inr (.inr (.inr (.inr (f3 h0o h1o h2o)))))), (h0o, .inl (D.2 0, 16, .inl (fC T 1))), (h1o, .inl (D.2 0, 16, .inl (fC T 2))), (h2o, .inl (D.2 0, 16, .inl (fC T 3))), (hl0o, .inl (D.2 0, 3, .inl (fLm T)))] H locs := w
  refine lv_aload_n hx hb dX5_copyFrom_76 rfl (lv_at hl 0 rfl) ?_
  refine lv_aload_n hx hb dX5_copyFrom_77 rfl (lv_at hl 1 rfl) ?_
  refine z_get hx hb hown hts w inX5 12 9 rfl rfl (by decide) f_48 rfl rfl dX5_copyFrom_78 ?_
  refine z_put hx hb hown hts w inX5 tyX5 tyX5_ok nmX5 0 9 rfl rfl (by decide) f_48 rfl rfl (ty := .int) rfl rfl rfl (Nat.le_of_ble_eq_true rfl) dX5_copyFrom_81 (fun H locs w => ?_)
  have w : zW D A s.heap s [(ho, .inr (5, [.ref hp, .ref hbu, .ref hm, .ref hg, .int (zI (T 71)), .int (zI (T 72)), .int (zI (fSol T)), .int (zI (fSw T)), .int (zI (T 73)), .int (zI (T 74)), .long (zL (S 75))])), (hm, .inl (D.2 0, 3, .inl (fMu (mu T)))), (hg, .inl (D.2 0, 3, .inl (G))), (hbu, .inr (0, [.ref hs, .int (zI (T 77))])), (hs, .inl (D.2 0, 8, .inl (fSt T))), (hp, .inr (2, [.ref hw, .ref hz, .ref hl0, .int (zI (T 0))])), (hw, .inl (D.2 0, 16, .inl (fC T 0))), (hz, .inl (D.2 5, 3, .inr (.inr (.inr (.inr (f3 h0 h1 h2)))))), (h0, .inl (D.2 0, 16, .inl (fC T 1))), (h1, .inl (D.2 0, 16, .inl (fC T 2))), (h2, .inl (D.2 0, 16, .inl (fC T 3))), (hl0, .inl (D.2 0, 3, .inl (fLm T))), (hoo, .inr (5, [.ref hpo, .ref hbuo, .ref hmo, .ref hgo, .int (zI (T 71)), .int (zI (T 72)), .int (zI (fSol T)), .int (zI (fSw T)), .int (zI (T 73)), .int (zI (T 74)), .long (zL (T 75))])), (hmo, .inl (D.2 0, 3, .inl (fMu (mu T)))), (hgo, .inl (D.2 0, 3, .inl (G2))), (hbuo, .inr (0, [.ref hso, .int (zI (T 77))])), (hso, .inl (D.2 0, 8, .inl (fSt T))), (hpo, .inr (2, [.ref hwo, .ref hzo, .ref hl0o, .int (zI (T 0))])), (hwo, .inl (D.2 0, 16, .inl (fC T 0))), (hzo, .inl (D.2 5, 3, .inr (.inr (.inr (.inr (f3 h0o h1o h2o)))))), (h0o, .inl (D.2 0, 16, .inl (fC T 1))), (h1o, .inl (D.2 0, 16, .inl (fC T 2))), (h2o, .inl (D.2 0, 16, .inl (fC T 3))), (hl0o, .inl (D.2 0, 3, .inl (fLm T)))] H locs := w
  refine lv_aload_n hx hb dX5_copyFrom_84 rfl (lv_at hl 0 rfl) ?_
  refine lv_aload_n hx hb dX5_copyFrom_85 rfl (lv_at hl 1 rfl) ?_
  refine z_get hx hb hown hts w inX5 12 10 rfl rfl (by decide) f_51 rfl rfl dX5_copyFrom_86 ?_
  refine z_put hx hb hown hts w inX5 tyX5 tyX5_ok nmX5 0 10 rfl rfl (by decide) f_51 rfl rfl (ty := .long) rfl rfl rfl (Nat.le_of_ble_eq_true rfl) dX5_copyFrom_89 (fun H locs w => ?_)
  have w : zW D A s.heap s [(ho, .inr (5, [.ref hp, .ref hbu, .ref hm, .ref hg, .int (zI (T 71)), .int (zI (T 72)), .int (zI (fSol T)), .int (zI (fSw T)), .int (zI (T 73)), .int (zI (T 74)), .long (zL (T 75))])), (hm, .inl (D.2 0, 3, .inl (fMu (mu T)))), (hg, .inl (D.2 0, 3, .inl (G))), (hbu, .inr (0, [.ref hs, .int (zI (T 77))])), (hs, .inl (D.2 0, 8, .inl (fSt T))), (hp, .inr (2, [.ref hw, .ref hz, .ref hl0, .int (zI (T 0))])), (hw, .inl (D.2 0, 16, .inl (fC T 0))), (hz, .inl (D.2 5, 3, .inr (.inr (.inr (.inr (f3 h0 h1 h2)))))), (h0, .inl (D.2 0, 16, .inl (fC T 1))), (h1, .inl (D.2 0, 16, .inl (fC T 2))), (h2, .inl (D.2 0, 16, .inl (fC T 3))), (hl0, .inl (D.2 0, 3, .inl (fLm T))), (hoo, .inr (5, [.ref hpo, .ref hbuo, .ref hmo, .ref hgo, .int (zI (T 71)), .int (zI (T 72)), .int (zI (fSol T)), .int (zI (fSw T)), .int (zI (T 73)), .int (zI (T 74)), .long (zL (T 75))])), (hmo, .inl (D.2 0, 3, .inl (fMu (mu T)))), (hgo, .inl (D.2 0, 3, .inl (G2))), (hbuo, .inr (0, [.ref hso, .int (zI (T 77))])), (hso, .inl (D.2 0, 8, .inl (fSt T))), (hpo, .inr (2, [.ref hwo, .ref hzo, .ref hl0o, .int (zI (T 0))])), (hwo, .inl (D.2 0, 16, .inl (fC T 0))), (hzo, .inl (D.2 5, 3, .inr (.inr (.inr (.inr (f3 h0o h1o h2o)))))), (h0o, .inl (D.2 0, 16, .inl (fC T 1))), (h1o, .inl (D.2 0, 16, .inl (fC T 2))), (h2o, .inl (D.2 0, 16, .inl (fC T 3))), (hl0o, .inl (D.2 0, 3, .inl (fLm T)))] H locs := w
  exact z_vret hx hb hr hlocks w dX5_copyFrom_92 rfl
set_option maxHeartbeats 6000000 in
set_option maxRecDepth 100000 in
theorem c_X5_isTight0 (l : Launch) (D : zD) (ho hm hg hbu hs hp hw hz h0 h1 h2 hl0 : Nat) (S : Nat → Int) (G : Nat → Int32) (B : Int) (hB : B ≤ 2000000000) (hok : OkS B S) : zM l yX5_isTight wsX5_isTight (zR 2) zE0 D [.ref ho, .int (zI (0))] (wSt D ho hm hg hbu hs hp hw hz h0 h1 h2 hl0 S G) (zQi D (fun r W1 => r = zI (zb (sUse S (fSol S).toNat 1 = S 65)) ∧ W1 = (wSt D ho hm hg hbu hs hp hw hz h0 h1 h2 hl0 S G))) := by
  refine zM.of (cc := cX5_isTight) (maxL := 2) (ret := (some .boolean)) (by decide) rfl (Nat.le_of_ble_eq_true rfl) ?_
  intro p e s m below meth c A hx hb hml hown hts hr hlocks hE hnm w ls hl
  have hown : s.vm.findClass RX5 = some m.cls := hown
  have hl : lv_has ls 2 [(0, .ref ho), (1, .int (zI (0)))] := hl
  have f_12 : (Cond.fieldLink RX5 12 "RelaxedSteps$State" "packing" "LRelaxedSteps$Packing;").before _ s = true := hts _ (by decide +kernel)
  have f_39 : (Cond.fieldLink RX5 39 "RelaxedSteps$State" "solution" "I").before _ s = true := hts _ (by decide +kernel)
  have f_103 : (Cond.fieldLink RX5 103 "RelaxedSteps$Packing" "limits" "[I").before _ s = true := hts _ (by decide +kernel)
  have inX5 : ∀ w ∈ u_ws RX5 TX5 11, w ∈ wsX5_isTight := by decide +kernel
  have inX2 : ∀ w ∈ u_ws RX2 TX2 4, w ∈ wsX5_isTight := by decide +kernel
  obtain ⟨hokp, hokm, hokb, hsc, hbe⟩ := id hok
  have hn := zn_eq hokp
  have h16 := zn_le hokp
  have hlim := hokp.2.2
  have hm1 := hokm
  unfold OkM mu at hm1
  have hsw := fSw_b hok
  have hso := fSol_b hok
  have hhu := sHu_b hok
  have hbd := sBd_b hokp hokm
  have hkb := hokb.1
  have hub := sUse_b hokp (fSol S).toNat (what := 1) (by omega)
  have w : zW D A s.heap s [(ho, .inr (5, [.ref hp, .ref hbu, .ref hm, .ref hg, .int (zI (S 71)), .int (zI (S 72)), .int (zI (fSol S)), .int (zI (fSw S)), .int (zI (S 73)), .int (zI (S 74)), .long (zL (S 75))])), (hm, .inl (D.2 0, 3, .inl (fMu (mu S)))), (hg, .inl (D.2 0, 3, .inl (G))), (hbu, .inr (0, [.ref hs, .int (zI (S 77))])), (hs, .inl (D.2 0, 8, .inl (fSt S))), (hp, .inr (2, [.ref hw, .ref hz, .ref hl0, .int (zI (S 0))])), (hw, .inl (D.2 0, 16, .inl (fC S 0))), (hz, .inl (D.2 5, 3, .inr (.inr (.inr (.inr (f3 h0 h1 h2)))))), (h0, .inl (D.2 0, 16, .inl (fC S 1))), (h1, .inl (D.2 0, 16, .inl (fC S 2))), (h2, .inl (D.2 0, 16, .inl (fC S 3))), (hl0, .inl (D.2 0, 3, .inl (fLm S)))] s.heap [] := w
  refine lv_aload_n hx hb dX5_isTight_0 rfl (lv_at hl 0 rfl) ?_
  refine z_get hx hb hown hts w inX5 0 0 rfl rfl (by decide) f_12 rfl rfl dX5_isTight_1 ?_
  refine lv_aload_n hx hb dX5_isTight_4 rfl (lv_at hl 0 rfl) ?_
  refine z_get hx hb hown hts w inX5 0 6 rfl rfl (by decide) f_39 rfl rfl dX5_isTight_5 ?_
  refine lv_iload_n hx hb dX5_isTight_8 rfl (lv_at hl 1 rfl) ?_
  refine W.eq (g2 := F0 m 9 ls [.int (zI (0)), .int (zI ((((fSol S).toNat : Nat) : Int))), .ref hp]) (by rw [Int.toNat_of_nonneg hso.1]) ?_
  refine z_V_i (As := [.int (zI ((((fSol S).toNat : Nat) : Int))), .int (zI (0))]) (rest := []) (Wr := [(ho, .inr (5, [.ref hp, .ref hbu, .ref hm, .ref hg, .int (zI (S 71)), .int (zI (S 72)), .int (zI (fSol S)), .int (zI (fSw S)), .int (zI (S 73)), .int (zI (S 74)), .long (zL (S 75))])), (hm, .inl (D.2 0, 3, .inl (fMu (mu S)))), (hg, .inl (D.2 0, 3, .inl (G))), (hbu, .inr (0, [.ref hs, .int (zI (S 77))])), (hs, .inl (D.2 0, 8, .inl (fSt S)))]) ⟨hx, hb, hml, hown, hts⟩ (c_X2_use0 l D hp hw hz h0 h1 h2 hl0 S hokp ((fSol S).toNat) (by omega)) (cwV 2 hts gX5_isTight_X2_use rfl rfl rfl (by decide +kernel) ⟨Nat.le_of_ble_eq_true rfl, Nat.le_of_ble_eq_true rfl⟩) w (q0 := 5) rfl rfl rfl [5, 6, 7, 8, 9, 10, 11] rfl (by decide) [0, 1, 2, 3, 4] rfl (by decide) (by decide) rfl hl.1 rfl (lv_room (Nat.le_of_ble_eq_true rfl)) dX5_isTight_9 ⟨Nat.zero_le _, Nat.zero_le _⟩ (fun r W1 H locs hp w => ?_)
  obtain ⟨rfl, rfl⟩ := hp
  have w : zW D A s.heap s [(ho, .inr (5, [.ref hp, .ref hbu, .ref hm, .ref hg, .int (zI (S 71)), .int (zI (S 72)), .int (zI (fSol S)), .int (zI (fSw S)), .int (zI (S 73)), .int (zI (S 74)), .long (zL (S 75))])), (hm, .inl (D.2 0, 3, .inl (fMu (mu S)))), (hg, .inl (D.2 0, 3, .inl (G))), (hbu, .inr (0, [.ref hs, .int (zI (S 77))])), (hs, .inl (D.2 0, 8, .inl (fSt S))), (hp, .inr (2, [.ref hw, .ref hz, .ref hl0, .int (zI (S 0))])), (hw, .inl (D.2 0, 16, .inl (fC S 0))), (hz, .inl (D.2 5, 3, .inr (.inr (.inr (.inr (f3 h0 h1 h2)))))), (h0, .inl (D.2 0, 16, .inl (fC S 1))), (h1, .inl (D.2 0, 16, .inl (fC S 2))), (h2, .inl (D.2 0, 16, .inl (fC S 3))), (hl0, .inl (D.2 0, 3, .inl (fLm S)))] H locs := w.sub [0, 1, 2, 3, 4, 5, 6, 7, 8, 9, 10, 11] (by decide) rfl
  refine lv_aload_n hx hb dX5_isTight_12 rfl (lv_at hl 0 rfl) ?_
  refine z_get hx hb hown hts w inX5 0 0 rfl rfl (by decide) f_12 rfl rfl dX5_isTight_13 ?_
  refine z_get hx hb hown hts w inX2 5 2 rfl rfl (by decide) f_103 rfl rfl dX5_isTight_16 ?_
  refine lv_iload_n hx hb dX5_isTight_19 rfl (lv_at hl 1 rfl) ?_
  refine z_iald hx hb w 11 rfl 0 (by omega) (by decide) rfl (v := (zI (S 65))) (if_pos (by omega)) dX5_isTight_20 ?_
  refine z_icmp_ne (tgt := 28) hx hb (by omega) (by omega) dX5_isTight_21 (by decide) (fun c21 => ?_) (fun c21 => ?_)
  · skip
    refine lv_iconst (v := zI 0) hx hb dX5_isTight_28 rfl ?_
    exact z_zret hx hb hr hlocks w dX5_isTight_29 (by omega) ⟨by first | rw [zb_t (by omega)] | rw [zb_f (by omega)], rfl⟩
  · skip
    refine lv_iconst (v := zI 1) hx hb dX5_isTight_24 rfl ?_
    refine lv_goto (tgt := 29) hx hb dX5_isTight_25 (by decide) ?_
    exact z_zret hx hb hr hlocks w dX5_isTight_29 (by omega) ⟨by first | rw [zb_t (by omega)] | rw [zb_f (by omega)], rfl⟩
set_option maxHeartbeats 6000000 in
set_option maxRecDepth 100000 in
theorem c_X5_isTight1 (l : Launch) (D : zD) (ho hm hg hbu hs hp hw hz h0 h1 h2 hl0 : Nat) (S : Nat → Int) (G : Nat → Int32) (B : Int) (hB : B ≤ 2000000000) (hok : OkS B S) : zM l yX5_isTight wsX5_isTight (zR 2) zE0 D [.ref ho, .int (zI (1))] (wSt D ho hm hg hbu hs hp hw hz h0 h1 h2 hl0 S G) (zQi D (fun r W1 => r = zI (zb (sUse S (fSol S).toNat 2 = S 66)) ∧ W1 = (wSt D ho hm hg hbu hs hp hw hz h0 h1 h2 hl0 S G))) := by
  refine zM.of (cc := cX5_isTight) (maxL := 2) (ret := (some .boolean)) (by decide) rfl (Nat.le_of_ble_eq_true rfl) ?_
  intro p e s m below meth c A hx hb hml hown hts hr hlocks hE hnm w ls hl
  have hown : s.vm.findClass RX5 = some m.cls := hown
  have hl : lv_has ls 2 [(0, .ref ho), (1, .int (zI (1)))] := hl
  have f_12 : (Cond.fieldLink RX5 12 "RelaxedSteps$State" "packing" "LRelaxedSteps$Packing;").before _ s = true := hts _ (by decide +kernel)
  have f_39 : (Cond.fieldLink RX5 39 "RelaxedSteps$State" "solution" "I").before _ s = true := hts _ (by decide +kernel)
  have f_103 : (Cond.fieldLink RX5 103 "RelaxedSteps$Packing" "limits" "[I").before _ s = true := hts _ (by decide +kernel)
  have inX5 : ∀ w ∈ u_ws RX5 TX5 11, w ∈ wsX5_isTight := by decide +kernel
  have inX2 : ∀ w ∈ u_ws RX2 TX2 4, w ∈ wsX5_isTight := by decide +kernel
  obtain ⟨hokp, hokm, hokb, hsc, hbe⟩ := id hok
  have hn := zn_eq hokp
  have h16 := zn_le hokp
  have hlim := hokp.2.2
  have hm1 := hokm
  unfold OkM mu at hm1
  have hsw := fSw_b hok
  have hso := fSol_b hok
  have hhu := sHu_b hok
  have hbd := sBd_b hokp hokm
  have hkb := hokb.1
  have hub := sUse_b hokp (fSol S).toNat (what := 2) (by omega)
  have w : zW D A s.heap s [(ho, .inr (5, [.ref hp, .ref hbu, .ref hm, .ref hg, .int (zI (S 71)), .int (zI (S 72)), .int (zI (fSol S)), .int (zI (fSw S)), .int (zI (S 73)), .int (zI (S 74)), .long (zL (S 75))])), (hm, .inl (D.2 0, 3, .inl (fMu (mu S)))), (hg, .inl (D.2 0, 3, .inl (G))), (hbu, .inr (0, [.ref hs, .int (zI (S 77))])), (hs, .inl (D.2 0, 8, .inl (fSt S))), (hp, .inr (2, [.ref hw, .ref hz, .ref hl0, .int (zI (S 0))])), (hw, .inl (D.2 0, 16, .inl (fC S 0))), (hz, .inl (D.2 5, 3, .inr (.inr (.inr (.inr (f3 h0 h1 h2)))))), (h0, .inl (D.2 0, 16, .inl (fC S 1))), (h1, .inl (D.2 0, 16, .inl (fC S 2))), (h2, .inl (D.2 0, 16, .inl (fC S 3))), (hl0, .inl (D.2 0, 3, .inl (fLm S)))] s.heap [] := w
  refine lv_aload_n hx hb dX5_isTight_0 rfl (lv_at hl 0 rfl) ?_
  refine z_get hx hb hown hts w inX5 0 0 rfl rfl (by decide) f_12 rfl rfl dX5_isTight_1 ?_
  refine lv_aload_n hx hb dX5_isTight_4 rfl (lv_at hl 0 rfl) ?_
  refine z_get hx hb hown hts w inX5 0 6 rfl rfl (by decide) f_39 rfl rfl dX5_isTight_5 ?_
  refine lv_iload_n hx hb dX5_isTight_8 rfl (lv_at hl 1 rfl) ?_
  refine W.eq (g2 := F0 m 9 ls [.int (zI (1)), .int (zI ((((fSol S).toNat : Nat) : Int))), .ref hp]) (by rw [Int.toNat_of_nonneg hso.1]) ?_
  refine z_V_i (As := [.int (zI ((((fSol S).toNat : Nat) : Int))), .int (zI (1))]) (rest := []) (Wr := [(ho, .inr (5, [.ref hp, .ref hbu, .ref hm, .ref hg, .int (zI (S 71)), .int (zI (S 72)), .int (zI (fSol S)), .int (zI (fSw S)), .int (zI (S 73)), .int (zI (S 74)), .long (zL (S 75))])), (hm, .inl (D.2 0, 3, .inl (fMu (mu S)))), (hg, .inl (D.2 0, 3, .inl (G))), (hbu, .inr (0, [.ref hs, .int (zI (S 77))])), (hs, .inl (D.2 0, 8, .inl (fSt S)))]) ⟨hx, hb, hml, hown, hts⟩ (c_X2_use1 l D hp hw hz h0 h1 h2 hl0 S hokp ((fSol S).toNat) (by omega)) (cwV 2 hts gX5_isTight_X2_use rfl rfl rfl (by decide +kernel) ⟨Nat.le_of_ble_eq_true rfl, Nat.le_of_ble_eq_true rfl⟩) w (q0 := 5) rfl rfl rfl [5, 6, 7, 8, 9, 10, 11] rfl (by decide) [0, 1, 2, 3, 4] rfl (by decide) (by decide) rfl hl.1 rfl (lv_room (Nat.le_of_ble_eq_true rfl)) dX5_isTight_9 ⟨Nat.zero_le _, Nat.zero_le _⟩ (fun r W1 H locs hp w => ?_)
  obtain ⟨rfl, rfl⟩ := hp
  have w : zW D A s.heap s [(ho, .inr (5, [.ref hp, .ref hbu, .ref hm, .ref hg, .int (zI (S 71)), .int (zI (S 72)), .int (zI (fSol S)), .int (zI (fSw S)), .int (zI (S 73)), .int (zI (S 74)), .long (zL (S 75))])), (hm, .inl (D.2 0, 3, .inl (fMu (mu S)))), (hg, .inl (D.2 0, 3, .inl (G))), (hbu, .inr (0, [.ref hs, .int (zI (S 77))])), (hs, .inl (D.2 0, 8, .inl (fSt S))), (hp, .inr (2, [.ref hw, .ref hz, .ref hl0, .int (zI (S 0))])), (hw, .inl (D.2 0, 16, .inl (fC S 0))), (hz, .inl (D.2 5, 3, .inr (.inr (.inr (.inr (f3 h0 h1 h2)))))), (h0, .inl (D.2 0, 16, .inl (fC S 1))), (h1, .inl (D.2 0, 16, .inl (fC S 2))), (h2, .inl (D.2 0, 16, .inl (fC S 3))), (hl0, .inl (D.2 0, 3, .inl (fLm S)))] H locs := w.sub [0, 1, 2, 3, 4, 5, 6, 7, 8, 9, 10, 11] (by decide) rfl
  refine lv_aload_n hx hb dX5_isTight_12 rfl (lv_at hl 0 rfl) ?_
  refine z_get hx hb hown hts w inX5 0 0 rfl rfl (by decide) f_12 rfl rfl dX5_isTight_13 ?_
  refine z_get hx hb hown hts w inX2 5 2 rfl rfl (by decide) f_103 rfl rfl dX5_isTight_16 ?_
  refine lv_iload_n hx hb dX5_isTight_19 rfl (lv_at hl 1 rfl) ?_
  refine z_iald hx hb w 11 rfl 1 (by omega) (by decide) rfl (v := (zI (S 66))) (if_pos (by omega)) dX5_isTight_20 ?_
  refine z_icmp_ne (tgt := 28) hx hb (by omega) (by omega) dX5_isTight_21 (by decide) (fun c21 => ?_) (fun c21 => ?_)
  · skip
    refine lv_iconst (v := zI 0) hx hb dX5_isTight_28 rfl ?_
    exact z_zret hx hb hr hlocks w dX5_isTight_29 (by omega) ⟨by first | rw [zb_t (by omega)] | rw [zb_f (by omega)], rfl⟩
  · skip
    refine lv_iconst (v := zI 1) hx hb dX5_isTight_24 rfl ?_
    refine lv_goto (tgt := 29) hx hb dX5_isTight_25 (by decide) ?_
    exact z_zret hx hb hr hlocks w dX5_isTight_29 (by omega) ⟨by first | rw [zb_t (by omega)] | rw [zb_f (by omega)], rfl⟩
set_option maxHeartbeats 6000000 in
set_option maxRecDepth 100000 in
theorem c_X5_isTight2 (l : Launch) (D : zD) (ho hm hg hbu hs hp hw hz h0 h1 h2 hl0 : Nat) (S : Nat → Int) (G : Nat → Int32) (B : Int) (hB : B ≤ 2000000000) (hok : OkS B S) : zM l yX5_isTight wsX5_isTight (zR 2) zE0 D [.ref ho, .int (zI (2))] (wSt D ho hm hg hbu hs hp hw hz h0 h1 h2 hl0 S G) (zQi D (fun r W1 => r = zI (zb (sUse S (fSol S).toNat 3 = S 67)) ∧ W1 = (wSt D ho hm hg hbu hs hp hw hz h0 h1 h2 hl0 S G))) := by
  refine zM.of (cc := cX5_isTight) (maxL := 2) (ret := (some .boolean)) (by decide) rfl (Nat.le_of_ble_eq_true rfl) ?_
  intro p e s m below meth c A hx hb hml hown hts hr hlocks hE hnm w ls hl
  have hown : s.vm.findClass RX5 = some m.cls := hown
  have hl : lv_has ls 2 [(0, .ref ho), (1, .int (zI (2)))] := hl
  have f_12 : (Cond.fieldLink RX5 12 "RelaxedSteps$State" "packing" "LRelaxedSteps$Packing;").before _ s = true := hts _ (by decide +kernel)
  have f_39 : (Cond.fieldLink RX5 39 "RelaxedSteps$State" "solution" "I").before _ s = true := hts _ (by decide +kernel)
  have f_103 : (Cond.fieldLink RX5 103 "RelaxedSteps$Packing" "limits" "[I").before _ s = true := hts _ (by decide +kernel)
  have inX5 : ∀ w ∈ u_ws RX5 TX5 11, w ∈ wsX5_isTight := by decide +kernel
  have inX2 : ∀ w ∈ u_ws RX2 TX2 4, w ∈ wsX5_isTight := by decide +kernel
  obtain ⟨hokp, hokm, hokb, hsc, hbe⟩ := id hok
  have hn := zn_eq hokp
  have h16 := zn_le hokp
  have hlim := hokp.2.2
  have hm1 := hokm
  unfold OkM mu at hm1
  have hsw := fSw_b hok
  have hso := fSol_b hok
  have hhu := sHu_b hok
  have hbd := sBd_b hokp hokm
  have hkb := hokb.1
  have hub := sUse_b hokp (fSol S).toNat (what := 3) (by omega)
  have w : zW D A s.heap s [(ho, .inr (5, [.ref hp, .ref hbu, .ref hm, .ref hg, .int (zI (S 71)), .int (zI (S 72)), .int (zI (fSol S)), .int (zI (fSw S)), .int (zI (S 73)), .int (zI (S 74)), .long (zL (S 75))])), (hm, .inl (D.2 0, 3, .inl (fMu (mu S)))), (hg, .inl (D.2 0, 3, .inl (G))), (hbu, .inr (0, [.ref hs, .int (zI (S 77))])), (hs, .inl (D.2 0, 8, .inl (fSt S))), (hp, .inr (2, [.ref hw, .ref hz, .ref hl0, .int (zI (S 0))])), (hw, .inl (D.2 0, 16, .inl (fC S 0))), (hz, .inl (D.2 5, 3, .inr (.inr (.inr (.inr (f3 h0 h1 h2)))))), (h0, .inl (D.2 0, 16, .inl (fC S 1))), (h1, .inl (D.2 0, 16, .inl (fC S 2))), (h2, .inl (D.2 0, 16, .inl (fC S 3))), (hl0, .inl (D.2 0, 3, .inl (fLm S)))] s.heap [] := w
  refine lv_aload_n hx hb dX5_isTight_0 rfl (lv_at hl 0 rfl) ?_
  refine z_get hx hb hown hts w inX5 0 0 rfl rfl (by decide) f_12 rfl rfl dX5_isTight_1 ?_
  refine lv_aload_n hx hb dX5_isTight_4 rfl (lv_at hl 0 rfl) ?_
  refine z_get hx hb hown hts w inX5 0 6 rfl rfl (by decide) f_39 rfl rfl dX5_isTight_5 ?_
  refine lv_iload_n hx hb dX5_isTight_8 rfl (lv_at hl 1 rfl) ?_
  refine W.eq (g2 := F0 m 9 ls [.int (zI (2)), .int (zI ((((fSol S).toNat : Nat) : Int))), .ref hp]) (by rw [Int.toNat_of_nonneg hso.1]) ?_
  refine z_V_i (As := [.int (zI ((((fSol S).toNat : Nat) : Int))), .int (zI (2))]) (rest := []) (Wr := [(ho, .inr (5, [.ref hp, .ref hbu, .ref hm, .ref hg, .int (zI (S 71)), .int (zI (S 72)), .int (zI (fSol S)), .int (zI (fSw S)), .int (zI (S 73)), .int (zI (S 74)), .long (zL (S 75))])), (hm, .inl (D.2 0, 3, .inl (fMu (mu S)))), (hg, .inl (D.2 0, 3, .inl (G))), (hbu, .inr (0, [.ref hs, .int (zI (S 77))])), (hs, .inl (D.2 0, 8, .inl (fSt S)))]) ⟨hx, hb, hml, hown, hts⟩ (c_X2_use2 l D hp hw hz h0 h1 h2 hl0 S hokp ((fSol S).toNat) (by omega)) (cwV 2 hts gX5_isTight_X2_use rfl rfl rfl (by decide +kernel) ⟨Nat.le_of_ble_eq_true rfl, Nat.le_of_ble_eq_true rfl⟩) w (q0 := 5) rfl rfl rfl [5, 6, 7, 8, 9, 10, 11] rfl (by decide) [0, 1, 2, 3, 4] rfl (by decide) (by decide) rfl hl.1 rfl (lv_room (Nat.le_of_ble_eq_true rfl)) dX5_isTight_9 ⟨Nat.zero_le _, Nat.zero_le _⟩ (fun r W1 H locs hp w => ?_)
  obtain ⟨rfl, rfl⟩ := hp
  have w : zW D A s.heap s [(ho, .inr (5, [.ref hp, .ref hbu, .ref hm, .ref hg, .int (zI (S 71)), .int (zI (S 72)), .int (zI (fSol S)), .int (zI (fSw S)), .int (zI (S 73)), .int (zI (S 74)), .long (zL (S 75))])), (hm, .inl (D.2 0, 3, .inl (fMu (mu S)))), (hg, .inl (D.2 0, 3, .inl (G))), (hbu, .inr (0, [.ref hs, .int (zI (S 77))])), (hs, .inl (D.2 0, 8, .inl (fSt S))), (hp, .inr (2, [.ref hw, .ref hz, .ref hl0, .int (zI (S 0))])), (hw, .inl (D.2 0, 16, .inl (fC S 0))), (hz, .inl (D.2 5, 3, .inr (.inr (.inr (.inr (f3 h0 h1 h2)))))), (h0, .inl (D.2 0, 16, .inl (fC S 1))), (h1, .inl (D.2 0, 16, .inl (fC S 2))), (h2, .inl (D.2 0, 16, .inl (fC S 3))), (hl0, .inl (D.2 0, 3, .inl (fLm S)))] H locs := w.sub [0, 1, 2, 3, 4, 5, 6, 7, 8, 9, 10, 11] (by decide) rfl
  refine lv_aload_n hx hb dX5_isTight_12 rfl (lv_at hl 0 rfl) ?_
  refine z_get hx hb hown hts w inX5 0 0 rfl rfl (by decide) f_12 rfl rfl dX5_isTight_13 ?_
  refine z_get hx hb hown hts w inX2 5 2 rfl rfl (by decide) f_103 rfl rfl dX5_isTight_16 ?_
  refine lv_iload_n hx hb dX5_isTight_19 rfl (lv_at hl 1 rfl) ?_
  refine z_iald hx hb w 11 rfl 2 (by omega) (by decide) rfl (v := (zI (S 67))) (if_pos (by omega)) dX5_isTight_20 ?_
  refine z_icmp_ne (tgt := 28) hx hb (by omega) (by omega) dX5_isTight_21 (by decide) (fun c21 => ?_) (fun c21 => ?_)
  · skip
    refine lv_iconst (v := zI 0) hx hb dX5_isTight_28 rfl ?_
    exact z_zret hx hb hr hlocks w dX5_isTight_29 (by omega) ⟨by first | rw [zb_t (by omega)] | rw [zb_f (by omega)], rfl⟩
  · skip
    refine lv_iconst (v := zI 1) hx hb dX5_isTight_24 rfl ?_
    refine lv_goto (tgt := 29) hx hb dX5_isTight_25 (by decide) ?_
    exact z_zret hx hb hr hlocks w dX5_isTight_29 (by omega) ⟨by first | rw [zb_t (by omega)] | rw [zb_f (by omega)], rfl⟩
set_option maxHeartbeats 6000000 in
set_option maxRecDepth 100000 in
theorem c_X5_setRule (l : Launch) (D : zD) (ho hm hg hbu hs hp hw hz h0 h1 h2 hl0 : Nat) (S : Nat → Int) (G : Nat → Int32) (B : Int) (hB : B ≤ 2000000000) (hok : OkS B S) (r0 t0 : Int) (hr0 : zB r0) (ht0 : zB t0) : zM l yX5_setRule wsX5_setRule (zR 1) zE0 D [.ref ho, .int (zI (r0)), .int (zI (t0))] (wSt D ho hm hg hbu hs hp hw hz h0 h1 h2 hl0 S G) (zQi D (fun r W1 => r = zI (aRule S r0 t0).1 ∧ ∃ G2, W1 = (wSt D ho hm hg hbu hs hp hw hz h0 h1 h2 hl0 (aRule S r0 t0).2 G2))) := by
  refine zM.of (cc := cX5_setRule) (maxL := 4) (ret := (some .int)) (by decide) rfl (Nat.le_of_ble_eq_true rfl) ?_
  intro p e s m below meth c A hx hb hml hown hts hr hlocks hE hnm w ls hl
  have hown : s.vm.findClass RX5 = some m.cls := hown
  have hl : lv_has ls 4 [(0, .ref ho), (1, .int (zI (r0))), (2, .int (zI (t0)))] := hl
  have f_32 : (Cond.fieldLink RX5 32 "RelaxedSteps$State" "rule" "I").before _ s = true := hts _ (by decide +kernel)
  have f_36 : (Cond.fieldLink RX5 36 "RelaxedSteps$State" "step" "I").before _ s = true := hts _ (by decide +kernel)
  have inX5 : ∀ w ∈ u_ws RX5 TX5 11, w ∈ wsX5_setRule := by decide +kernel
  obtain ⟨hokp, hokm, hokb, hsc, hbe⟩ := id hok
  have hn := zn_eq hokp
  have h16 := zn_le hokp
  have hlim := hokp.2.2
  have hm1 := hokm
  unfold OkM mu at hm1
  have hsw := fSw_b hok
  have hso := fSol_b hok
  have hhu := sHu_b hok
  have hbd := sBd_b hokp hokm
  have hkb := hokb.1
  have w : zW D A s.heap s [(ho, .inr (5, [.ref hp, .ref hbu, .ref hm, .ref hg, .int (zI (S 71)), .int (zI (S 72)), .int (zI (fSol S)), .int (zI (fSw S)), .int (zI (S 73)), .int (zI (S 74)), .long (zL (S 75))])), (hm, .inl (D.2 0, 3, .inl (fMu (mu S)))), (hg, .inl (D.2 0, 3, .inl (G))), (hbu, .inr (0, [.ref hs, .int (zI (S 77))])), (hs, .inl (D.2 0, 8, .inl (fSt S))), (hp, .inr (2, [.ref hw, .ref hz, .ref hl0, .int (zI (S 0))])), (hw, .inl (D.2 0, 16, .inl (fC S 0))), (hz, .inl (D.2 5, 3, .inr (.inr (.inr (.inr (f3 h0 h1 h2)))))), (h0, .inl (D.2 0, 16, .inl (fC S 1))), (h1, .inl (D.2 0, 16, .inl (fC S 2))), (h2, .inl (D.2 0, 16, .inl (fC S 3))), (hl0, .inl (D.2 0, 3, .inl (fLm S)))] s.heap [] := w
  refine lv_iload_n hx hb dX5_setRule_0 rfl (lv_at hl 1 rfl) ?_
  refine lv_iconst (v := zI 0) hx hb dX5_setRule_1 rfl ?_
  refine lv_iconst (v := zI 2) hx hb dX5_setRule_2 rfl ?_
  refine z_SN_i (As := [.int (zI (r0)), .int (zI (0)), .int (zI (2))]) (rest := []) (Wr := [(ho, .inr (5, [.ref hp, .ref hbu, .ref hm, .ref hg, .int (zI (S 71)), .int (zI (S 72)), .int (zI (fSol S)), .int (zI (fSw S)), .int (zI (S 73)), .int (zI (S 74)), .long (zL (S 75))])), (hm, .inl (D.2 0, 3, .inl (fMu (mu S)))), (hg, .inl (D.2 0, 3, .inl (G))), (hbu, .inr (0, [.ref hs, .int (zI (S 77))])), (hs, .inl (D.2 0, 8, .inl (fSt S))), (hp, .inr (2, [.ref hw, .ref hz, .ref hl0, .int (zI (S 0))])), (hw, .inl (D.2 0, 16, .inl (fC S 0))), (hz, .inl (D.2 5, 3, .inr (.inr (.inr (.inr (f3 h0 h1 h2)))))), (h0, .inl (D.2 0, 16, .inl (fC S 1))), (h1, .inl (D.2 0, 16, .inl (fC S 2))), (h2, .inl (D.2 0, 16, .inl (fC S 3))), (hl0, .inl (D.2 0, 3, .inl (fLm S)))]) ⟨hx, hb, hml, hown, hts⟩ (c_X6_within l D r0 0 2 (by omega) (by omega) (by omega)) ⟨va_cnB 3 hts ggX5_setRule_X6_within rfl rfl rfl (w.1.2 (RX5, 68, yX6_within, "RelaxedSteps") (by decide +kernel)) (hts (.initialized RX6) (by decide +kernel)) (by decide +kernel) ⟨Nat.le_of_ble_eq_true rfl, Nat.le_of_ble_eq_true rfl⟩, hts (.static yX6_within) (by decide +kernel), trivial⟩ w [] rfl (by decide) [0, 1, 2, 3, 4, 5, 6, 7, 8, 9, 10, 11] rfl (by decide) (by decide) rfl hl.1 rfl (lv_room (Nat.le_of_ble_eq_true rfl)) dX5_setRule_3 ⟨Nat.zero_le _, Nat.zero_le _⟩ (fun r W1 H locs hp w => ?_)
  obtain ⟨rfl, rfl⟩ := hp
  have w : zW D A s.heap s [(ho, .inr (5, [.ref hp, .ref hbu, .ref hm, .ref hg, .int (zI (S 71)), .int (zI (S 72)), .int (zI (fSol S)), .int (zI (fSw S)), .int (zI (S 73)), .int (zI (S 74)), .long (zL (S 75))])), (hm, .inl (D.2 0, 3, .inl (fMu (mu S)))), (hg, .inl (D.2 0, 3, .inl (G))), (hbu, .inr (0, [.ref hs, .int (zI (S 77))])), (hs, .inl (D.2 0, 8, .inl (fSt S))), (hp, .inr (2, [.ref hw, .ref hz, .ref hl0, .int (zI (S 0))])), (hw, .inl (D.2 0, 16, .inl (fC S 0))), (hz, .inl (D.2 5, 3, .inr (.inr (.inr (.inr (f3 h0 h1 h2)))))), (h0, .inl (D.2 0, 16, .inl (fC S 1))), (h1, .inl (D.2 0, 16, .inl (fC S 2))), (h2, .inl (D.2 0, 16, .inl (fC S 3))), (hl0, .inl (D.2 0, 3, .inl (fLm S)))] H locs := w.sub [0, 1, 2, 3, 4, 5, 6, 7, 8, 9, 10, 11] (by decide) rfl
  refine z_if_eq_b (tgt := 20) hx hb dX5_setRule_6 (by decide) (fun c6 => ?_) (fun c6 => ?_)
  · skip
    refine lv_bipush (v := zI (-2)) hx hb dX5_setRule_20 (by decide +kernel) ?_
    exact z_iret hx hb hr hlocks w dX5_setRule_22 (by rw [show aRule S r0 t0 = (-2, S) from if_neg (by omega)]; exact ⟨rfl, G, rfl⟩)
  · skip
    refine lv_iload_n hx hb dX5_setRule_9 rfl (lv_at hl 2 rfl) ?_
    refine lv_iconst (v := zI 1) hx hb dX5_setRule_10 rfl ?_
    refine lv_sipush (v := zI 9999) hx hb dX5_setRule_11 (by decide +kernel) ?_
    refine z_SN_i (As := [.int (zI (t0)), .int (zI (1)), .int (zI (9999))]) (rest := []) (Wr := [(ho, .inr (5, [.ref hp, .ref hbu, .ref hm, .ref hg, .int (zI (S 71)), .int (zI (S 72)), .int (zI (fSol S)), .int (zI (fSw S)), .int (zI (S 73)), .int (zI (S 74)), .long (zL (S 75))])), (hm, .inl (D.2 0, 3, .inl (fMu (mu S)))), (hg, .inl (D.2 0, 3, .inl (G))), (hbu, .inr (0, [.ref hs, .int (zI (S 77))])), (hs, .inl (D.2 0, 8, .inl (fSt S))), (hp, .inr (2, [.ref hw, .ref hz, .ref hl0, .int (zI (S 0))])), (hw, .inl (D.2 0, 16, .inl (fC S 0))), (hz, .inl (D.2 5, 3, .inr (.inr (.inr (.inr (f3 h0 h1 h2)))))), (h0, .inl (D.2 0, 16, .inl (fC S 1))), (h1, .inl (D.2 0, 16, .inl (fC S 2))), (h2, .inl (D.2 0, 16, .inl (fC S 3))), (hl0, .inl (D.2 0, 3, .inl (fLm S)))]) ⟨hx, hb, hml, hown, hts⟩ (c_X6_within l D t0 1 9999 (by omega) (by omega) (by omega)) ⟨va_cnB 3 hts ggX5_setRule_X6_within rfl rfl rfl (w.1.2 (RX5, 68, yX6_within, "RelaxedSteps") (by decide +kernel)) (hts (.initialized RX6) (by decide +kernel)) (by decide +kernel) ⟨Nat.le_of_ble_eq_true rfl, Nat.le_of_ble_eq_true rfl⟩, hts (.static yX6_within) (by decide +kernel), trivial⟩ w [] rfl (by decide) [0, 1, 2, 3, 4, 5, 6, 7, 8, 9, 10, 11] rfl (by decide) (by decide) rfl hl.1 rfl (lv_room (Nat.le_of_ble_eq_true rfl)) dX5_setRule_14 ⟨Nat.zero_le _, Nat.zero_le _⟩ (fun r W1 H locs hp w => ?_)
    obtain ⟨rfl, rfl⟩ := hp
    have w : zW D A s.heap s [(ho, .inr (5, [.ref hp, .ref hbu, .ref hm, .ref hg, .int (zI (S 71)), .int (zI (S 72)), .int (zI (fSol S)), .int (zI (fSw S)), .int (zI (S 73)), .int (zI (S 74)), .long (zL (S 75))])), (hm, .inl (D.2 0, 3, .inl (fMu (mu S)))), (hg, .inl (D.2 0, 3, .inl (G))), (hbu, .inr (0, [.ref hs, .int (zI (S 77))])), (hs, .inl (D.2 0, 8, .inl (fSt S))), (hp, .inr (2, [.ref hw, .ref hz, .ref hl0, .int (zI (S 0))])), (hw, .inl (D.2 0, 16, .inl (fC S 0))), (hz, .inl (D.2 5, 3, .inr (.inr (.inr (.inr (f3 h0 h1 h2)))))), (h0, .inl (D.2 0, 16, .inl (fC S 1))), (h1, .inl (D.2 0, 16, .inl (fC S 2))), (h2, .inl (D.2 0, 16, .inl (fC S 3))), (hl0, .inl (D.2 0, 3, .inl (fLm S)))] H locs := w.sub [0, 1, 2, 3, 4, 5, 6, 7, 8, 9, 10, 11] (by decide) rfl
    refine z_if_ne_b (tgt := 23) hx hb dX5_setRule_17 (by decide) (fun c17 => ?_) (fun c17 => ?_)
    · skip
      refine lv_aload_n hx hb dX5_setRule_23 rfl (lv_at hl 0 rfl) ?_
      refine z_get hx hb hown hts w inX5 0 4 rfl rfl (by decide) f_32 rfl rfl dX5_setRule_24 ?_
      refine lv_istore_n (lv' := [(3, .int (zI (S 71))), (0, .ref ho), (1, .int (zI (r0))), (2, .int (zI (t0)))]) hx hb dX5_setRule_27 rfl hl (by decide) rfl (fun ls hl => ?_)
      refine lv_aload_n hx hb dX5_setRule_28 rfl (lv_at hl 1 rfl) ?_
      refine lv_iload_n hx hb dX5_setRule_29 rfl (lv_at hl 2 rfl) ?_
      refine z_put hx hb hown hts w inX5 tyX5 tyX5_ok nmX5 0 4 rfl rfl (by decide) f_32 rfl rfl (ty := .int) rfl rfl rfl (Nat.le_of_ble_eq_true rfl) dX5_setRule_30 (fun H locs w => ?_)
      have w : zW D A s.heap s [(ho, .inr (5, [.ref hp, .ref hbu, .ref hm, .ref hg, .int (zI (r0)), .int (zI (S 72)), .int (zI (fSol S)), .int (zI (fSw S)), .int (zI (S 73)), .int (zI (S 74)), .long (zL (S 75))])), (hm, .inl (D.2 0, 3, .inl (fMu (mu S)))), (hg, .inl (D.2 0, 3, .inl (G))), (hbu, .inr (0, [.ref hs, .int (zI (S 77))])), (hs, .inl (D.2 0, 8, .inl (fSt S))), (hp, .inr (2, [.ref hw, .ref hz, .ref hl0, .int (zI (S 0))])), (hw, .inl (D.2 0, 16, .inl (fC S 0))), (hz, .inl (D.2 5, 3, .inr (.inr (.inr (.inr (f3 h0 h1 h2)))))), (h0, .inl (D.2 0, 16, .inl (fC S 1))), (h1, .inl (D.2 0, 16, .inl (fC S 2))), (h2, .inl (D.2 0, 16, .inl (fC S 3))), (hl0, .inl (D.2 0, 3, .inl (fLm S)))] H locs := w
      refine lv_aload_n hx hb dX5_setRule_33 rfl (lv_at hl 1 rfl) ?_
      refine lv_iload_n hx hb dX5_setRule_34 rfl (lv_at hl 3 rfl) ?_
      refine z_put hx hb hown hts w inX5 tyX5 tyX5_ok nmX5 0 5 rfl rfl (by decide) f_36 rfl rfl (ty := .int) rfl rfl rfl (Nat.le_of_ble_eq_true rfl) dX5_setRule_35 (fun H locs w => ?_)
      have w : zW D A s.heap s [(ho, .inr (5, [.ref hp, .ref hbu, .ref hm, .ref hg, .int (zI (r0)), .int (zI (t0)), .int (zI (fSol S)), .int (zI (fSw S)), .int (zI (S 73)), .int (zI (S 74)), .long (zL (S 75))])), (hm, .inl (D.2 0, 3, .inl (fMu (mu S)))), (hg, .inl (D.2 0, 3, .inl (G))), (hbu, .inr (0, [.ref hs, .int (zI (S 77))])), (hs, .inl (D.2 0, 8, .inl (fSt S))), (hp, .inr (2, [.ref hw, .ref hz, .ref hl0, .int (zI (S 0))])), (hw, .inl (D.2 0, 16, .inl (fC S 0))), (hz, .inl (D.2 5, 3, .inr (.inr (.inr (.inr (f3 h0 h1 h2)))))), (h0, .inl (D.2 0, 16, .inl (fC S 1))), (h1, .inl (D.2 0, 16, .inl (fC S 2))), (h2, .inl (D.2 0, 16, .inl (fC S 3))), (hl0, .inl (D.2 0, 3, .inl (fLm S)))] H locs := w
      refine lv_iload_n hx hb dX5_setRule_38 rfl (lv_at hl 0 rfl) ?_
      exact z_iret hx hb hr hlocks w dX5_setRule_39 (by rw [show aRule S r0 t0 = (S 71, oRule S r0 t0) from if_pos (by omega)]; exact ⟨rfl, G, wSt_rule h16⟩)
    · skip
      refine lv_bipush (v := zI (-2)) hx hb dX5_setRule_20 (by decide +kernel) ?_
      exact z_iret hx hb hr hlocks w dX5_setRule_22 (by rw [show aRule S r0 t0 = (-2, S) from if_neg (by omega)]; exact ⟨rfl, G, rfl⟩)
set_option maxHeartbeats 6000000 in
set_option maxRecDepth 100000 in
theorem c_X5_setLimitN (l : Launch) (D : zD) (ho hm hg hbu hs hp hw hz h0 h1 h2 hl0 : Nat) (S : Nat → Int) (G : Nat → Int32) (B : Int) (hB : B ≤ 2000000000) (hok : OkS B S) (d0 v : Int) (hd0 : zB d0) (hv : zB v) (hno : ¬ (0 ≤ d0 ∧ d0 ≤ 2)) : zM l yX5_setLimit wsX5_setLimit (zR 3) zE0 D [.ref ho, .int (zI (d0)), .int (zI (v))] (wSt D ho hm hg hbu hs hp hw hz h0 h1 h2 hl0 S G) (zQi D (fun r W1 => r = zI (aLimit S d0 v).1 ∧ ∃ G2, W1 = (wSt D ho hm hg hbu hs hp hw hz h0 h1 h2 hl0 (aLimit S d0 v).2 G2))) := by
  refine zM.of (cc := cX5_setLimit) (maxL := 4) (ret := (some .int)) (by decide) rfl (Nat.le_of_ble_eq_true rfl) ?_
  intro p e s m below meth c A hx hb hml hown hts hr hlocks hE hnm w ls hl
  have hown : s.vm.findClass RX5 = some m.cls := hown
  have hl : lv_has ls 4 [(0, .ref ho), (1, .int (zI (d0))), (2, .int (zI (v)))] := hl
  obtain ⟨hokp, hokm, hokb, hsc, hbe⟩ := id hok
  have hn := zn_eq hokp
  have h16 := zn_le hokp
  have hlim := hokp.2.2
  have hm1 := hokm
  unfold OkM mu at hm1
  have hsw := fSw_b hok
  have hso := fSol_b hok
  have hhu := sHu_b hok
  have hbd := sBd_b hokp hokm
  have hkb := hokb.1
  have w : zW D A s.heap s [(ho, .inr (5, [.ref hp, .ref hbu, .ref hm, .ref hg, .int (zI (S 71)), .int (zI (S 72)), .int (zI (fSol S)), .int (zI (fSw S)), .int (zI (S 73)), .int (zI (S 74)), .long (zL (S 75))])), (hm, .inl (D.2 0, 3, .inl (fMu (mu S)))), (hg, .inl (D.2 0, 3, .inl (G))), (hbu, .inr (0, [.ref hs, .int (zI (S 77))])), (hs, .inl (D.2 0, 8, .inl (fSt S))), (hp, .inr (2, [.ref hw, .ref hz, .ref hl0, .int (zI (S 0))])), (hw, .inl (D.2 0, 16, .inl (fC S 0))), (hz, .inl (D.2 5, 3, .inr (.inr (.inr (.inr (f3 h0 h1 h2)))))), (h0, .inl (D.2 0, 16, .inl (fC S 1))), (h1, .inl (D.2 0, 16, .inl (fC S 2))), (h2, .inl (D.2 0, 16, .inl (fC S 3))), (hl0, .inl (D.2 0, 3, .inl (fLm S)))] s.heap [] := w
  refine lv_iload_n hx hb dX5_setLimit_0 rfl (lv_at hl 1 rfl) ?_
  refine z_SN_i (As := [.int (zI (d0))]) (rest := []) (Wr := [(ho, .inr (5, [.ref hp, .ref hbu, .ref hm, .ref hg, .int (zI (S 71)), .int (zI (S 72)), .int (zI (fSol S)), .int (zI (fSw S)), .int (zI (S 73)), .int (zI (S 74)), .long (zL (S 75))])), (hm, .inl (D.2 0, 3, .inl (fMu (mu S)))), (hg, .inl (D.2 0, 3, .inl (G))), (hbu, .inr (0, [.ref hs, .int (zI (S 77))])), (hs, .inl (D.2 0, 8, .inl (fSt S))), (hp, .inr (2, [.ref hw, .ref hz, .ref hl0, .int (zI (S 0))])), (hw, .inl (D.2 0, 16, .inl (fC S 0))), (hz, .inl (D.2 5, 3, .inr (.inr (.inr (.inr (f3 h0 h1 h2)))))), (h0, .inl (D.2 0, 16, .inl (fC S 1))), (h1, .inl (D.2 0, 16, .inl (fC S 2))), (h2, .inl (D.2 0, 16, .inl (fC S 3))), (hl0, .inl (D.2 0, 3, .inl (fLm S)))]) ⟨hx, hb, hml, hown, hts⟩ (c_X6_isDimension l D d0 (by omega)) ⟨va_cnB 1 hts ggX5_setLimit_X6_isDimension rfl rfl rfl (w.1.2 (RX5, 100, yX6_isDimension, "RelaxedSteps") (by decide +kernel)) (hts (.initialized RX6) (by decide +kernel)) (by decide +kernel) ⟨Nat.le_of_ble_eq_true rfl, Nat.le_of_ble_eq_true rfl⟩, hts (.static yX6_isDimension) (by decide +kernel), trivial⟩ w [] rfl (by decide) [0, 1, 2, 3, 4, 5, 6, 7, 8, 9, 10, 11] rfl (by decide) (by decide) rfl hl.1 rfl (lv_room (Nat.le_of_ble_eq_true rfl)) dX5_setLimit_1 ⟨Nat.zero_le _, Nat.zero_le _⟩ (fun r W1 H locs hp w => ?_)
  obtain ⟨rfl, rfl⟩ := hp
  have w : zW D A s.heap s [(ho, .inr (5, [.ref hp, .ref hbu, .ref hm, .ref hg, .int (zI (S 71)), .int (zI (S 72)), .int (zI (fSol S)), .int (zI (fSw S)), .int (zI (S 73)), .int (zI (S 74)), .long (zL (S 75))])), (hm, .inl (D.2 0, 3, .inl (fMu (mu S)))), (hg, .inl (D.2 0, 3, .inl (G))), (hbu, .inr (0, [.ref hs, .int (zI (S 77))])), (hs, .inl (D.2 0, 8, .inl (fSt S))), (hp, .inr (2, [.ref hw, .ref hz, .ref hl0, .int (zI (S 0))])), (hw, .inl (D.2 0, 16, .inl (fC S 0))), (hz, .inl (D.2 5, 3, .inr (.inr (.inr (.inr (f3 h0 h1 h2)))))), (h0, .inl (D.2 0, 16, .inl (fC S 1))), (h1, .inl (D.2 0, 16, .inl (fC S 2))), (h2, .inl (D.2 0, 16, .inl (fC S 3))), (hl0, .inl (D.2 0, 3, .inl (fLm S)))] H locs := w.sub [0, 1, 2, 3, 4, 5, 6, 7, 8, 9, 10, 11] (by decide) rfl
  refine z_if_ne_b (tgt := 9) hx hb dX5_setLimit_4 (by decide) (fun c4 => ?_) (fun c4 => ?_)
  · skip
    exact absurd c4 hno
  · skip
    refine lv_iconst (v := zI (-1)) hx hb dX5_setLimit_7 rfl ?_
    exact z_iret hx hb hr hlocks w dX5_setLimit_8 (by rw [show aLimit S d0 v = (-1, S) from if_neg hno]; exact ⟨rfl, G, rfl⟩)
set_option maxHeartbeats 6000000 in
set_option maxRecDepth 100000 in
theorem c_X5_setMultiplierN (l : Launch) (D : zD) (ho hm hg hbu hs hp hw hz h0 h1 h2 hl0 : Nat) (S : Nat → Int) (G : Nat → Int32) (B : Int) (hB : B ≤ 2000000000) (hok : OkS B S) (d0 v : Int) (hd0 : zB d0) (hv : zB v) (hno : ¬ (0 ≤ d0 ∧ d0 ≤ 2)) : zM l yX5_setMultiplier wsX5_setMultiplier (zR 3) zE0 D [.ref ho, .int (zI (d0)), .int (zI (v))] (wSt D ho hm hg hbu hs hp hw hz h0 h1 h2 hl0 S G) (zQi D (fun r W1 => r = zI (aMult S d0 v).1 ∧ ∃ G2, W1 = (wSt D ho hm hg hbu hs hp hw hz h0 h1 h2 hl0 (aMult S d0 v).2 G2))) := by
  refine zM.of (cc := cX5_setMultiplier) (maxL := 4) (ret := (some .int)) (by decide) rfl (Nat.le_of_ble_eq_true rfl) ?_
  intro p e s m below meth c A hx hb hml hown hts hr hlocks hE hnm w ls hl
  have hown : s.vm.findClass RX5 = some m.cls := hown
  have hl : lv_has ls 4 [(0, .ref ho), (1, .int (zI (d0))), (2, .int (zI (v)))] := hl
  obtain ⟨hokp, hokm, hokb, hsc, hbe⟩ := id hok
  have hn := zn_eq hokp
  have h16 := zn_le hokp
  have hlim := hokp.2.2
  have hm1 := hokm
  unfold OkM mu at hm1
  have hsw := fSw_b hok
  have hso := fSol_b hok
  have hhu := sHu_b hok
  have hbd := sBd_b hokp hokm
  have hkb := hokb.1
  have w : zW D A s.heap s [(ho, .inr (5, [.ref hp, .ref hbu, .ref hm, .ref hg, .int (zI (S 71)), .int (zI (S 72)), .int (zI (fSol S)), .int (zI (fSw S)), .int (zI (S 73)), .int (zI (S 74)), .long (zL (S 75))])), (hm, .inl (D.2 0, 3, .inl (fMu (mu S)))), (hg, .inl (D.2 0, 3, .inl (G))), (hbu, .inr (0, [.ref hs, .int (zI (S 77))])), (hs, .inl (D.2 0, 8, .inl (fSt S))), (hp, .inr (2, [.ref hw, .ref hz, .ref hl0, .int (zI (S 0))])), (hw, .inl (D.2 0, 16, .inl (fC S 0))), (hz, .inl (D.2 5, 3, .inr (.inr (.inr (.inr (f3 h0 h1 h2)))))), (h0, .inl (D.2 0, 16, .inl (fC S 1))), (h1, .inl (D.2 0, 16, .inl (fC S 2))), (h2, .inl (D.2 0, 16, .inl (fC S 3))), (hl0, .inl (D.2 0, 3, .inl (fLm S)))] s.heap [] := w
  refine lv_iload_n hx hb dX5_setMultiplier_0 rfl (lv_at hl 1 rfl) ?_
  refine z_SN_i (As := [.int (zI (d0))]) (rest := []) (Wr := [(ho, .inr (5, [.ref hp, .ref hbu, .ref hm, .ref hg, .int (zI (S 71)), .int (zI (S 72)), .int (zI (fSol S)), .int (zI (fSw S)), .int (zI (S 73)), .int (zI (S 74)), .long (zL (S 75))])), (hm, .inl (D.2 0, 3, .inl (fMu (mu S)))), (hg, .inl (D.2 0, 3, .inl (G))), (hbu, .inr (0, [.ref hs, .int (zI (S 77))])), (hs, .inl (D.2 0, 8, .inl (fSt S))), (hp, .inr (2, [.ref hw, .ref hz, .ref hl0, .int (zI (S 0))])), (hw, .inl (D.2 0, 16, .inl (fC S 0))), (hz, .inl (D.2 5, 3, .inr (.inr (.inr (.inr (f3 h0 h1 h2)))))), (h0, .inl (D.2 0, 16, .inl (fC S 1))), (h1, .inl (D.2 0, 16, .inl (fC S 2))), (h2, .inl (D.2 0, 16, .inl (fC S 3))), (hl0, .inl (D.2 0, 3, .inl (fLm S)))]) ⟨hx, hb, hml, hown, hts⟩ (c_X6_isDimension l D d0 (by omega)) ⟨va_cnB 1 hts ggX5_setMultiplier_X6_isDimension rfl rfl rfl (w.1.2 (RX5, 100, yX6_isDimension, "RelaxedSteps") (by decide +kernel)) (hts (.initialized RX6) (by decide +kernel)) (by decide +kernel) ⟨Nat.le_of_ble_eq_true rfl, Nat.le_of_ble_eq_true rfl⟩, hts (.static yX6_isDimension) (by decide +kernel), trivial⟩ w [] rfl (by decide) [0, 1, 2, 3, 4, 5, 6, 7, 8, 9, 10, 11] rfl (by decide) (by decide) rfl hl.1 rfl (lv_room (Nat.le_of_ble_eq_true rfl)) dX5_setMultiplier_1 ⟨Nat.zero_le _, Nat.zero_le _⟩ (fun r W1 H locs hp w => ?_)
  obtain ⟨rfl, rfl⟩ := hp
  have w : zW D A s.heap s [(ho, .inr (5, [.ref hp, .ref hbu, .ref hm, .ref hg, .int (zI (S 71)), .int (zI (S 72)), .int (zI (fSol S)), .int (zI (fSw S)), .int (zI (S 73)), .int (zI (S 74)), .long (zL (S 75))])), (hm, .inl (D.2 0, 3, .inl (fMu (mu S)))), (hg, .inl (D.2 0, 3, .inl (G))), (hbu, .inr (0, [.ref hs, .int (zI (S 77))])), (hs, .inl (D.2 0, 8, .inl (fSt S))), (hp, .inr (2, [.ref hw, .ref hz, .ref hl0, .int (zI (S 0))])), (hw, .inl (D.2 0, 16, .inl (fC S 0))), (hz, .inl (D.2 5, 3, .inr (.inr (.inr (.inr (f3 h0 h1 h2)))))), (h0, .inl (D.2 0, 16, .inl (fC S 1))), (h1, .inl (D.2 0, 16, .inl (fC S 2))), (h2, .inl (D.2 0, 16, .inl (fC S 3))), (hl0, .inl (D.2 0, 3, .inl (fLm S)))] H locs := w.sub [0, 1, 2, 3, 4, 5, 6, 7, 8, 9, 10, 11] (by decide) rfl
  refine z_if_ne_b (tgt := 9) hx hb dX5_setMultiplier_4 (by decide) (fun c4 => ?_) (fun c4 => ?_)
  · skip
    exact absurd c4 hno
  · skip
    refine lv_iconst (v := zI (-1)) hx hb dX5_setMultiplier_7 rfl ?_
    exact z_iret hx hb hr hlocks w dX5_setMultiplier_8 (by rw [show aMult S d0 v = (-1, S) from if_neg hno]; exact ⟨rfl, G, rfl⟩)
set_option maxHeartbeats 6000000 in
set_option maxRecDepth 100000 in
theorem c_X5_setLimit0 (l : Launch) (D : zD) (ho hm hg hbu hs hp hw hz h0 h1 h2 hl0 : Nat) (S : Nat → Int) (G : Nat → Int32) (B : Int) (hB : B ≤ 2000000000) (hok : OkS B S) (v : Int) (hv : zB v) : zM l yX5_setLimit wsX5_setLimit (zR 3) zE0 D [.ref ho, .int (zI (0)), .int (zI (v))] (wSt D ho hm hg hbu hs hp hw hz h0 h1 h2 hl0 S G) (zQi D (fun r W1 => r = zI (aLimit S 0 v).1 ∧ ∃ G2, W1 = (wSt D ho hm hg hbu hs hp hw hz h0 h1 h2 hl0 (aLimit S 0 v).2 G2))) := by
  refine zM.of (cc := cX5_setLimit) (maxL := 4) (ret := (some .int)) (by decide) rfl (Nat.le_of_ble_eq_true rfl) ?_
  intro p e s m below meth c A hx hb hml hown hts hr hlocks hE hnm w ls hl
  have hown : s.vm.findClass RX5 = some m.cls := hown
  have hl : lv_has ls 4 [(0, .ref ho), (1, .int (zI (0))), (2, .int (zI (v)))] := hl
  have f_12 : (Cond.fieldLink RX5 12 "RelaxedSteps$State" "packing" "LRelaxedSteps$Packing;").before _ s = true := hts _ (by decide +kernel)
  have f_103 : (Cond.fieldLink RX5 103 "RelaxedSteps$Packing" "limits" "[I").before _ s = true := hts _ (by decide +kernel)
  have inX5 : ∀ w ∈ u_ws RX5 TX5 11, w ∈ wsX5_setLimit := by decide +kernel
  have inX2 : ∀ w ∈ u_ws RX2 TX2 4, w ∈ wsX5_setLimit := by decide +kernel
  obtain ⟨hokp, hokm, hokb, hsc, hbe⟩ := id hok
  have hn := zn_eq hokp
  have h16 := zn_le hokp
  have hlim := hokp.2.2
  have hm1 := hokm
  unfold OkM mu at hm1
  have hsw := fSw_b hok
  have hso := fSol_b hok
  have hhu := sHu_b hok
  have hbd := sBd_b hokp hokm
  have hkb := hokb.1
  have w : zW D A s.heap s [(ho, .inr (5, [.ref hp, .ref hbu, .ref hm, .ref hg, .int (zI (S 71)), .int (zI (S 72)), .int (zI (fSol S)), .int (zI (fSw S)), .int (zI (S 73)), .int (zI (S 74)), .long (zL (S 75))])), (hm, .inl (D.2 0, 3, .inl (fMu (mu S)))), (hg, .inl (D.2 0, 3, .inl (G))), (hbu, .inr (0, [.ref hs, .int (zI (S 77))])), (hs, .inl (D.2 0, 8, .inl (fSt S))), (hp, .inr (2, [.ref hw, .ref hz, .ref hl0, .int (zI (S 0))])), (hw, .inl (D.2 0, 16, .inl (fC S 0))), (hz, .inl (D.2 5, 3, .inr (.inr (.inr (.inr (f3 h0 h1 h2)))))), (h0, .inl (D.2 0, 16, .inl (fC S 1))), (h1, .inl (D.2 0, 16, .inl (fC S 2))), (h2, .inl (D.2 0, 16, .inl (fC S 3))), (hl0, .inl (D.2 0, 3, .inl (fLm S)))] s.heap [] := w
  refine lv_iload_n hx hb dX5_setLimit_0 rfl (lv_at hl 1 rfl) ?_
  refine z_SN_i (As := [.int (zI (0))]) (rest := []) (Wr := [(ho, .inr (5, [.ref hp, .ref hbu, .ref hm, .ref hg, .int (zI (S 71)), .int (zI (S 72)), .int (zI (fSol S)), .int (zI (fSw S)), .int (zI (S 73)), .int (zI (S 74)), .long (zL (S 75))])), (hm, .inl (D.2 0, 3, .inl (fMu (mu S)))), (hg, .inl (D.2 0, 3, .inl (G))), (hbu, .inr (0, [.ref hs, .int (zI (S 77))])), (hs, .inl (D.2 0, 8, .inl (fSt S))), (hp, .inr (2, [.ref hw, .ref hz, .ref hl0, .int (zI (S 0))])), (hw, .inl (D.2 0, 16, .inl (fC S 0))), (hz, .inl (D.2 5, 3, .inr (.inr (.inr (.inr (f3 h0 h1 h2)))))), (h0, .inl (D.2 0, 16, .inl (fC S 1))), (h1, .inl (D.2 0, 16, .inl (fC S 2))), (h2, .inl (D.2 0, 16, .inl (fC S 3))), (hl0, .inl (D.2 0, 3, .inl (fLm S)))]) ⟨hx, hb, hml, hown, hts⟩ (c_X6_isDimension l D 0 (by omega)) ⟨va_cnB 1 hts ggX5_setLimit_X6_isDimension rfl rfl rfl (w.1.2 (RX5, 100, yX6_isDimension, "RelaxedSteps") (by decide +kernel)) (hts (.initialized RX6) (by decide +kernel)) (by decide +kernel) ⟨Nat.le_of_ble_eq_true rfl, Nat.le_of_ble_eq_true rfl⟩, hts (.static yX6_isDimension) (by decide +kernel), trivial⟩ w [] rfl (by decide) [0, 1, 2, 3, 4, 5, 6, 7, 8, 9, 10, 11] rfl (by decide) (by decide) rfl hl.1 rfl (lv_room (Nat.le_of_ble_eq_true rfl)) dX5_setLimit_1 ⟨Nat.zero_le _, Nat.zero_le _⟩ (fun r W1 H locs hp w => ?_)
  obtain ⟨rfl, rfl⟩ := hp
  have w : zW D A s.heap s [(ho, .inr (5, [.ref hp, .ref hbu, .ref hm, .ref hg, .int (zI (S 71)), .int (zI (S 72)), .int (zI (fSol S)), .int (zI (fSw S)), .int (zI (S 73)), .int (zI (S 74)), .long (zL (S 75))])), (hm, .inl (D.2 0, 3, .inl (fMu (mu S)))), (hg, .inl (D.2 0, 3, .inl (G))), (hbu, .inr (0, [.ref hs, .int (zI (S 77))])), (hs, .inl (D.2 0, 8, .inl (fSt S))), (hp, .inr (2, [.ref hw, .ref hz, .ref hl0, .int (zI (S 0))])), (hw, .inl (D.2 0, 16, .inl (fC S 0))), (hz, .inl (D.2 5, 3, .inr (.inr (.inr (.inr (f3 h0 h1 h2)))))), (h0, .inl (D.2 0, 16, .inl (fC S 1))), (h1, .inl (D.2 0, 16, .inl (fC S 2))), (h2, .inl (D.2 0, 16, .inl (fC S 3))), (hl0, .inl (D.2 0, 3, .inl (fLm S)))] H locs := w.sub [0, 1, 2, 3, 4, 5, 6, 7, 8, 9, 10, 11] (by decide) rfl
  refine z_if_ne_b (tgt := 9) hx hb dX5_setLimit_4 (by decide) (fun c4 => ?_) (fun c4 => ?_)
  · skip
    refine lv_iload_n hx hb dX5_setLimit_9 rfl (lv_at hl 2 rfl) ?_
    refine lv_iconst (v := zI 0) hx hb dX5_setLimit_10 rfl ?_
    refine lv_sipush (v := zI 999) hx hb dX5_setLimit_11 (by decide +kernel) ?_
    refine z_SN_i (As := [.int (zI (v)), .int (zI (0)), .int (zI (999))]) (rest := []) (Wr := [(ho, .inr (5, [.ref hp, .ref hbu, .ref hm, .ref hg, .int (zI (S 71)), .int (zI (S 72)), .int (zI (fSol S)), .int (zI (fSw S)), .int (zI (S 73)), .int (zI (S 74)), .long (zL (S 75))])), (hm, .inl (D.2 0, 3, .inl (fMu (mu S)))), (hg, .inl (D.2 0, 3, .inl (G))), (hbu, .inr (0, [.ref hs, .int (zI (S 77))])), (hs, .inl (D.2 0, 8, .inl (fSt S))), (hp, .inr (2, [.ref hw, .ref hz, .ref hl0, .int (zI (S 0))])), (hw, .inl (D.2 0, 16, .inl (fC S 0))), (hz, .inl (D.2 5, 3, .inr (.inr (.inr (.inr (f3 h0 h1 h2)))))), (h0, .inl (D.2 0, 16, .inl (fC S 1))), (h1, .inl (D.2 0, 16, .inl (fC S 2))), (h2, .inl (D.2 0, 16, .inl (fC S 3))), (hl0, .inl (D.2 0, 3, .inl (fLm S)))]) ⟨hx, hb, hml, hown, hts⟩ (c_X6_within l D v 0 999 (by omega) (by omega) (by omega)) ⟨va_cnB 3 hts ggX5_setLimit_X6_within rfl rfl rfl (w.1.2 (RX5, 68, yX6_within, "RelaxedSteps") (by decide +kernel)) (hts (.initialized RX6) (by decide +kernel)) (by decide +kernel) ⟨Nat.le_of_ble_eq_true rfl, Nat.le_of_ble_eq_true rfl⟩, hts (.static yX6_within) (by decide +kernel), trivial⟩ w [] rfl (by decide) [0, 1, 2, 3, 4, 5, 6, 7, 8, 9, 10, 11] rfl (by decide) (by decide) rfl hl.1 rfl (lv_room (Nat.le_of_ble_eq_true rfl)) dX5_setLimit_14 ⟨Nat.zero_le _, Nat.zero_le _⟩ (fun r W1 H locs hp w => ?_)
    obtain ⟨rfl, rfl⟩ := hp
    have w : zW D A s.heap s [(ho, .inr (5, [.ref hp, .ref hbu, .ref hm, .ref hg, .int (zI (S 71)), .int (zI (S 72)), .int (zI (fSol S)), .int (zI (fSw S)), .int (zI (S 73)), .int (zI (S 74)), .long (zL (S 75))])), (hm, .inl (D.2 0, 3, .inl (fMu (mu S)))), (hg, .inl (D.2 0, 3, .inl (G))), (hbu, .inr (0, [.ref hs, .int (zI (S 77))])), (hs, .inl (D.2 0, 8, .inl (fSt S))), (hp, .inr (2, [.ref hw, .ref hz, .ref hl0, .int (zI (S 0))])), (hw, .inl (D.2 0, 16, .inl (fC S 0))), (hz, .inl (D.2 5, 3, .inr (.inr (.inr (.inr (f3 h0 h1 h2)))))), (h0, .inl (D.2 0, 16, .inl (fC S 1))), (h1, .inl (D.2 0, 16, .inl (fC S 2))), (h2, .inl (D.2 0, 16, .inl (fC S 3))), (hl0, .inl (D.2 0, 3, .inl (fLm S)))] H locs := w.sub [0, 1, 2, 3, 4, 5, 6, 7, 8, 9, 10, 11] (by decide) rfl
    refine z_if_ne_b (tgt := 23) hx hb dX5_setLimit_17 (by decide) (fun c17 => ?_) (fun c17 => ?_)
    · skip
      refine lv_aload_n hx hb dX5_setLimit_23 rfl (lv_at hl 0 rfl) ?_
      refine z_get hx hb hown hts w inX5 0 0 rfl rfl (by decide) f_12 rfl rfl dX5_setLimit_24 ?_
      refine z_get hx hb hown hts w inX2 5 2 rfl rfl (by decide) f_103 rfl rfl dX5_setLimit_27 ?_
      refine lv_iload_n hx hb dX5_setLimit_30 rfl (lv_at hl 1 rfl) ?_
      refine z_iald hx hb w 11 rfl 0 (by omega) (by decide) rfl (v := (zI (S 65))) (if_pos (by omega)) dX5_setLimit_31 ?_
      refine lv_istore_n (lv' := [(3, .int (zI (S 65))), (0, .ref ho), (1, .int (zI (0))), (2, .int (zI (v)))]) hx hb dX5_setLimit_32 rfl hl (by decide) rfl (fun ls hl => ?_)
      refine lv_aload_n hx hb dX5_setLimit_33 rfl (lv_at hl 1 rfl) ?_
      refine z_get hx hb hown hts w inX5 0 0 rfl rfl (by decide) f_12 rfl rfl dX5_setLimit_34 ?_
      refine z_get hx hb hown hts w inX2 5 2 rfl rfl (by decide) f_103 rfl rfl dX5_setLimit_37 ?_
      refine lv_iload_n hx hb dX5_setLimit_40 rfl (lv_at hl 2 rfl) ?_
      refine lv_iload_n hx hb dX5_setLimit_41 rfl (lv_at hl 3 rfl) ?_
      refine z_iast hx hb w 11 rfl 0 (by omega) (by decide) rfl dX5_setLimit_42 (fLm (zu S (65 + 0) v)) (fun i hi => fLm_zu (by omega) hi) (fun H locs w => ?_)
      have w : zW D A s.heap s [(ho, .inr (5, [.ref hp, .ref hbu, .ref hm, .ref hg, .int (zI (S 71)), .int (zI (S 72)), .int (zI (fSol S)), .int (zI (fSw S)), .int (zI (S 73)), .int (zI (S 74)), .long (zL (S 75))])), (hm, .inl (D.2 0, 3, .inl (fMu (mu S)))), (hg, .inl (D.2 0, 3, .inl (G))), (hbu, .inr (0, [.ref hs, .int (zI (S 77))])), (hs, .inl (D.2 0, 8, .inl (fSt S))), (hp, .inr (2, [.ref hw, .ref hz, .ref hl0, .int (zI (S 0))])), (hw, .inl (D.2 0, 16, .inl (fC S 0))), (hz, .inl (D.2 5, 3, .inr (.inr (.inr (.inr (f3 h0 h1 h2)))))), (h0, .inl (D.2 0, 16, .inl (fC S 1))), (h1, .inl (D.2 0, 16, .inl (fC S 2))), (h2, .inl (D.2 0, 16, .inl (fC S 3))), (hl0, .inl (D.2 0, 3, .inl (fLm (zu S (65 + 0) v))))] H locs := w
      have hok2 : OkP (zu S (65 + 0) v) := OkP_lim hokp (by omega) c17
      have w : zW D A s.heap s [(ho, .inr (5, [.ref hp, .ref hbu, .ref hm, .ref hg, .int (zI (S 71)), .int (zI (S 72)), .int (zI (fSol S)), .int (zI (fSw S)), .int (zI (S 73)), .int (zI (S 74)), .long (zL (S 75))])), (hm, .inl (D.2 0, 3, .inl (fMu (mu S)))), (hg, .inl (D.2 0, 3, .inl (G))), (hbu, .inr (0, [.ref hs, .int (zI (S 77))])), (hs, .inl (D.2 0, 8, .inl (fSt S))), (hp, .inr (2, [.ref hw, .ref hz, .ref hl0, .int (zI ((zu S (65 + 0) v) 0))])), (hw, .inl (D.2 0, 16, .inl (fC (zu S (65 + 0) v) 0))), (hz, .inl (D.2 5, 3, .inr (.inr (.inr (.inr (f3 h0 h1 h2)))))), (h0, .inl (D.2 0, 16, .inl (fC (zu S (65 + 0) v) 1))), (h1, .inl (D.2 0, 16, .inl (fC (zu S (65 + 0) v) 2))), (h2, .inl (D.2 0, 16, .inl (fC (zu S (65 + 0) v) 3))), (hl0, .inl (D.2 0, 3, .inl (fLm (zu S (65 + 0) v))))] H locs := w.to (by rw [fC_far (S := S) (k := 65 + 0) (v := v) (by omega) (what := 0) (by omega), fC_far (S := S) (k := 65 + 0) (v := v) (by omega) (what := 1) (by omega), fC_far (S := S) (k := 65 + 0) (v := v) (by omega) (what := 2) (by omega), fC_far (S := S) (k := 65 + 0) (v := v) (by omega) (what := 3) (by omega)]; rfl)
      refine lv_aload_n hx hb dX5_setLimit_43 rfl (lv_at hl 1 rfl) ?_
      refine z_V_v (As := []) (rest := []) (Wr := [(hg, .inl (D.2 0, 3, .inl (G))), (hbu, .inr (0, [.ref hs, .int (zI (S 77))])), (hs, .inl (D.2 0, 8, .inl (fSt S)))]) ⟨hx, hb, hml, hown, hts⟩ (c_X5_forget l D ho hm hp hw hz h0 h1 h2 hl0 hbu hg (zu S (65 + 0) v) (mu S) (S 71) (S 72) (fSol S) (fSw S) (S 73) (S 74) (S 75) hok2 hokm) (cwV 0 hts gX5_setLimit_X5_forget rfl rfl rfl (by decide +kernel) ⟨Nat.le_of_ble_eq_true rfl, Nat.le_of_ble_eq_true rfl⟩) w (q0 := 0) rfl rfl rfl [0, 1, 5, 6, 7, 8, 9, 10, 11] rfl (by decide) [2, 3, 4] rfl (by decide) (by decide) rfl hl.1 rfl (lv_room (Nat.le_of_ble_eq_true rfl)) dX5_setLimit_44 ⟨Nat.zero_le _, Nat.zero_le _⟩ (fun W1 H locs hp w => ?_)
      subst hp
      have w : zW D A s.heap s [(ho, .inr (5, [.ref hp, .ref hbu, .ref hm, .ref hg, .int (zI (S 71)), .int (zI (S 72)), .int (zI (0)), .int (zI (-6)), .int (zI (0)), .int (zI (S 74)), .long (zL (sBd (zu S (65 + 0) v) (mu S)))])), (hm, .inl (D.2 0, 3, .inl (fMu (mu S)))), (hg, .inl (D.2 0, 3, .inl (G))), (hbu, .inr (0, [.ref hs, .int (zI (S 77))])), (hs, .inl (D.2 0, 8, .inl (fSt S))), (hp, .inr (2, [.ref hw, .ref hz, .ref hl0, .int (zI ((zu S (65 + 0) v) 0))])), (hw, .inl (D.2 0, 16, .inl (fC (zu S (65 + 0) v) 0))), (hz, .inl (D.2 5, 3, .inr (.inr (.inr (.inr (f3 h0 h1 h2)))))), (h0, .inl (D.2 0, 16, .inl (fC (zu S (65 + 0) v) 1))), (h1, .inl (D.2 0, 16, .inl (fC (zu S (65 + 0) v) 2))), (h2, .inl (D.2 0, 16, .inl (fC (zu S (65 + 0) v) 3))), (hl0, .inl (D.2 0, 3, .inl (fLm (zu S (65 + 0) v))))] H locs := w.sub [3, 4, 0, 1, 2, 5, 6, 7, 8, 9, 10, 11] (by decide) rfl
      refine lv_iload_n hx hb dX5_setLimit_47 rfl (lv_at hl 0 rfl) ?_
      exact z_iret hx hb hr hlocks w dX5_setLimit_48 (by rw [show aLimit S 0 v = (S 65, oLimit S 0 v) from (if_pos (by omega)).trans (if_pos c17)]; exact ⟨rfl, G, wSt_lim (by omega) h16⟩)
    · skip
      refine lv_bipush (v := zI (-2)) hx hb dX5_setLimit_20 (by decide +kernel) ?_
      exact z_iret hx hb hr hlocks w dX5_setLimit_22 (by rw [show aLimit S 0 v = (-2, S) from (if_pos (by omega)).trans (if_neg c17)]; exact ⟨rfl, G, rfl⟩)
  · skip
    exact absurd (show (0 : Int) ≤ 0 ∧ (0 : Int) ≤ 2 by omega) c4
set_option maxHeartbeats 6000000 in
set_option maxRecDepth 100000 in
theorem c_X5_setMultiplier0 (l : Launch) (D : zD) (ho hm hg hbu hs hp hw hz h0 h1 h2 hl0 : Nat) (S : Nat → Int) (G : Nat → Int32) (B : Int) (hB : B ≤ 2000000000) (hok : OkS B S) (v : Int) (hv : zB v) : zM l yX5_setMultiplier wsX5_setMultiplier (zR 3) zE0 D [.ref ho, .int (zI (0)), .int (zI (v))] (wSt D ho hm hg hbu hs hp hw hz h0 h1 h2 hl0 S G) (zQi D (fun r W1 => r = zI (aMult S 0 v).1 ∧ ∃ G2, W1 = (wSt D ho hm hg hbu hs hp hw hz h0 h1 h2 hl0 (aMult S 0 v).2 G2))) := by
  refine zM.of (cc := cX5_setMultiplier) (maxL := 4) (ret := (some .int)) (by decide) rfl (Nat.le_of_ble_eq_true rfl) ?_
  intro p e s m below meth c A hx hb hml hown hts hr hlocks hE hnm w ls hl
  have hown : s.vm.findClass RX5 = some m.cls := hown
  have hl : lv_has ls 4 [(0, .ref ho), (1, .int (zI (0))), (2, .int (zI (v)))] := hl
  have f_25 : (Cond.fieldLink RX5 25 "RelaxedSteps$State" "multipliers" "[I").before _ s = true := hts _ (by decide +kernel)
  have inX5 : ∀ w ∈ u_ws RX5 TX5 11, w ∈ wsX5_setMultiplier := by decide +kernel
  obtain ⟨hokp, hokm, hokb, hsc, hbe⟩ := id hok
  have hn := zn_eq hokp
  have h16 := zn_le hokp
  have hlim := hokp.2.2
  have hm1 := hokm
  unfold OkM mu at hm1
  have hsw := fSw_b hok
  have hso := fSol_b hok
  have hhu := sHu_b hok
  have hbd := sBd_b hokp hokm
  have hkb := hokb.1
  have w : zW D A s.heap s [(ho, .inr (5, [.ref hp, .ref hbu, .ref hm, .ref hg, .int (zI (S 71)), .int (zI (S 72)), .int (zI (fSol S)), .int (zI (fSw S)), .int (zI (S 73)), .int (zI (S 74)), .long (zL (S 75))])), (hm, .inl (D.2 0, 3, .inl (fMu (mu S)))), (hg, .inl (D.2 0, 3, .inl (G))), (hbu, .inr (0, [.ref hs, .int (zI (S 77))])), (hs, .inl (D.2 0, 8, .inl (fSt S))), (hp, .inr (2, [.ref hw, .ref hz, .ref hl0, .int (zI (S 0))])), (hw, .inl (D.2 0, 16, .inl (fC S 0))), (hz, .inl (D.2 5, 3, .inr (.inr (.inr (.inr (f3 h0 h1 h2)))))), (h0, .inl (D.2 0, 16, .inl (fC S 1))), (h1, .inl (D.2 0, 16, .inl (fC S 2))), (h2, .inl (D.2 0, 16, .inl (fC S 3))), (hl0, .inl (D.2 0, 3, .inl (fLm S)))] s.heap [] := w
  refine lv_iload_n hx hb dX5_setMultiplier_0 rfl (lv_at hl 1 rfl) ?_
  refine z_SN_i (As := [.int (zI (0))]) (rest := []) (Wr := [(ho, .inr (5, [.ref hp, .ref hbu, .ref hm, .ref hg, .int (zI (S 71)), .int (zI (S 72)), .int (zI (fSol S)), .int (zI (fSw S)), .int (zI (S 73)), .int (zI (S 74)), .long (zL (S 75))])), (hm, .inl (D.2 0, 3, .inl (fMu (mu S)))), (hg, .inl (D.2 0, 3, .inl (G))), (hbu, .inr (0, [.ref hs, .int (zI (S 77))])), (hs, .inl (D.2 0, 8, .inl (fSt S))), (hp, .inr (2, [.ref hw, .ref hz, .ref hl0, .int (zI (S 0))])), (hw, .inl (D.2 0, 16, .inl (fC S 0))), (hz, .inl (D.2 5, 3, .inr (.inr (.inr (.inr (f3 h0 h1 h2)))))), (h0, .inl (D.2 0, 16, .inl (fC S 1))), (h1, .inl (D.2 0, 16, .inl (fC S 2))), (h2, .inl (D.2 0, 16, .inl (fC S 3))), (hl0, .inl (D.2 0, 3, .inl (fLm S)))]) ⟨hx, hb, hml, hown, hts⟩ (c_X6_isDimension l D 0 (by omega)) ⟨va_cnB 1 hts ggX5_setMultiplier_X6_isDimension rfl rfl rfl (w.1.2 (RX5, 100, yX6_isDimension, "RelaxedSteps") (by decide +kernel)) (hts (.initialized RX6) (by decide +kernel)) (by decide +kernel) ⟨Nat.le_of_ble_eq_true rfl, Nat.le_of_ble_eq_true rfl⟩, hts (.static yX6_isDimension) (by decide +kernel), trivial⟩ w [] rfl (by decide) [0, 1, 2, 3, 4, 5, 6, 7, 8, 9, 10, 11] rfl (by decide) (by decide) rfl hl.1 rfl (lv_room (Nat.le_of_ble_eq_true rfl)) dX5_setMultiplier_1 ⟨Nat.zero_le _, Nat.zero_le _⟩ (fun r W1 H locs hp w => ?_)
  obtain ⟨rfl, rfl⟩ := hp
  have w : zW D A s.heap s [(ho, .inr (5, [.ref hp, .ref hbu, .ref hm, .ref hg, .int (zI (S 71)), .int (zI (S 72)), .int (zI (fSol S)), .int (zI (fSw S)), .int (zI (S 73)), .int (zI (S 74)), .long (zL (S 75))])), (hm, .inl (D.2 0, 3, .inl (fMu (mu S)))), (hg, .inl (D.2 0, 3, .inl (G))), (hbu, .inr (0, [.ref hs, .int (zI (S 77))])), (hs, .inl (D.2 0, 8, .inl (fSt S))), (hp, .inr (2, [.ref hw, .ref hz, .ref hl0, .int (zI (S 0))])), (hw, .inl (D.2 0, 16, .inl (fC S 0))), (hz, .inl (D.2 5, 3, .inr (.inr (.inr (.inr (f3 h0 h1 h2)))))), (h0, .inl (D.2 0, 16, .inl (fC S 1))), (h1, .inl (D.2 0, 16, .inl (fC S 2))), (h2, .inl (D.2 0, 16, .inl (fC S 3))), (hl0, .inl (D.2 0, 3, .inl (fLm S)))] H locs := w.sub [0, 1, 2, 3, 4, 5, 6, 7, 8, 9, 10, 11] (by decide) rfl
  refine z_if_ne_b (tgt := 9) hx hb dX5_setMultiplier_4 (by decide) (fun c4 => ?_) (fun c4 => ?_)
  · skip
    refine lv_iload_n hx hb dX5_setMultiplier_9 rfl (lv_at hl 2 rfl) ?_
    refine lv_iconst (v := zI 0) hx hb dX5_setMultiplier_10 rfl ?_
    refine lv_ldc (v := zI 999999) hx hb hown (hts (.constant RX5 106 (zI 999999)) (by decide +kernel)) dX5_setMultiplier_11 ?_
    refine z_SN_i (As := [.int (zI (v)), .int (zI (0)), .int (zI (999999))]) (rest := []) (Wr := [(ho, .inr (5, [.ref hp, .ref hbu, .ref hm, .ref hg, .int (zI (S 71)), .int (zI (S 72)), .int (zI (fSol S)), .int (zI (fSw S)), .int (zI (S 73)), .int (zI (S 74)), .long (zL (S 75))])), (hm, .inl (D.2 0, 3, .inl (fMu (mu S)))), (hg, .inl (D.2 0, 3, .inl (G))), (hbu, .inr (0, [.ref hs, .int (zI (S 77))])), (hs, .inl (D.2 0, 8, .inl (fSt S))), (hp, .inr (2, [.ref hw, .ref hz, .ref hl0, .int (zI (S 0))])), (hw, .inl (D.2 0, 16, .inl (fC S 0))), (hz, .inl (D.2 5, 3, .inr (.inr (.inr (.inr (f3 h0 h1 h2)))))), (h0, .inl (D.2 0, 16, .inl (fC S 1))), (h1, .inl (D.2 0, 16, .inl (fC S 2))), (h2, .inl (D.2 0, 16, .inl (fC S 3))), (hl0, .inl (D.2 0, 3, .inl (fLm S)))]) ⟨hx, hb, hml, hown, hts⟩ (c_X6_within l D v 0 999999 (by omega) (by omega) (by omega)) ⟨va_cnB 3 hts ggX5_setMultiplier_X6_within rfl rfl rfl (w.1.2 (RX5, 68, yX6_within, "RelaxedSteps") (by decide +kernel)) (hts (.initialized RX6) (by decide +kernel)) (by decide +kernel) ⟨Nat.le_of_ble_eq_true rfl, Nat.le_of_ble_eq_true rfl⟩, hts (.static yX6_within) (by decide +kernel), trivial⟩ w [] rfl (by decide) [0, 1, 2, 3, 4, 5, 6, 7, 8, 9, 10, 11] rfl (by decide) (by decide) rfl hl.1 rfl (lv_room (Nat.le_of_ble_eq_true rfl)) dX5_setMultiplier_13 ⟨Nat.zero_le _, Nat.zero_le _⟩ (fun r W1 H locs hp w => ?_)
    obtain ⟨rfl, rfl⟩ := hp
    have w : zW D A s.heap s [(ho, .inr (5, [.ref hp, .ref hbu, .ref hm, .ref hg, .int (zI (S 71)), .int (zI (S 72)), .int (zI (fSol S)), .int (zI (fSw S)), .int (zI (S 73)), .int (zI (S 74)), .long (zL (S 75))])), (hm, .inl (D.2 0, 3, .inl (fMu (mu S)))), (hg, .inl (D.2 0, 3, .inl (G))), (hbu, .inr (0, [.ref hs, .int (zI (S 77))])), (hs, .inl (D.2 0, 8, .inl (fSt S))), (hp, .inr (2, [.ref hw, .ref hz, .ref hl0, .int (zI (S 0))])), (hw, .inl (D.2 0, 16, .inl (fC S 0))), (hz, .inl (D.2 5, 3, .inr (.inr (.inr (.inr (f3 h0 h1 h2)))))), (h0, .inl (D.2 0, 16, .inl (fC S 1))), (h1, .inl (D.2 0, 16, .inl (fC S 2))), (h2, .inl (D.2 0, 16, .inl (fC S 3))), (hl0, .inl (D.2 0, 3, .inl (fLm S)))] H locs := w.sub [0, 1, 2, 3, 4, 5, 6, 7, 8, 9, 10, 11] (by decide) rfl
    refine z_if_ne_b (tgt := 22) hx hb dX5_setMultiplier_16 (by decide) (fun c16 => ?_) (fun c16 => ?_)
    · skip
      refine lv_aload_n hx hb dX5_setMultiplier_22 rfl (lv_at hl 0 rfl) ?_
      refine z_get hx hb hown hts w inX5 0 2 rfl rfl (by decide) f_25 rfl rfl dX5_setMultiplier_23 ?_
      refine lv_iload_n hx hb dX5_setMultiplier_26 rfl (lv_at hl 1 rfl) ?_
      refine z_iald hx hb w 1 rfl 0 (by omega) (by decide) rfl (v := (zI (S 68))) (if_pos (by omega)) dX5_setMultiplier_27 ?_
      refine lv_istore_n (lv' := [(3, .int (zI (S 68))), (0, .ref ho), (1, .int (zI (0))), (2, .int (zI (v)))]) hx hb dX5_setMultiplier_28 rfl hl (by decide) rfl (fun ls hl => ?_)
      refine lv_aload_n hx hb dX5_setMultiplier_29 rfl (lv_at hl 1 rfl) ?_
      refine z_get hx hb hown hts w inX5 0 2 rfl rfl (by decide) f_25 rfl rfl dX5_setMultiplier_30 ?_
      refine lv_iload_n hx hb dX5_setMultiplier_33 rfl (lv_at hl 2 rfl) ?_
      refine lv_iload_n hx hb dX5_setMultiplier_34 rfl (lv_at hl 3 rfl) ?_
      refine z_iast hx hb w 1 rfl 0 (by omega) (by decide) rfl dX5_setMultiplier_35 (fMu (mu (zu S (68 + 0) v))) (fun i hi => fMu_zu (by omega) hi) (fun H locs w => ?_)
      have w : zW D A s.heap s [(ho, .inr (5, [.ref hp, .ref hbu, .ref hm, .ref hg, .int (zI (S 71)), .int (zI (S 72)), .int (zI (fSol S)), .int (zI (fSw S)), .int (zI (S 73)), .int (zI (S 74)), .long (zL (S 75))])), (hm, .inl (D.2 0, 3, .inl (fMu (mu (zu S (68 + 0) v))))), (hg, .inl (D.2 0, 3, .inl (G))), (hbu, .inr (0, [.ref hs, .int (zI (S 77))])), (hs, .inl (D.2 0, 8, .inl (fSt S))), (hp, .inr (2, [.ref hw, .ref hz, .ref hl0, .int (zI (S 0))])), (hw, .inl (D.2 0, 16, .inl (fC S 0))), (hz, .inl (D.2 5, 3, .inr (.inr (.inr (.inr (f3 h0 h1 h2)))))), (h0, .inl (D.2 0, 16, .inl (fC S 1))), (h1, .inl (D.2 0, 16, .inl (fC S 2))), (h2, .inl (D.2 0, 16, .inl (fC S 3))), (hl0, .inl (D.2 0, 3, .inl (fLm S)))] H locs := w
      have hok2 : OkM (mu (zu S (68 + 0) v)) := OkM_mul hokm (by omega) c16
      refine lv_aload_n hx hb dX5_setMultiplier_36 rfl (lv_at hl 1 rfl) ?_
      refine z_V_i (As := []) (rest := []) (Wr := [(hg, .inl (D.2 0, 3, .inl (G))), (hbu, .inr (0, [.ref hs, .int (zI (S 77))])), (hs, .inl (D.2 0, 8, .inl (fSt S)))]) ⟨hx, hb, hml, hown, hts⟩ (c_X5_lowerBestBound l D ho hm hp hw hz h0 h1 h2 hl0 hbu hg S (mu (zu S (68 + 0) v)) (S 71) (S 72) (fSol S) (fSw S) (S 73) (S 74) (S 75) hokp hok2 (by omega)) (cwV 0 hts gX5_setMultiplier_X5_lowerBestBound rfl rfl rfl (by decide +kernel) ⟨Nat.le_of_ble_eq_true rfl, Nat.le_of_ble_eq_true rfl⟩) w (q0 := 0) rfl rfl rfl [0, 1, 5, 6, 7, 8, 9, 10, 11] rfl (by decide) [2, 3, 4] rfl (by decide) (by decide) rfl hl.1 rfl (lv_room (Nat.le_of_ble_eq_true rfl)) dX5_setMultiplier_37 ⟨Nat.zero_le _, Nat.zero_le _⟩ (fun r W1 H locs hp w => ?_)
      obtain ⟨rfl, rfl⟩ := hp
      have w : zW D A s.heap s [(ho, .inr (5, [.ref hp, .ref hbu, .ref hm, .ref hg, .int (zI (S 71)), .int (zI (S 72)), .int (zI (fSol S)), .int (zI (fSw S)), .int (zI (S 73)), .int (zI (S 74)), .long (zL (if sBd S (mu (zu S (68 + 0) v)) < S 75 then sBd S (mu (zu S (68 + 0) v)) else S 75))])), (hm, .inl (D.2 0, 3, .inl (fMu (mu (zu S (68 + 0) v))))), (hg, .inl (D.2 0, 3, .inl (G))), (hbu, .inr (0, [.ref hs, .int (zI (S 77))])), (hs, .inl (D.2 0, 8, .inl (fSt S))), (hp, .inr (2, [.ref hw, .ref hz, .ref hl0, .int (zI (S 0))])), (hw, .inl (D.2 0, 16, .inl (fC S 0))), (hz, .inl (D.2 5, 3, .inr (.inr (.inr (.inr (f3 h0 h1 h2)))))), (h0, .inl (D.2 0, 16, .inl (fC S 1))), (h1, .inl (D.2 0, 16, .inl (fC S 2))), (h2, .inl (D.2 0, 16, .inl (fC S 3))), (hl0, .inl (D.2 0, 3, .inl (fLm S)))] H locs := w.sub [3, 4, 0, 1, 2, 5, 6, 7, 8, 9, 10, 11] (by decide) rfl
      refine lv_pop hx hb dX5_setMultiplier_40 rfl ?_
      refine lv_iload_n hx hb dX5_setMultiplier_41 rfl (lv_at hl 0 rfl) ?_
      exact z_iret hx hb hr hlocks w dX5_setMultiplier_42 (by rw [show aMult S 0 v = (S 68, oMult S 0 v) from (if_pos (by omega)).trans (if_pos c16)]; exact ⟨rfl, G, wSt_mul (by omega) h16⟩)
    · skip
      refine lv_bipush (v := zI (-2)) hx hb dX5_setMultiplier_19 (by decide +kernel) ?_
      exact z_iret hx hb hr hlocks w dX5_setMultiplier_21 (by rw [show aMult S 0 v = (-2, S) from (if_pos (by omega)).trans (if_neg c16)]; exact ⟨rfl, G, rfl⟩)
  · skip
    exact absurd (show (0 : Int) ≤ 0 ∧ (0 : Int) ≤ 2 by omega) c4
set_option maxHeartbeats 6000000 in
set_option maxRecDepth 100000 in
theorem c_X5_setLimit1 (l : Launch) (D : zD) (ho hm hg hbu hs hp hw hz h0 h1 h2 hl0 : Nat) (S : Nat → Int) (G : Nat → Int32) (B : Int) (hB : B ≤ 2000000000) (hok : OkS B S) (v : Int) (hv : zB v) : zM l yX5_setLimit wsX5_setLimit (zR 3) zE0 D [.ref ho, .int (zI (1)), .int (zI (v))] (wSt D ho hm hg hbu hs hp hw hz h0 h1 h2 hl0 S G) (zQi D (fun r W1 => r = zI (aLimit S 1 v).1 ∧ ∃ G2, W1 = (wSt D ho hm hg hbu hs hp hw hz h0 h1 h2 hl0 (aLimit S 1 v).2 G2))) := by
  refine zM.of (cc := cX5_setLimit) (maxL := 4) (ret := (some .int)) (by decide) rfl (Nat.le_of_ble_eq_true rfl) ?_
  intro p e s m below meth c A hx hb hml hown hts hr hlocks hE hnm w ls hl
  have hown : s.vm.findClass RX5 = some m.cls := hown
  have hl : lv_has ls 4 [(0, .ref ho), (1, .int (zI (1))), (2, .int (zI (v)))] := hl
  have f_12 : (Cond.fieldLink RX5 12 "RelaxedSteps$State" "packing" "LRelaxedSteps$Packing;").before _ s = true := hts _ (by decide +kernel)
  have f_103 : (Cond.fieldLink RX5 103 "RelaxedSteps$Packing" "limits" "[I").before _ s = true := hts _ (by decide +kernel)
  have inX5 : ∀ w ∈ u_ws RX5 TX5 11, w ∈ wsX5_setLimit := by decide +kernel
  have inX2 : ∀ w ∈ u_ws RX2 TX2 4, w ∈ wsX5_setLimit := by decide +kernel
  obtain ⟨hokp, hokm, hokb, hsc, hbe⟩ := id hok
  have hn := zn_eq hokp
  have h16 := zn_le hokp
  have hlim := hokp.2.2
  have hm1 := hokm
  unfold OkM mu at hm1
  have hsw := fSw_b hok
  have hso := fSol_b hok
  have hhu := sHu_b hok
  have hbd := sBd_b hokp hokm
  have hkb := hokb.1
  have w : zW D A s.heap s [(ho, .inr (5, [.ref hp, .ref hbu, .ref hm, .ref hg, .int (zI (S 71)), .int (zI (S 72)), .int (zI (fSol S)), .int (zI (fSw S)), .int (zI (S 73)), .int (zI (S 74)), .long (zL (S 75))])), (hm, .inl (D.2 0, 3, .inl (fMu (mu S)))), (hg, .inl (D.2 0, 3, .inl (G))), (hbu, .inr (0, [.ref hs, .int (zI (S 77))])), (hs, .inl (D.2 0, 8, .inl (fSt S))), (hp, .inr (2, [.ref hw, .ref hz, .ref hl0, .int (zI (S 0))])), (hw, .inl (D.2 0, 16, .inl (fC S 0))), (hz, .inl (D.2 5, 3, .inr (.inr (.inr (.inr (f3 h0 h1 h2)))))), (h0, .inl (D.2 0, 16, .inl (fC S 1))), (h1, .inl (D.2 0, 16, .inl (fC S 2))), (h2, .inl (D.2 0, 16, .inl (fC S 3))), (hl0, .inl (D.2 0, 3, .inl (fLm S)))] s.heap [] := w
  refine lv_iload_n hx hb dX5_setLimit_0 rfl (lv_at hl 1 rfl) ?_
  refine z_SN_i (As := [.int (zI (1))]) (rest := []) (Wr := [(ho, .inr (5, [.ref hp, .ref hbu, .ref hm, .ref hg, .int (zI (S 71)), .int (zI (S 72)), .int (zI (fSol S)), .int (zI (fSw S)), .int (zI (S 73)), .int (zI (S 74)), .long (zL (S 75))])), (hm, .inl (D.2 0, 3, .inl (fMu (mu S)))), (hg, .inl (D.2 0, 3, .inl (G))), (hbu, .inr (0, [.ref hs, .int (zI (S 77))])), (hs, .inl (D.2 0, 8, .inl (fSt S))), (hp, .inr (2, [.ref hw, .ref hz, .ref hl0, .int (zI (S 0))])), (hw, .inl (D.2 0, 16, .inl (fC S 0))), (hz, .inl (D.2 5, 3, .inr (.inr (.inr (.inr (f3 h0 h1 h2)))))), (h0, .inl (D.2 0, 16, .inl (fC S 1))), (h1, .inl (D.2 0, 16, .inl (fC S 2))), (h2, .inl (D.2 0, 16, .inl (fC S 3))), (hl0, .inl (D.2 0, 3, .inl (fLm S)))]) ⟨hx, hb, hml, hown, hts⟩ (c_X6_isDimension l D 1 (by omega)) ⟨va_cnB 1 hts ggX5_setLimit_X6_isDimension rfl rfl rfl (w.1.2 (RX5, 100, yX6_isDimension, "RelaxedSteps") (by decide +kernel)) (hts (.initialized RX6) (by decide +kernel)) (by decide +kernel) ⟨Nat.le_of_ble_eq_true rfl, Nat.le_of_ble_eq_true rfl⟩, hts (.static yX6_isDimension) (by decide +kernel), trivial⟩ w [] rfl (by decide) [0, 1, 2, 3, 4, 5, 6, 7, 8, 9, 10, 11] rfl (by decide) (by decide) rfl hl.1 rfl (lv_room (Nat.le_of_ble_eq_true rfl)) dX5_setLimit_1 ⟨Nat.zero_le _, Nat.zero_le _⟩ (fun r W1 H locs hp w => ?_)
  obtain ⟨rfl, rfl⟩ := hp
  have w : zW D A s.heap s [(ho, .inr (5, [.ref hp, .ref hbu, .ref hm, .ref hg, .int (zI (S 71)), .int (zI (S 72)), .int (zI (fSol S)), .int (zI (fSw S)), .int (zI (S 73)), .int (zI (S 74)), .long (zL (S 75))])), (hm, .inl (D.2 0, 3, .inl (fMu (mu S)))), (hg, .inl (D.2 0, 3, .inl (G))), (hbu, .inr (0, [.ref hs, .int (zI (S 77))])), (hs, .inl (D.2 0, 8, .inl (fSt S))), (hp, .inr (2, [.ref hw, .ref hz, .ref hl0, .int (zI (S 0))])), (hw, .inl (D.2 0, 16, .inl (fC S 0))), (hz, .inl (D.2 5, 3, .inr (.inr (.inr (.inr (f3 h0 h1 h2)))))), (h0, .inl (D.2 0, 16, .inl (fC S 1))), (h1, .inl (D.2 0, 16, .inl (fC S 2))), (h2, .inl (D.2 0, 16, .inl (fC S 3))), (hl0, .inl (D.2 0, 3, .inl (fLm S)))] H locs := w.sub [0, 1, 2, 3, 4, 5, 6, 7, 8, 9, 10, 11] (by decide) rfl
  refine z_if_ne_b (tgt := 9) hx hb dX5_setLimit_4 (by decide) (fun c4 => ?_) (fun c4 => ?_)
  · skip
    refine lv_iload_n hx hb dX5_setLimit_9 rfl (lv_at hl 2 rfl) ?_
    refine lv_iconst (v := zI 0) hx hb dX5_setLimit_10 rfl ?_
    refine lv_sipush (v := zI 999) hx hb dX5_setLimit_11 (by decide +kernel) ?_
    refine z_SN_i (As := [.int (zI (v)), .int (zI (0)), .int (zI (999))]) (rest := []) (Wr := [(ho, .inr (5, [.ref hp, .ref hbu, .ref hm, .ref hg, .int (zI (S 71)), .int (zI (S 72)), .int (zI (fSol S)), .int (zI (fSw S)), .int (zI (S 73)), .int (zI (S 74)), .long (zL (S 75))])), (hm, .inl (D.2 0, 3, .inl (fMu (mu S)))), (hg, .inl (D.2 0, 3, .inl (G))), (hbu, .inr (0, [.ref hs, .int (zI (S 77))])), (hs, .inl (D.2 0, 8, .inl (fSt S))), (hp, .inr (2, [.ref hw, .ref hz, .ref hl0, .int (zI (S 0))])), (hw, .inl (D.2 0, 16, .inl (fC S 0))), (hz, .inl (D.2 5, 3, .inr (.inr (.inr (.inr (f3 h0 h1 h2)))))), (h0, .inl (D.2 0, 16, .inl (fC S 1))), (h1, .inl (D.2 0, 16, .inl (fC S 2))), (h2, .inl (D.2 0, 16, .inl (fC S 3))), (hl0, .inl (D.2 0, 3, .inl (fLm S)))]) ⟨hx, hb, hml, hown, hts⟩ (c_X6_within l D v 0 999 (by omega) (by omega) (by omega)) ⟨va_cnB 3 hts ggX5_setLimit_X6_within rfl rfl rfl (w.1.2 (RX5, 68, yX6_within, "RelaxedSteps") (by decide +kernel)) (hts (.initialized RX6) (by decide +kernel)) (by decide +kernel) ⟨Nat.le_of_ble_eq_true rfl, Nat.le_of_ble_eq_true rfl⟩, hts (.static yX6_within) (by decide +kernel), trivial⟩ w [] rfl (by decide) [0, 1, 2, 3, 4, 5, 6, 7, 8, 9, 10, 11] rfl (by decide) (by decide) rfl hl.1 rfl (lv_room (Nat.le_of_ble_eq_true rfl)) dX5_setLimit_14 ⟨Nat.zero_le _, Nat.zero_le _⟩ (fun r W1 H locs hp w => ?_)
    obtain ⟨rfl, rfl⟩ := hp
    have w : zW D A s.heap s [(ho, .inr (5, [.ref hp, .ref hbu, .ref hm, .ref hg, .int (zI (S 71)), .int (zI (S 72)), .int (zI (fSol S)), .int (zI (fSw S)), .int (zI (S 73)), .int (zI (S 74)), .long (zL (S 75))])), (hm, .inl (D.2 0, 3, .inl (fMu (mu S)))), (hg, .inl (D.2 0, 3, .inl (G))), (hbu, .inr (0, [.ref hs, .int (zI (S 77))])), (hs, .inl (D.2 0, 8, .inl (fSt S))), (hp, .inr (2, [.ref hw, .ref hz, .ref hl0, .int (zI (S 0))])), (hw, .inl (D.2 0, 16, .inl (fC S 0))), (hz, .inl (D.2 5, 3, .inr (.inr (.inr (.inr (f3 h0 h1 h2)))))), (h0, .inl (D.2 0, 16, .inl (fC S 1))), (h1, .inl (D.2 0, 16, .inl (fC S 2))), (h2, .inl (D.2 0, 16, .inl (fC S 3))), (hl0, .inl (D.2 0, 3, .inl (fLm S)))] H locs := w.sub [0, 1, 2, 3, 4, 5, 6, 7, 8, 9, 10, 11] (by decide) rfl
    refine z_if_ne_b (tgt := 23) hx hb dX5_setLimit_17 (by decide) (fun c17 => ?_) (fun c17 => ?_)
    · skip
      refine lv_aload_n hx hb dX5_setLimit_23 rfl (lv_at hl 0 rfl) ?_
      refine z_get hx hb hown hts w inX5 0 0 rfl rfl (by decide) f_12 rfl rfl dX5_setLimit_24 ?_
      refine z_get hx hb hown hts w inX2 5 2 rfl rfl (by decide) f_103 rfl rfl dX5_setLimit_27 ?_
      refine lv_iload_n hx hb dX5_setLimit_30 rfl (lv_at hl 1 rfl) ?_
      refine z_iald hx hb w 11 rfl 1 (by omega) (by decide) rfl (v := (zI (S 66))) (if_pos (by omega)) dX5_setLimit_31 ?_
      refine lv_istore_n (lv' := [(3, .int (zI (S 66))), (0, .ref ho), (1, .int (zI (1))), (2, .int (zI (v)))]) hx hb dX5_setLimit_32 rfl hl (by decide) rfl (fun ls hl => ?_)
      refine lv_aload_n hx hb dX5_setLimit_33 rfl (lv_at hl 1 rfl) ?_
      refine z_get hx hb hown hts w inX5 0 0 rfl rfl (by decide) f_12 rfl rfl dX5_setLimit_34 ?_
      refine z_get hx hb hown hts w inX2 5 2 rfl rfl (by decide) f_103 rfl rfl dX5_setLimit_37 ?_
      refine lv_iload_n hx hb dX5_setLimit_40 rfl (lv_at hl 2 rfl) ?_
      refine lv_iload_n hx hb dX5_setLimit_41 rfl (lv_at hl 3 rfl) ?_
      refine z_iast hx hb w 11 rfl 1 (by omega) (by decide) rfl dX5_setLimit_42 (fLm (zu S (65 + 1) v)) (fun i hi => fLm_zu (by omega) hi) (fun H locs w => ?_)
      have w : zW D A s.heap s [(ho, .inr (5, [.ref hp, .ref hbu, .ref hm, .ref hg, .int (zI (S 71)), .int (zI (S 72)), .int (zI (fSol S)), .int (zI (fSw S)), .int (zI (S 73)), .int (zI (S 74)), .long (zL (S 75))])), (hm, .inl (D.2 0, 3, .inl (fMu (mu S)))), (hg, .inl (D.2 0, 3, .inl (G))), (hbu, .inr (0, [.ref hs, .int (zI (S 77))])), (hs, .inl (D.2 0, 8, .inl (fSt S))), (hp, .inr (2, [.ref hw, .ref hz, .ref hl0, .int (zI (S 0))])), (hw, .inl (D.2 0, 16, .inl (fC S 0))), (hz, .inl (D.2 5, 3, .inr (.inr (.inr (.inr (f3 h0 h1 h2)))))), (h0, .inl (D.2 0, 16, .inl (fC S 1))), (h1, .inl (D.2 0, 16, .inl (fC S 2))), (h2, .inl (D.2 0, 16, .inl (fC S 3))), (hl0, .inl (D.2 0, 3, .inl (fLm (zu S (65 + 1) v))))] H locs := w
      have hok2 : OkP (zu S (65 + 1) v) := OkP_lim hokp (by omega) c17
      have w : zW D A s.heap s [(ho, .inr (5, [.ref hp, .ref hbu, .ref hm, .ref hg, .int (zI (S 71)), .int (zI (S 72)), .int (zI (fSol S)), .int (zI (fSw S)), .int (zI (S 73)), .int (zI (S 74)), .long (zL (S 75))])), (hm, .inl (D.2 0, 3, .inl (fMu (mu S)))), (hg, .inl (D.2 0, 3, .inl (G))), (hbu, .inr (0, [.ref hs, .int (zI (S 77))])), (hs, .inl (D.2 0, 8, .inl (fSt S))), (hp, .inr (2, [.ref hw, .ref hz, .ref hl0, .int (zI ((zu S (65 + 1) v) 0))])), (hw, .inl (D.2 0, 16, .inl (fC (zu S (65 + 1) v) 0))), (hz, .inl (D.2 5, 3, .inr (.inr (.inr (.inr (f3 h0 h1 h2)))))), (h0, .inl (D.2 0, 16, .inl (fC (zu S (65 + 1) v) 1))), (h1, .inl (D.2 0, 16, .inl (fC (zu S (65 + 1) v) 2))), (h2, .inl (D.2 0, 16, .inl (fC (zu S (65 + 1) v) 3))), (hl0, .inl (D.2 0, 3, .inl (fLm (zu S (65 + 1) v))))] H locs := w.to (by rw [fC_far (S := S) (k := 65 + 1) (v := v) (by omega) (what := 0) (by omega), fC_far (S := S) (k := 65 + 1) (v := v) (by omega) (what := 1) (by omega), fC_far (S := S) (k := 65 + 1) (v := v) (by omega) (what := 2) (by omega), fC_far (S := S) (k := 65 + 1) (v := v) (by omega) (what := 3) (by omega)]; rfl)
      refine lv_aload_n hx hb dX5_setLimit_43 rfl (lv_at hl 1 rfl) ?_
      refine z_V_v (As := []) (rest := []) (Wr := [(hg, .inl (D.2 0, 3, .inl (G))), (hbu, .inr (0, [.ref hs, .int (zI (S 77))])), (hs, .inl (D.2 0, 8, .inl (fSt S)))]) ⟨hx, hb, hml, hown, hts⟩ (c_X5_forget l D ho hm hp hw hz h0 h1 h2 hl0 hbu hg (zu S (65 + 1) v) (mu S) (S 71) (S 72) (fSol S) (fSw S) (S 73) (S 74) (S 75) hok2 hokm) (cwV 0 hts gX5_setLimit_X5_forget rfl rfl rfl (by decide +kernel) ⟨Nat.le_of_ble_eq_true rfl, Nat.le_of_ble_eq_true rfl⟩) w (q0 := 0) rfl rfl rfl [0, 1, 5, 6, 7, 8, 9, 10, 11] rfl (by decide) [2, 3, 4] rfl (by decide) (by decide) rfl hl.1 rfl (lv_room (Nat.le_of_ble_eq_true rfl)) dX5_setLimit_44 ⟨Nat.zero_le _, Nat.zero_le _⟩ (fun W1 H locs hp w => ?_)
      subst hp
      have w : zW D A s.heap s [(ho, .inr (5, [.ref hp, .ref hbu, .ref hm, .ref hg, .int (zI (S 71)), .int (zI (S 72)), .int (zI (0)), .int (zI (-6)), .int (zI (0)), .int (zI (S 74)), .long (zL (sBd (zu S (65 + 1) v) (mu S)))])), (hm, .inl (D.2 0, 3, .inl (fMu (mu S)))), (hg, .inl (D.2 0, 3, .inl (G))), (hbu, .inr (0, [.ref hs, .int (zI (S 77))])), (hs, .inl (D.2 0, 8, .inl (fSt S))), (hp, .inr (2, [.ref hw, .ref hz, .ref hl0, .int (zI ((zu S (65 + 1) v) 0))])), (hw, .inl (D.2 0, 16, .inl (fC (zu S (65 + 1) v) 0))), (hz, .inl (D.2 5, 3, .inr (.inr (.inr (.inr (f3 h0 h1 h2)))))), (h0, .inl (D.2 0, 16, .inl (fC (zu S (65 + 1) v) 1))), (h1, .inl (D.2 0, 16, .inl (fC (zu S (65 + 1) v) 2))), (h2, .inl (D.2 0, 16, .inl (fC (zu S (65 + 1) v) 3))), (hl0, .inl (D.2 0, 3, .inl (fLm (zu S (65 + 1) v))))] H locs := w.sub [3, 4, 0, 1, 2, 5, 6, 7, 8, 9, 10, 11] (by decide) rfl
      refine lv_iload_n hx hb dX5_setLimit_47 rfl (lv_at hl 0 rfl) ?_
      exact z_iret hx hb hr hlocks w dX5_setLimit_48 (by rw [show aLimit S 1 v = (S 66, oLimit S 1 v) from (if_pos (by omega)).trans (if_pos c17)]; exact ⟨rfl, G, wSt_lim (by omega) h16⟩)
    · skip
      refine lv_bipush (v := zI (-2)) hx hb dX5_setLimit_20 (by decide +kernel) ?_
      exact z_iret hx hb hr hlocks w dX5_setLimit_22 (by rw [show aLimit S 1 v = (-2, S) from (if_pos (by omega)).trans (if_neg c17)]; exact ⟨rfl, G, rfl⟩)
  · skip
    exact absurd (show (0 : Int) ≤ 1 ∧ (1 : Int) ≤ 2 by omega) c4
set_option maxHeartbeats 6000000 in
set_option maxRecDepth 100000 in
theorem c_X5_setMultiplier1 (l : Launch) (D : zD) (ho hm hg hbu hs hp hw hz h0 h1 h2 hl0 : Nat) (S : Nat → Int) (G : Nat → Int32) (B : Int) (hB : B ≤ 2000000000) (hok : OkS B S) (v : Int) (hv : zB v) : zM l yX5_setMultiplier wsX5_setMultiplier (zR 3) zE0 D [.ref ho, .int (zI (1)), .int (zI (v))] (wSt D ho hm hg hbu hs hp hw hz h0 h1 h2 hl0 S G) (zQi D (fun r W1 => r = zI (aMult S 1 v).1 ∧ ∃ G2, W1 = (wSt D ho hm hg hbu hs hp hw hz h0 h1 h2 hl0 (aMult S 1 v).2 G2))) := by
  refine zM.of (cc := cX5_setMultiplier) (maxL := 4) (ret := (some .int)) (by decide) rfl (Nat.le_of_ble_eq_true rfl) ?_
  intro p e s m below meth c A hx hb hml hown hts hr hlocks hE hnm w ls hl
  have hown : s.vm.findClass RX5 = some m.cls := hown
  have hl : lv_has ls 4 [(0, .ref ho), (1, .int (zI (1))), (2, .int (zI (v)))] := hl
  have f_25 : (Cond.fieldLink RX5 25 "RelaxedSteps$State" "multipliers" "[I").before _ s = true := hts _ (by decide +kernel)
  have inX5 : ∀ w ∈ u_ws RX5 TX5 11, w ∈ wsX5_setMultiplier := by decide +kernel
  obtain ⟨hokp, hokm, hokb, hsc, hbe⟩ := id hok
  have hn := zn_eq hokp
  have h16 := zn_le hokp
  have hlim := hokp.2.2
  have hm1 := hokm
  unfold OkM mu at hm1
  have hsw := fSw_b hok
  have hso := fSol_b hok
  have hhu := sHu_b hok
  have hbd := sBd_b hokp hokm
  have hkb := hokb.1
  have w : zW D A s.heap s [(ho, .inr (5, [.ref hp, .ref hbu, .ref hm, .ref hg, .int (zI (S 71)), .int (zI (S 72)), .int (zI (fSol S)), .int (zI (fSw S)), .int (zI (S 73)), .int (zI (S 74)), .long (zL (S 75))])), (hm, .inl (D.2 0, 3, .inl (fMu (mu S)))), (hg, .inl (D.2 0, 3, .inl (G))), (hbu, .inr (0, [.ref hs, .int (zI (S 77))])), (hs, .inl (D.2 0, 8, .inl (fSt S))), (hp, .inr (2, [.ref hw, .ref hz, .ref hl0, .int (zI (S 0))])), (hw, .inl (D.2 0, 16, .inl (fC S 0))), (hz, .inl (D.2 5, 3, .inr (.inr (.inr (.inr (f3 h0 h1 h2)))))), (h0, .inl (D.2 0, 16, .inl (fC S 1))), (h1, .inl (D.2 0, 16, .inl (fC S 2))), (h2, .inl (D.2 0, 16, .inl (fC S 3))), (hl0, .inl (D.2 0, 3, .inl (fLm S)))] s.heap [] := w
  refine lv_iload_n hx hb dX5_setMultiplier_0 rfl (lv_at hl 1 rfl) ?_
  refine z_SN_i (As := [.int (zI (1))]) (rest := []) (Wr := [(ho, .inr (5, [.ref hp, .ref hbu, .ref hm, .ref hg, .int (zI (S 71)), .int (zI (S 72)), .int (zI (fSol S)), .int (zI (fSw S)), .int (zI (S 73)), .int (zI (S 74)), .long (zL (S 75))])), (hm, .inl (D.2 0, 3, .inl (fMu (mu S)))), (hg, .inl (D.2 0, 3, .inl (G))), (hbu, .inr (0, [.ref hs, .int (zI (S 77))])), (hs, .inl (D.2 0, 8, .inl (fSt S))), (hp, .inr (2, [.ref hw, .ref hz, .ref hl0, .int (zI (S 0))])), (hw, .inl (D.2 0, 16, .inl (fC S 0))), (hz, .inl (D.2 5, 3, .inr (.inr (.inr (.inr (f3 h0 h1 h2)))))), (h0, .inl (D.2 0, 16, .inl (fC S 1))), (h1, .inl (D.2 0, 16, .inl (fC S 2))), (h2, .inl (D.2 0, 16, .inl (fC S 3))), (hl0, .inl (D.2 0, 3, .inl (fLm S)))]) ⟨hx, hb, hml, hown, hts⟩ (c_X6_isDimension l D 1 (by omega)) ⟨va_cnB 1 hts ggX5_setMultiplier_X6_isDimension rfl rfl rfl (w.1.2 (RX5, 100, yX6_isDimension, "RelaxedSteps") (by decide +kernel)) (hts (.initialized RX6) (by decide +kernel)) (by decide +kernel) ⟨Nat.le_of_ble_eq_true rfl, Nat.le_of_ble_eq_true rfl⟩, hts (.static yX6_isDimension) (by decide +kernel), trivial⟩ w [] rfl (by decide) [0, 1, 2, 3, 4, 5, 6, 7, 8, 9, 10, 11] rfl (by decide) (by decide) rfl hl.1 rfl (lv_room (Nat.le_of_ble_eq_true rfl)) dX5_setMultiplier_1 ⟨Nat.zero_le _, Nat.zero_le _⟩ (fun r W1 H locs hp w => ?_)
  obtain ⟨rfl, rfl⟩ := hp
  have w : zW D A s.heap s [(ho, .inr (5, [.ref hp, .ref hbu, .ref hm, .ref hg, .int (zI (S 71)), .int (zI (S 72)), .int (zI (fSol S)), .int (zI (fSw S)), .int (zI (S 73)), .int (zI (S 74)), .long (zL (S 75))])), (hm, .inl (D.2 0, 3, .inl (fMu (mu S)))), (hg, .inl (D.2 0, 3, .inl (G))), (hbu, .inr (0, [.ref hs, .int (zI (S 77))])), (hs, .inl (D.2 0, 8, .inl (fSt S))), (hp, .inr (2, [.ref hw, .ref hz, .ref hl0, .int (zI (S 0))])), (hw, .inl (D.2 0, 16, .inl (fC S 0))), (hz, .inl (D.2 5, 3, .inr (.inr (.inr (.inr (f3 h0 h1 h2)))))), (h0, .inl (D.2 0, 16, .inl (fC S 1))), (h1, .inl (D.2 0, 16, .inl (fC S 2))), (h2, .inl (D.2 0, 16, .inl (fC S 3))), (hl0, .inl (D.2 0, 3, .inl (fLm S)))] H locs := w.sub [0, 1, 2, 3, 4, 5, 6, 7, 8, 9, 10, 11] (by decide) rfl
  refine z_if_ne_b (tgt := 9) hx hb dX5_setMultiplier_4 (by decide) (fun c4 => ?_) (fun c4 => ?_)
  · skip
    refine lv_iload_n hx hb dX5_setMultiplier_9 rfl (lv_at hl 2 rfl) ?_
    refine lv_iconst (v := zI 0) hx hb dX5_setMultiplier_10 rfl ?_
    refine lv_ldc (v := zI 999999) hx hb hown (hts (.constant RX5 106 (zI 999999)) (by decide +kernel)) dX5_setMultiplier_11 ?_
    refine z_SN_i (As := [.int (zI (v)), .int (zI (0)), .int (zI (999999))]) (rest := []) (Wr := [(ho, .inr (5, [.ref hp, .ref hbu, .ref hm, .ref hg, .int (zI (S 71)), .int (zI (S 72)), .int (zI (fSol S)), .int (zI (fSw S)), .int (zI (S 73)), .int (zI (S 74)), .long (zL (S 75))])), (hm, .inl (D.2 0, 3, .inl (fMu (mu S)))), (hg, .inl (D.2 0, 3, .inl (G))), (hbu, .inr (0, [.ref hs, .int (zI (S 77))])), (hs, .inl (D.2 0, 8, .inl (fSt S))), (hp, .inr (2, [.ref hw, .ref hz, .ref hl0, .int (zI (S 0))])), (hw, .inl (D.2 0, 16, .inl (fC S 0))), (hz, .inl (D.2 5, 3, .inr (.inr (.inr (.inr (f3 h0 h1 h2)))))), (h0, .inl (D.2 0, 16, .inl (fC S 1))), (h1, .inl (D.2 0, 16, .inl (fC S 2))), (h2, .inl (D.2 0, 16, .inl (fC S 3))), (hl0, .inl (D.2 0, 3, .inl (fLm S)))]) ⟨hx, hb, hml, hown, hts⟩ (c_X6_within l D v 0 999999 (by omega) (by omega) (by omega)) ⟨va_cnB 3 hts ggX5_setMultiplier_X6_within rfl rfl rfl (w.1.2 (RX5, 68, yX6_within, "RelaxedSteps") (by decide +kernel)) (hts (.initialized RX6) (by decide +kernel)) (by decide +kernel) ⟨Nat.le_of_ble_eq_true rfl, Nat.le_of_ble_eq_true rfl⟩, hts (.static yX6_within) (by decide +kernel), trivial⟩ w [] rfl (by decide) [0, 1, 2, 3, 4, 5, 6, 7, 8, 9, 10, 11] rfl (by decide) (by decide) rfl hl.1 rfl (lv_room (Nat.le_of_ble_eq_true rfl)) dX5_setMultiplier_13 ⟨Nat.zero_le _, Nat.zero_le _⟩ (fun r W1 H locs hp w => ?_)
    obtain ⟨rfl, rfl⟩ := hp
    have w : zW D A s.heap s [(ho, .inr (5, [.ref hp, .ref hbu, .ref hm, .ref hg, .int (zI (S 71)), .int (zI (S 72)), .int (zI (fSol S)), .int (zI (fSw S)), .int (zI (S 73)), .int (zI (S 74)), .long (zL (S 75))])), (hm, .inl (D.2 0, 3, .inl (fMu (mu S)))), (hg, .inl (D.2 0, 3, .inl (G))), (hbu, .inr (0, [.ref hs, .int (zI (S 77))])), (hs, .inl (D.2 0, 8, .inl (fSt S))), (hp, .inr (2, [.ref hw, .ref hz, .ref hl0, .int (zI (S 0))])), (hw, .inl (D.2 0, 16, .inl (fC S 0))), (hz, .inl (D.2 5, 3, .inr (.inr (.inr (.inr (f3 h0 h1 h2)))))), (h0, .inl (D.2 0, 16, .inl (fC S 1))), (h1, .inl (D.2 0, 16, .inl (fC S 2))), (h2, .inl (D.2 0, 16, .inl (fC S 3))), (hl0, .inl (D.2 0, 3, .inl (fLm S)))] H locs := w.sub [0, 1, 2, 3, 4, 5, 6, 7, 8, 9, 10, 11] (by decide) rfl
    refine z_if_ne_b (tgt := 22) hx hb dX5_setMultiplier_16 (by decide) (fun c16 => ?_) (fun c16 => ?_)
    · skip
      refine lv_aload_n hx hb dX5_setMultiplier_22 rfl (lv_at hl 0 rfl) ?_
      refine z_get hx hb hown hts w inX5 0 2 rfl rfl (by decide) f_25 rfl rfl dX5_setMultiplier_23 ?_
      refine lv_iload_n hx hb dX5_setMultiplier_26 rfl (lv_at hl 1 rfl) ?_
      refine z_iald hx hb w 1 rfl 1 (by omega) (by decide) rfl (v := (zI (S 69))) (if_pos (by omega)) dX5_setMultiplier_27 ?_
      refine lv_istore_n (lv' := [(3, .int (zI (S 69))), (0, .ref ho), (1, .int (zI (1))), (2, .int (zI (v)))]) hx hb dX5_setMultiplier_28 rfl hl (by decide) rfl (fun ls hl => ?_)
      refine lv_aload_n hx hb dX5_setMultiplier_29 rfl (lv_at hl 1 rfl) ?_
      refine z_get hx hb hown hts w inX5 0 2 rfl rfl (by decide) f_25 rfl rfl dX5_setMultiplier_30 ?_
      refine lv_iload_n hx hb dX5_setMultiplier_33 rfl (lv_at hl 2 rfl) ?_
      refine lv_iload_n hx hb dX5_setMultiplier_34 rfl (lv_at hl 3 rfl) ?_
      refine z_iast hx hb w 1 rfl 1 (by omega) (by decide) rfl dX5_setMultiplier_35 (fMu (mu (zu S (68 + 1) v))) (fun i hi => fMu_zu (by omega) hi) (fun H locs w => ?_)
      have w : zW D A s.heap s [(ho, .inr (5, [.ref hp, .ref hbu, .ref hm, .ref hg, .int (zI (S 71)), .int (zI (S 72)), .int (zI (fSol S)), .int (zI (fSw S)), .int (zI (S 73)), .int (zI (S 74)), .long (zL (S 75))])), (hm, .inl (D.2 0, 3, .inl (fMu (mu (zu S (68 + 1) v))))), (hg, .inl (D.2 0, 3, .inl (G))), (hbu, .inr (0, [.ref hs, .int (zI (S 77))])), (hs, .inl (D.2 0, 8, .inl (fSt S))), (hp, .inr (2, [.ref hw, .ref hz, .ref hl0, .int (zI (S 0))])), (hw, .inl (D.2 0, 16, .inl (fC S 0))), (hz, .inl (D.2 5, 3, .inr (.inr (.inr (.inr (f3 h0 h1 h2)))))), (h0, .inl (D.2 0, 16, .inl (fC S 1))), (h1, .inl (D.2 0, 16, .inl (fC S 2))), (h2, .inl (D.2 0, 16, .inl (fC S 3))), (hl0, .inl (D.2 0, 3, .inl (fLm S)))] H locs := w
      have hok2 : OkM (mu (zu S (68 + 1) v)) := OkM_mul hokm (by omega) c16
      refine lv_aload_n hx hb dX5_setMultiplier_36 rfl (lv_at hl 1 rfl) ?_
      refine z_V_i (As := []) (rest := []) (Wr := [(hg, .inl (D.2 0, 3, .inl (G))), (hbu, .inr (0, [.ref hs, .int (zI (S 77))])), (hs, .inl (D.2 0, 8, .inl (fSt S)))]) ⟨hx, hb, hml, hown, hts⟩ (c_X5_lowerBestBound l D ho hm hp hw hz h0 h1 h2 hl0 hbu hg S (mu (zu S (68 + 1) v)) (S 71) (S 72) (fSol S) (fSw S) (S 73) (S 74) (S 75) hokp hok2 (by omega)) (cwV 0 hts gX5_setMultiplier_X5_lowerBestBound rfl rfl rfl (by decide +kernel) ⟨Nat.le_of_ble_eq_true rfl, Nat.le_of_ble_eq_true rfl⟩) w (q0 := 0) rfl rfl rfl [0, 1, 5, 6, 7, 8, 9, 10, 11] rfl (by decide) [2, 3, 4] rfl (by decide) (by decide) rfl hl.1 rfl (lv_room (Nat.le_of_ble_eq_true rfl)) dX5_setMultiplier_37 ⟨Nat.zero_le _, Nat.zero_le _⟩ (fun r W1 H locs hp w => ?_)
      obtain ⟨rfl, rfl⟩ := hp
      have w : zW D A s.heap s [(ho, .inr (5, [.ref hp, .ref hbu, .ref hm, .ref hg, .int (zI (S 71)), .int (zI (S 72)), .int (zI (fSol S)), .int (zI (fSw S)), .int (zI (S 73)), .int (zI (S 74)), .long (zL (if sBd S (mu (zu S (68 + 1) v)) < S 75 then sBd S (mu (zu S (68 + 1) v)) else S 75))])), (hm, .inl (D.2 0, 3, .inl (fMu (mu (zu S (68 + 1) v))))), (hg, .inl (D.2 0, 3, .inl (G))), (hbu, .inr (0, [.ref hs, .int (zI (S 77))])), (hs, .inl (D.2 0, 8, .inl (fSt S))), (hp, .inr (2, [.ref hw, .ref hz, .ref hl0, .int (zI (S 0))])), (hw, .inl (D.2 0, 16, .inl (fC S 0))), (hz, .inl (D.2 5, 3, .inr (.inr (.inr (.inr (f3 h0 h1 h2)))))), (h0, .inl (D.2 0, 16, .inl (fC S 1))), (h1, .inl (D.2 0, 16, .inl (fC S 2))), (h2, .inl (D.2 0, 16, .inl (fC S 3))), (hl0, .inl (D.2 0, 3, .inl (fLm S)))] H locs := w.sub [3, 4, 0, 1, 2, 5, 6, 7, 8, 9, 10, 11] (by decide) rfl
      refine lv_pop hx hb dX5_setMultiplier_40 rfl ?_
      refine lv_iload_n hx hb dX5_setMultiplier_41 rfl (lv_at hl 0 rfl) ?_
      exact z_iret hx hb hr hlocks w dX5_setMultiplier_42 (by rw [show aMult S 1 v = (S 69, oMult S 1 v) from (if_pos (by omega)).trans (if_pos c16)]; exact ⟨rfl, G, wSt_mul (by omega) h16⟩)
    · skip
      refine lv_bipush (v := zI (-2)) hx hb dX5_setMultiplier_19 (by decide +kernel) ?_
      exact z_iret hx hb hr hlocks w dX5_setMultiplier_21 (by rw [show aMult S 1 v = (-2, S) from (if_pos (by omega)).trans (if_neg c16)]; exact ⟨rfl, G, rfl⟩)
  · skip
    exact absurd (show (0 : Int) ≤ 1 ∧ (1 : Int) ≤ 2 by omega) c4
set_option maxHeartbeats 6000000 in
set_option maxRecDepth 100000 in
theorem c_X5_setLimit2 (l : Launch) (D : zD) (ho hm hg hbu hs hp hw hz h0 h1 h2 hl0 : Nat) (S : Nat → Int) (G : Nat → Int32) (B : Int) (hB : B ≤ 2000000000) (hok : OkS B S) (v : Int) (hv : zB v) : zM l yX5_setLimit wsX5_setLimit (zR 3) zE0 D [.ref ho, .int (zI (2)), .int (zI (v))] (wSt D ho hm hg hbu hs hp hw hz h0 h1 h2 hl0 S G) (zQi D (fun r W1 => r = zI (aLimit S 2 v).1 ∧ ∃ G2, W1 = (wSt D ho hm hg hbu hs hp hw hz h0 h1 h2 hl0 (aLimit S 2 v).2 G2))) := by
  refine zM.of (cc := cX5_setLimit) (maxL := 4) (ret := (some .int)) (by decide) rfl (Nat.le_of_ble_eq_true rfl) ?_
  intro p e s m below meth c A hx hb hml hown hts hr hlocks hE hnm w ls hl
  have hown : s.vm.findClass RX5 = some m.cls := hown
  have hl : lv_has ls 4 [(0, .ref ho), (1, .int (zI (2))), (2, .int (zI (v)))] := hl
  have f_12 : (Cond.fieldLink RX5 12 "RelaxedSteps$State" "packing" "LRelaxedSteps$Packing;").before _ s = true := hts _ (by decide +kernel)
  have f_103 : (Cond.fieldLink RX5 103 "RelaxedSteps$Packing" "limits" "[I").before _ s = true := hts _ (by decide +kernel)
  have inX5 : ∀ w ∈ u_ws RX5 TX5 11, w ∈ wsX5_setLimit := by decide +kernel
  have inX2 : ∀ w ∈ u_ws RX2 TX2 4, w ∈ wsX5_setLimit := by decide +kernel
  obtain ⟨hokp, hokm, hokb, hsc, hbe⟩ := id hok
  have hn := zn_eq hokp
  have h16 := zn_le hokp
  have hlim := hokp.2.2
  have hm1 := hokm
  unfold OkM mu at hm1
  have hsw := fSw_b hok
  have hso := fSol_b hok
  have hhu := sHu_b hok
  have hbd := sBd_b hokp hokm
  have hkb := hokb.1
  have w : zW D A s.heap s [(ho, .inr (5, [.ref hp, .ref hbu, .ref hm, .ref hg, .int (zI (S 71)), .int (zI (S 72)), .int (zI (fSol S)), .int (zI (fSw S)), .int (zI (S 73)), .int (zI (S 74)), .long (zL (S 75))])), (hm, .inl (D.2 0, 3, .inl (fMu (mu S)))), (hg, .inl (D.2 0, 3, .inl (G))), (hbu, .inr (0, [.ref hs, .int (zI (S 77))])), (hs, .inl (D.2 0, 8, .inl (fSt S))), (hp, .inr (2, [.ref hw, .ref hz, .ref hl0, .int (zI (S 0))])), (hw, .inl (D.2 0, 16, .inl (fC S 0))), (hz, .inl (D.2 5, 3, .inr (.inr (.inr (.inr (f3 h0 h1 h2)))))), (h0, .inl (D.2 0, 16, .inl (fC S 1))), (h1, .inl (D.2 0, 16, .inl (fC S 2))), (h2, .inl (D.2 0, 16, .inl (fC S 3))), (hl0, .inl (D.2 0, 3, .inl (fLm S)))] s.heap [] := w
  refine lv_iload_n hx hb dX5_setLimit_0 rfl (lv_at hl 1 rfl) ?_
  refine z_SN_i (As := [.int (zI (2))]) (rest := []) (Wr := [(ho, .inr (5, [.ref hp, .ref hbu, .ref hm, .ref hg, .int (zI (S 71)), .int (zI (S 72)), .int (zI (fSol S)), .int (zI (fSw S)), .int (zI (S 73)), .int (zI (S 74)), .long (zL (S 75))])), (hm, .inl (D.2 0, 3, .inl (fMu (mu S)))), (hg, .inl (D.2 0, 3, .inl (G))), (hbu, .inr (0, [.ref hs, .int (zI (S 77))])), (hs, .inl (D.2 0, 8, .inl (fSt S))), (hp, .inr (2, [.ref hw, .ref hz, .ref hl0, .int (zI (S 0))])), (hw, .inl (D.2 0, 16, .inl (fC S 0))), (hz, .inl (D.2 5, 3, .inr (.inr (.inr (.inr (f3 h0 h1 h2)))))), (h0, .inl (D.2 0, 16, .inl (fC S 1))), (h1, .inl (D.2 0, 16, .inl (fC S 2))), (h2, .inl (D.2 0, 16, .inl (fC S 3))), (hl0, .inl (D.2 0, 3, .inl (fLm S)))]) ⟨hx, hb, hml, hown, hts⟩ (c_X6_isDimension l D 2 (by omega)) ⟨va_cnB 1 hts ggX5_setLimit_X6_isDimension rfl rfl rfl (w.1.2 (RX5, 100, yX6_isDimension, "RelaxedSteps") (by decide +kernel)) (hts (.initialized RX6) (by decide +kernel)) (by decide +kernel) ⟨Nat.le_of_ble_eq_true rfl, Nat.le_of_ble_eq_true rfl⟩, hts (.static yX6_isDimension) (by decide +kernel), trivial⟩ w [] rfl (by decide) [0, 1, 2, 3, 4, 5, 6, 7, 8, 9, 10, 11] rfl (by decide) (by decide) rfl hl.1 rfl (lv_room (Nat.le_of_ble_eq_true rfl)) dX5_setLimit_1 ⟨Nat.zero_le _, Nat.zero_le _⟩ (fun r W1 H locs hp w => ?_)
  obtain ⟨rfl, rfl⟩ := hp
  have w : zW D A s.heap s [(ho, .inr (5, [.ref hp, .ref hbu, .ref hm, .ref hg, .int (zI (S 71)), .int (zI (S 72)), .int (zI (fSol S)), .int (zI (fSw S)), .int (zI (S 73)), .int (zI (S 74)), .long (zL (S 75))])), (hm, .inl (D.2 0, 3, .inl (fMu (mu S)))), (hg, .inl (D.2 0, 3, .inl (G))), (hbu, .inr (0, [.ref hs, .int (zI (S 77))])), (hs, .inl (D.2 0, 8, .inl (fSt S))), (hp, .inr (2, [.ref hw, .ref hz, .ref hl0, .int (zI (S 0))])), (hw, .inl (D.2 0, 16, .inl (fC S 0))), (hz, .inl (D.2 5, 3, .inr (.inr (.inr (.inr (f3 h0 h1 h2)))))), (h0, .inl (D.2 0, 16, .inl (fC S 1))), (h1, .inl (D.2 0, 16, .inl (fC S 2))), (h2, .inl (D.2 0, 16, .inl (fC S 3))), (hl0, .inl (D.2 0, 3, .inl (fLm S)))] H locs := w.sub [0, 1, 2, 3, 4, 5, 6, 7, 8, 9, 10, 11] (by decide) rfl
  refine z_if_ne_b (tgt := 9) hx hb dX5_setLimit_4 (by decide) (fun c4 => ?_) (fun c4 => ?_)
  · skip
    refine lv_iload_n hx hb dX5_setLimit_9 rfl (lv_at hl 2 rfl) ?_
    refine lv_iconst (v := zI 0) hx hb dX5_setLimit_10 rfl ?_
    refine lv_sipush (v := zI 999) hx hb dX5_setLimit_11 (by decide +kernel) ?_
    refine z_SN_i (As := [.int (zI (v)), .int (zI (0)), .int (zI (999))]) (rest := []) (Wr := [(ho, .inr (5, [.ref hp, .ref hbu, .ref hm, .ref hg, .int (zI (S 71)), .int (zI (S 72)), .int (zI (fSol S)), .int (zI (fSw S)), .int (zI (S 73)), .int (zI (S 74)), .long (zL (S 75))])), (hm, .inl (D.2 0, 3, .inl (fMu (mu S)))), (hg, .inl (D.2 0, 3, .inl (G))), (hbu, .inr (0, [.ref hs, .int (zI (S 77))])), (hs, .inl (D.2 0, 8, .inl (fSt S))), (hp, .inr (2, [.ref hw, .ref hz, .ref hl0, .int (zI (S 0))])), (hw, .inl (D.2 0, 16, .inl (fC S 0))), (hz, .inl (D.2 5, 3, .inr (.inr (.inr (.inr (f3 h0 h1 h2)))))), (h0, .inl (D.2 0, 16, .inl (fC S 1))), (h1, .inl (D.2 0, 16, .inl (fC S 2))), (h2, .inl (D.2 0, 16, .inl (fC S 3))), (hl0, .inl (D.2 0, 3, .inl (fLm S)))]) ⟨hx, hb, hml, hown, hts⟩ (c_X6_within l D v 0 999 (by omega) (by omega) (by omega)) ⟨va_cnB 3 hts ggX5_setLimit_X6_within rfl rfl rfl (w.1.2 (RX5, 68, yX6_within, "RelaxedSteps") (by decide +kernel)) (hts (.initialized RX6) (by decide +kernel)) (by decide +kernel) ⟨Nat.le_of_ble_eq_true rfl, Nat.le_of_ble_eq_true rfl⟩, hts (.static yX6_within) (by decide +kernel), trivial⟩ w [] rfl (by decide) [0, 1, 2, 3, 4, 5, 6, 7, 8, 9, 10, 11] rfl (by decide) (by decide) rfl hl.1 rfl (lv_room (Nat.le_of_ble_eq_true rfl)) dX5_setLimit_14 ⟨Nat.zero_le _, Nat.zero_le _⟩ (fun r W1 H locs hp w => ?_)
    obtain ⟨rfl, rfl⟩ := hp
    have w : zW D A s.heap s [(ho, .inr (5, [.ref hp, .ref hbu, .ref hm, .ref hg, .int (zI (S 71)), .int (zI (S 72)), .int (zI (fSol S)), .int (zI (fSw S)), .int (zI (S 73)), .int (zI (S 74)), .long (zL (S 75))])), (hm, .inl (D.2 0, 3, .inl (fMu (mu S)))), (hg, .inl (D.2 0, 3, .inl (G))), (hbu, .inr (0, [.ref hs, .int (zI (S 77))])), (hs, .inl (D.2 0, 8, .inl (fSt S))), (hp, .inr (2, [.ref hw, .ref hz, .ref hl0, .int (zI (S 0))])), (hw, .inl (D.2 0, 16, .inl (fC S 0))), (hz, .inl (D.2 5, 3, .inr (.inr (.inr (.inr (f3 h0 h1 h2)))))), (h0, .inl (D.2 0, 16, .inl (fC S 1))), (h1, .inl (D.2 0, 16, .inl (fC S 2))), (h2, .inl (D.2 0, 16, .inl (fC S 3))), (hl0, .inl (D.2 0, 3, .inl (fLm S)))] H locs := w.sub [0, 1, 2, 3, 4, 5, 6, 7, 8, 9, 10, 11] (by decide) rfl
    refine z_if_ne_b (tgt := 23) hx hb dX5_setLimit_17 (by decide) (fun c17 => ?_) (fun c17 => ?_)
    · skip
      refine lv_aload_n hx hb dX5_setLimit_23 rfl (lv_at hl 0 rfl) ?_
      refine z_get hx hb hown hts w inX5 0 0 rfl rfl (by decide) f_12 rfl rfl dX5_setLimit_24 ?_
      refine z_get hx hb hown hts w inX2 5 2 rfl rfl (by decide) f_103 rfl rfl dX5_setLimit_27 ?_
      refine lv_iload_n hx hb dX5_setLimit_30 rfl (lv_at hl 1 rfl) ?_
      refine z_iald hx hb w 11 rfl 2 (by omega) (by decide) rfl (v := (zI (S 67))) (if_pos (by omega)) dX5_setLimit_31 ?_
      refine lv_istore_n (lv' := [(3, .int (zI (S 67))), (0, .ref ho), (1, .int (zI (2))), (2, .int (zI (v)))]) hx hb dX5_setLimit_32 rfl hl (by decide) rfl (fun ls hl => ?_)
      refine lv_aload_n hx hb dX5_setLimit_33 rfl (lv_at hl 1 rfl) ?_
      refine z_get hx hb hown hts w inX5 0 0 rfl rfl (by decide) f_12 rfl rfl dX5_setLimit_34 ?_
      refine z_get hx hb hown hts w inX2 5 2 rfl rfl (by decide) f_103 rfl rfl dX5_setLimit_37 ?_
      refine lv_iload_n hx hb dX5_setLimit_40 rfl (lv_at hl 2 rfl) ?_
      refine lv_iload_n hx hb dX5_setLimit_41 rfl (lv_at hl 3 rfl) ?_
      refine z_iast hx hb w 11 rfl 2 (by omega) (by decide) rfl dX5_setLimit_42 (fLm (zu S (65 + 2) v)) (fun i hi => fLm_zu (by omega) hi) (fun H locs w => ?_)
      have w : zW D A s.heap s [(ho, .inr (5, [.ref hp, .ref hbu, .ref hm, .ref hg, .int (zI (S 71)), .int (zI (S 72)), .int (zI (fSol S)), .int (zI (fSw S)), .int (zI (S 73)), .int (zI (S 74)), .long (zL (S 75))])), (hm, .inl (D.2 0, 3, .inl (fMu (mu S)))), (hg, .inl (D.2 0, 3, .inl (G))), (hbu, .inr (0, [.ref hs, .int (zI (S 77))])), (hs, .inl (D.2 0, 8, .inl (fSt S))), (hp, .inr (2, [.ref hw, .ref hz, .ref hl0, .int (zI (S 0))])), (hw, .inl (D.2 0, 16, .inl (fC S 0))), (hz, .inl (D.2 5, 3, .inr (.inr (.inr (.inr (f3 h0 h1 h2)))))), (h0, .inl (D.2 0, 16, .inl (fC S 1))), (h1, .inl (D.2 0, 16, .inl (fC S 2))), (h2, .inl (D.2 0, 16, .inl (fC S 3))), (hl0, .inl (D.2 0, 3, .inl (fLm (zu S (65 + 2) v))))] H locs := w
      have hok2 : OkP (zu S (65 + 2) v) := OkP_lim hokp (by omega) c17
      have w : zW D A s.heap s [(ho, .inr (5, [.ref hp, .ref hbu, .ref hm, .ref hg, .int (zI (S 71)), .int (zI (S 72)), .int (zI (fSol S)), .int (zI (fSw S)), .int (zI (S 73)), .int (zI (S 74)), .long (zL (S 75))])), (hm, .inl (D.2 0, 3, .inl (fMu (mu S)))), (hg, .inl (D.2 0, 3, .inl (G))), (hbu, .inr (0, [.ref hs, .int (zI (S 77))])), (hs, .inl (D.2 0, 8, .inl (fSt S))), (hp, .inr (2, [.ref hw, .ref hz, .ref hl0, .int (zI ((zu S (65 + 2) v) 0))])), (hw, .inl (D.2 0, 16, .inl (fC (zu S (65 + 2) v) 0))), (hz, .inl (D.2 5, 3, .inr (.inr (.inr (.inr (f3 h0 h1 h2)))))), (h0, .inl (D.2 0, 16, .inl (fC (zu S (65 + 2) v) 1))), (h1, .inl (D.2 0, 16, .inl (fC (zu S (65 + 2) v) 2))), (h2, .inl (D.2 0, 16, .inl (fC (zu S (65 + 2) v) 3))), (hl0, .inl (D.2 0, 3, .inl (fLm (zu S (65 + 2) v))))] H locs := w.to (by rw [fC_far (S := S) (k := 65 + 2) (v := v) (by omega) (what := 0) (by omega), fC_far (S := S) (k := 65 + 2) (v := v) (by omega) (what := 1) (by omega), fC_far (S := S) (k := 65 + 2) (v := v) (by omega) (what := 2) (by omega), fC_far (S := S) (k := 65 + 2) (v := v) (by omega) (what := 3) (by omega)]; rfl)
      refine lv_aload_n hx hb dX5_setLimit_43 rfl (lv_at hl 1 rfl) ?_
      refine z_V_v (As := []) (rest := []) (Wr := [(hg, .inl (D.2 0, 3, .inl (G))), (hbu, .inr (0, [.ref hs, .int (zI (S 77))])), (hs, .inl (D.2 0, 8, .inl (fSt S)))]) ⟨hx, hb, hml, hown, hts⟩ (c_X5_forget l D ho hm hp hw hz h0 h1 h2 hl0 hbu hg (zu S (65 + 2) v) (mu S) (S 71) (S 72) (fSol S) (fSw S) (S 73) (S 74) (S 75) hok2 hokm) (cwV 0 hts gX5_setLimit_X5_forget rfl rfl rfl (by decide +kernel) ⟨Nat.le_of_ble_eq_true rfl, Nat.le_of_ble_eq_true rfl⟩) w (q0 := 0) rfl rfl rfl [0, 1, 5, 6, 7, 8, 9, 10, 11] rfl (by decide) [2, 3, 4] rfl (by decide) (by decide) rfl hl.1 rfl (lv_room (Nat.le_of_ble_eq_true rfl)) dX5_setLimit_44 ⟨Nat.zero_le _, Nat.zero_le _⟩ (fun W1 H locs hp w => ?_)
      subst hp
      have w : zW D A s.heap s [(ho, .inr (5, [.ref hp, .ref hbu, .ref hm, .ref hg, .int (zI (S 71)), .int (zI (S 72)), .int (zI (0)), .int (zI (-6)), .int (zI (0)), .int (zI (S 74)), .long (zL (sBd (zu S (65 + 2) v) (mu S)))])), (hm, .inl (D.2 0, 3, .inl (fMu (mu S)))), (hg, .inl (D.2 0, 3, .inl (G))), (hbu, .inr (0, [.ref hs, .int (zI (S 77))])), (hs, .inl (D.2 0, 8, .inl (fSt S))), (hp, .inr (2, [.ref hw, .ref hz, .ref hl0, .int (zI ((zu S (65 + 2) v) 0))])), (hw, .inl (D.2 0, 16, .inl (fC (zu S (65 + 2) v) 0))), (hz, .inl (D.2 5, 3, .inr (.inr (.inr (.inr (f3 h0 h1 h2)))))), (h0, .inl (D.2 0, 16, .inl (fC (zu S (65 + 2) v) 1))), (h1, .inl (D.2 0, 16, .inl (fC (zu S (65 + 2) v) 2))), (h2, .inl (D.2 0, 16, .inl (fC (zu S (65 + 2) v) 3))), (hl0, .inl (D.2 0, 3, .inl (fLm (zu S (65 + 2) v))))] H locs := w.sub [3, 4, 0, 1, 2, 5, 6, 7, 8, 9, 10, 11] (by decide) rfl
      refine lv_iload_n hx hb dX5_setLimit_47 rfl (lv_at hl 0 rfl) ?_
      exact z_iret hx hb hr hlocks w dX5_setLimit_48 (by rw [show aLimit S 2 v = (S 67, oLimit S 2 v) from (if_pos (by omega)).trans (if_pos c17)]; exact ⟨rfl, G, wSt_lim (by omega) h16⟩)
    · skip
      refine lv_bipush (v := zI (-2)) hx hb dX5_setLimit_20 (by decide +kernel) ?_
      exact z_iret hx hb hr hlocks w dX5_setLimit_22 (by rw [show aLimit S 2 v = (-2, S) from (if_pos (by omega)).trans (if_neg c17)]; exact ⟨rfl, G, rfl⟩)
  · skip
    exact absurd (show (0 : Int) ≤ 2 ∧ (2 : Int) ≤ 2 by omega) c4
set_option maxHeartbeats 6000000 in
set_option maxRecDepth 100000 in
theorem c_X5_setMultiplier2 (l : Launch) (D : zD) (ho hm hg hbu hs hp hw hz h0 h1 h2 hl0 : Nat) (S : Nat → Int) (G : Nat → Int32) (B : Int) (hB : B ≤ 2000000000) (hok : OkS B S) (v : Int) (hv : zB v) : zM l yX5_setMultiplier wsX5_setMultiplier (zR 3) zE0 D [.ref ho, .int (zI (2)), .int (zI (v))] (wSt D ho hm hg hbu hs hp hw hz h0 h1 h2 hl0 S G) (zQi D (fun r W1 => r = zI (aMult S 2 v).1 ∧ ∃ G2, W1 = (wSt D ho hm hg hbu hs hp hw hz h0 h1 h2 hl0 (aMult S 2 v).2 G2))) := by
  refine zM.of (cc := cX5_setMultiplier) (maxL := 4) (ret := (some .int)) (by decide) rfl (Nat.le_of_ble_eq_true rfl) ?_
  intro p e s m below meth c A hx hb hml hown hts hr hlocks hE hnm w ls hl
  have hown : s.vm.findClass RX5 = some m.cls := hown
  have hl : lv_has ls 4 [(0, .ref ho), (1, .int (zI (2))), (2, .int (zI (v)))] := hl
  have f_25 : (Cond.fieldLink RX5 25 "RelaxedSteps$State" "multipliers" "[I").before _ s = true := hts _ (by decide +kernel)
  have inX5 : ∀ w ∈ u_ws RX5 TX5 11, w ∈ wsX5_setMultiplier := by decide +kernel
  obtain ⟨hokp, hokm, hokb, hsc, hbe⟩ := id hok
  have hn := zn_eq hokp
  have h16 := zn_le hokp
  have hlim := hokp.2.2
  have hm1 := hokm
  unfold OkM mu at hm1
  have hsw := fSw_b hok
  have hso := fSol_b hok
  have hhu := sHu_b hok
  have hbd := sBd_b hokp hokm
  have hkb := hokb.1
  have w : zW D A s.heap s [(ho, .inr (5, [.ref hp, .ref hbu, .ref hm, .ref hg, .int (zI (S 71)), .int (zI (S 72)), .int (zI (fSol S)), .int (zI (fSw S)), .int (zI (S 73)), .int (zI (S 74)), .long (zL (S 75))])), (hm, .inl (D.2 0, 3, .inl (fMu (mu S)))), (hg, .inl (D.2 0, 3, .inl (G))), (hbu, .inr (0, [.ref hs, .int (zI (S 77))])), (hs, .inl (D.2 0, 8, .inl (fSt S))), (hp, .inr (2, [.ref hw, .ref hz, .ref hl0, .int (zI (S 0))])), (hw, .inl (D.2 0, 16, .inl (fC S 0))), (hz, .inl (D.2 5, 3, .inr (.inr (.inr (.inr (f3 h0 h1 h2)))))), (h0, .inl (D.2 0, 16, .inl (fC S 1))), (h1, .inl (D.2 0, 16, .inl (fC S 2))), (h2, .inl (D.2 0, 16, .inl (fC S 3))), (hl0, .inl (D.2 0, 3, .inl (fLm S)))] s.heap [] := w
  refine lv_iload_n hx hb dX5_setMultiplier_0 rfl (lv_at hl 1 rfl) ?_
  refine z_SN_i (As := [.int (zI (2))]) (rest := []) (Wr := [(ho, .inr (5, [.ref hp, .ref hbu, .ref hm, .ref hg, .int (zI (S 71)), .int (zI (S 72)), .int (zI (fSol S)), .int (zI (fSw S)), .int (zI (S 73)), .int (zI (S 74)), .long (zL (S 75))])), (hm, .inl (D.2 0, 3, .inl (fMu (mu S)))), (hg, .inl (D.2 0, 3, .inl (G))), (hbu, .inr (0, [.ref hs, .int (zI (S 77))])), (hs, .inl (D.2 0, 8, .inl (fSt S))), (hp, .inr (2, [.ref hw, .ref hz, .ref hl0, .int (zI (S 0))])), (hw, .inl (D.2 0, 16, .inl (fC S 0))), (hz, .inl (D.2 5, 3, .inr (.inr (.inr (.inr (f3 h0 h1 h2)))))), (h0, .inl (D.2 0, 16, .inl (fC S 1))), (h1, .inl (D.2 0, 16, .inl (fC S 2))), (h2, .inl (D.2 0, 16, .inl (fC S 3))), (hl0, .inl (D.2 0, 3, .inl (fLm S)))]) ⟨hx, hb, hml, hown, hts⟩ (c_X6_isDimension l D 2 (by omega)) ⟨va_cnB 1 hts ggX5_setMultiplier_X6_isDimension rfl rfl rfl (w.1.2 (RX5, 100, yX6_isDimension, "RelaxedSteps") (by decide +kernel)) (hts (.initialized RX6) (by decide +kernel)) (by decide +kernel) ⟨Nat.le_of_ble_eq_true rfl, Nat.le_of_ble_eq_true rfl⟩, hts (.static yX6_isDimension) (by decide +kernel), trivial⟩ w [] rfl (by decide) [0, 1, 2, 3, 4, 5, 6, 7, 8, 9, 10, 11] rfl (by decide) (by decide) rfl hl.1 rfl (lv_room (Nat.le_of_ble_eq_true rfl)) dX5_setMultiplier_1 ⟨Nat.zero_le _, Nat.zero_le _⟩ (fun r W1 H locs hp w => ?_)
  obtain ⟨rfl, rfl⟩ := hp
  have w : zW D A s.heap s [(ho, .inr (5, [.ref hp, .ref hbu, .ref hm, .ref hg, .int (zI (S 71)), .int (zI (S 72)), .int (zI (fSol S)), .int (zI (fSw S)), .int (zI (S 73)), .int (zI (S 74)), .long (zL (S 75))])), (hm, .inl (D.2 0, 3, .inl (fMu (mu S)))), (hg, .inl (D.2 0, 3, .inl (G))), (hbu, .inr (0, [.ref hs, .int (zI (S 77))])), (hs, .inl (D.2 0, 8, .inl (fSt S))), (hp, .inr (2, [.ref hw, .ref hz, .ref hl0, .int (zI (S 0))])), (hw, .inl (D.2 0, 16, .inl (fC S 0))), (hz, .inl (D.2 5, 3, .inr (.inr (.inr (.inr (f3 h0 h1 h2)))))), (h0, .inl (D.2 0, 16, .inl (fC S 1))), (h1, .inl (D.2 0, 16, .inl (fC S 2))), (h2, .inl (D.2 0, 16, .inl (fC S 3))), (hl0, .inl (D.2 0, 3, .inl (fLm S)))] H locs := w.sub [0, 1, 2, 3, 4, 5, 6, 7, 8, 9, 10, 11] (by decide) rfl
  refine z_if_ne_b (tgt := 9) hx hb dX5_setMultiplier_4 (by decide) (fun c4 => ?_) (fun c4 => ?_)
  · skip
    refine lv_iload_n hx hb dX5_setMultiplier_9 rfl (lv_at hl 2 rfl) ?_
    refine lv_iconst (v := zI 0) hx hb dX5_setMultiplier_10 rfl ?_
    refine lv_ldc (v := zI 999999) hx hb hown (hts (.constant RX5 106 (zI 999999)) (by decide +kernel)) dX5_setMultiplier_11 ?_
    refine z_SN_i (As := [.int (zI (v)), .int (zI (0)), .int (zI (999999))]) (rest := []) (Wr := [(ho, .inr (5, [.ref hp, .ref hbu, .ref hm, .ref hg, .int (zI (S 71)), .int (zI (S 72)), .int (zI (fSol S)), .int (zI (fSw S)), .int (zI (S 73)), .int (zI (S 74)), .long (zL (S 75))])), (hm, .inl (D.2 0, 3, .inl (fMu (mu S)))), (hg, .inl (D.2 0, 3, .inl (G))), (hbu, .inr (0, [.ref hs, .int (zI (S 77))])), (hs, .inl (D.2 0, 8, .inl (fSt S))), (hp, .inr (2, [.ref hw, .ref hz, .ref hl0, .int (zI (S 0))])), (hw, .inl (D.2 0, 16, .inl (fC S 0))), (hz, .inl (D.2 5, 3, .inr (.inr (.inr (.inr (f3 h0 h1 h2)))))), (h0, .inl (D.2 0, 16, .inl (fC S 1))), (h1, .inl (D.2 0, 16, .inl (fC S 2))), (h2, .inl (D.2 0, 16, .inl (fC S 3))), (hl0, .inl (D.2 0, 3, .inl (fLm S)))]) ⟨hx, hb, hml, hown, hts⟩ (c_X6_within l D v 0 999999 (by omega) (by omega) (by omega)) ⟨va_cnB 3 hts ggX5_setMultiplier_X6_within rfl rfl rfl (w.1.2 (RX5, 68, yX6_within, "RelaxedSteps") (by decide +kernel)) (hts (.initialized RX6) (by decide +kernel)) (by decide +kernel) ⟨Nat.le_of_ble_eq_true rfl, Nat.le_of_ble_eq_true rfl⟩, hts (.static yX6_within) (by decide +kernel), trivial⟩ w [] rfl (by decide) [0, 1, 2, 3, 4, 5, 6, 7, 8, 9, 10, 11] rfl (by decide) (by decide) rfl hl.1 rfl (lv_room (Nat.le_of_ble_eq_true rfl)) dX5_setMultiplier_13 ⟨Nat.zero_le _, Nat.zero_le _⟩ (fun r W1 H locs hp w => ?_)
    obtain ⟨rfl, rfl⟩ := hp
    have w : zW D A s.heap s [(ho, .inr (5, [.ref hp, .ref hbu, .ref hm, .ref hg, .int (zI (S 71)), .int (zI (S 72)), .int (zI (fSol S)), .int (zI (fSw S)), .int (zI (S 73)), .int (zI (S 74)), .long (zL (S 75))])), (hm, .inl (D.2 0, 3, .inl (fMu (mu S)))), (hg, .inl (D.2 0, 3, .inl (G))), (hbu, .inr (0, [.ref hs, .int (zI (S 77))])), (hs, .inl (D.2 0, 8, .inl (fSt S))), (hp, .inr (2, [.ref hw, .ref hz, .ref hl0, .int (zI (S 0))])), (hw, .inl (D.2 0, 16, .inl (fC S 0))), (hz, .inl (D.2 5, 3, .inr (.inr (.inr (.inr (f3 h0 h1 h2)))))), (h0, .inl (D.2 0, 16, .inl (fC S 1))), (h1, .inl (D.2 0, 16, .inl (fC S 2))), (h2, .inl (D.2 0, 16, .inl (fC S 3))), (hl0, .inl (D.2 0, 3, .inl (fLm S)))] H locs := w.sub [0, 1, 2, 3, 4, 5, 6, 7, 8, 9, 10, 11] (by decide) rfl
    refine z_if_ne_b (tgt := 22) hx hb dX5_setMultiplier_16 (by decide) (fun c16 => ?_) (fun c16 => ?_)
    · skip
      refine lv_aload_n hx hb dX5_setMultiplier_22 rfl (lv_at hl 0 rfl) ?_
      refine z_get hx hb hown hts w inX5 0 2 rfl rfl (by decide) f_25 rfl rfl dX5_setMultiplier_23 ?_
      refine lv_iload_n hx hb dX5_setMultiplier_26 rfl (lv_at hl 1 rfl) ?_
      refine z_iald hx hb w 1 rfl 2 (by omega) (by decide) rfl (v := (zI (S 70))) (if_pos (by omega)) dX5_setMultiplier_27 ?_
      refine lv_istore_n (lv' := [(3, .int (zI (S 70))), (0, .ref ho), (1, .int (zI (2))), (2, .int (zI (v)))]) hx hb dX5_setMultiplier_28 rfl hl (by decide) rfl (fun ls hl => ?_)
      refine lv_aload_n hx hb dX5_setMultiplier_29 rfl (lv_at hl 1 rfl) ?_
      refine z_get hx hb hown hts w inX5 0 2 rfl rfl (by decide) f_25 rfl rfl dX5_setMultiplier_30 ?_
      refine lv_iload_n hx hb dX5_setMultiplier_33 rfl (lv_at hl 2 rfl) ?_
      refine lv_iload_n hx hb dX5_setMultiplier_34 rfl (lv_at hl 3 rfl) ?_
      refine z_iast hx hb w 1 rfl 2 (by omega) (by decide) rfl dX5_setMultiplier_35 (fMu (mu (zu S (68 + 2) v))) (fun i hi => fMu_zu (by omega) hi) (fun H locs w => ?_)
      have w : zW D A s.heap s [(ho, .inr (5, [.ref hp, .ref hbu, .ref hm, .ref hg, .int (zI (S 71)), .int (zI (S 72)), .int (zI (fSol S)), .int (zI (fSw S)), .int (zI (S 73)), .int (zI (S 74)), .long (zL (S 75))])), (hm, .inl (D.2 0, 3, .inl (fMu (mu (zu S (68 + 2) v))))), (hg, .inl (D.2 0, 3, .inl (G))), (hbu, .inr (0, [.ref hs, .int (zI (S 77))])), (hs, .inl (D.2 0, 8, .inl (fSt S))), (hp, .inr (2, [.ref hw, .ref hz, .ref hl0, .int (zI (S 0))])), (hw, .inl (D.2 0, 16, .inl (fC S 0))), (hz, .inl (D.2 5, 3, .inr (.inr (.inr (.inr (f3 h0 h1 h2)))))), (h0, .inl (D.2 0, 16, .inl (fC S 1))), (h1, .inl (D.2 0, 16, .inl (fC S 2))), (h2, .inl (D.2 0, 16, .inl (fC S 3))), (hl0, .inl (D.2 0, 3, .inl (fLm S)))] H locs := w
      have hok2 : OkM (mu (zu S (68 + 2) v)) := OkM_mul hokm (by omega) c16
      refine lv_aload_n hx hb dX5_setMultiplier_36 rfl (lv_at hl 1 rfl) ?_
      refine z_V_i (As := []) (rest := []) (Wr := [(hg, .inl (D.2 0, 3, .inl (G))), (hbu, .inr (0, [.ref hs, .int (zI (S 77))])), (hs, .inl (D.2 0, 8, .inl (fSt S)))]) ⟨hx, hb, hml, hown, hts⟩ (c_X5_lowerBestBound l D ho hm hp hw hz h0 h1 h2 hl0 hbu hg S (mu (zu S (68 + 2) v)) (S 71) (S 72) (fSol S) (fSw S) (S 73) (S 74) (S 75) hokp hok2 (by omega)) (cwV 0 hts gX5_setMultiplier_X5_lowerBestBound rfl rfl rfl (by decide +kernel) ⟨Nat.le_of_ble_eq_true rfl, Nat.le_of_ble_eq_true rfl⟩) w (q0 := 0) rfl rfl rfl [0, 1, 5, 6, 7, 8, 9, 10, 11] rfl (by decide) [2, 3, 4] rfl (by decide) (by decide) rfl hl.1 rfl (lv_room (Nat.le_of_ble_eq_true rfl)) dX5_setMultiplier_37 ⟨Nat.zero_le _, Nat.zero_le _⟩ (fun r W1 H locs hp w => ?_)
      obtain ⟨rfl, rfl⟩ := hp
      have w : zW D A s.heap s [(ho, .inr (5, [.ref hp, .ref hbu, .ref hm, .ref hg, .int (zI (S 71)), .int (zI (S 72)), .int (zI (fSol S)), .int (zI (fSw S)), .int (zI (S 73)), .int (zI (S 74)), .long (zL (if sBd S (mu (zu S (68 + 2) v)) < S 75 then sBd S (mu (zu S (68 + 2) v)) else S 75))])), (hm, .inl (D.2 0, 3, .inl (fMu (mu (zu S (68 + 2) v))))), (hg, .inl (D.2 0, 3, .inl (G))), (hbu, .inr (0, [.ref hs, .int (zI (S 77))])), (hs, .inl (D.2 0, 8, .inl (fSt S))), (hp, .inr (2, [.ref hw, .ref hz, .ref hl0, .int (zI (S 0))])), (hw, .inl (D.2 0, 16, .inl (fC S 0))), (hz, .inl (D.2 5, 3, .inr (.inr (.inr (.inr (f3 h0 h1 h2)))))), (h0, .inl (D.2 0, 16, .inl (fC S 1))), (h1, .inl (D.2 0, 16, .inl (fC S 2))), (h2, .inl (D.2 0, 16, .inl (fC S 3))), (hl0, .inl (D.2 0, 3, .inl (fLm S)))] H locs := w.sub [3, 4, 0, 1, 2, 5, 6, 7, 8, 9, 10, 11] (by decide) rfl
      refine lv_pop hx hb dX5_setMultiplier_40 rfl ?_
      refine lv_iload_n hx hb dX5_setMultiplier_41 rfl (lv_at hl 0 rfl) ?_
      exact z_iret hx hb hr hlocks w dX5_setMultiplier_42 (by rw [show aMult S 2 v = (S 70, oMult S 2 v) from (if_pos (by omega)).trans (if_pos c16)]; exact ⟨rfl, G, wSt_mul (by omega) h16⟩)
    · skip
      refine lv_bipush (v := zI (-2)) hx hb dX5_setMultiplier_19 (by decide +kernel) ?_
      exact z_iret hx hb hr hlocks w dX5_setMultiplier_21 (by rw [show aMult S 2 v = (-2, S) from (if_pos (by omega)).trans (if_neg c16)]; exact ⟨rfl, G, rfl⟩)
  · skip
    exact absurd (show (0 : Int) ≤ 2 ∧ (2 : Int) ≤ 2 by omega) c4
set_option maxHeartbeats 6000000 in
set_option maxRecDepth 100000 in
theorem c_X5_addItem (l : Launch) (D : zD) (ho hm hg hbu hs hp hw hz h0 h1 h2 hl0 : Nat) (S : Nat → Int) (G : Nat → Int32) (B : Int) (hB : B ≤ 2000000000) (hok : OkS B S) (w0 a b c0 : Int) (hw0 : zB w0) (ha : zB a) (hb1 : zB b) (hc0 : zB c0) : zM l yX5_addItem wsX5_addItem (zR 3) zE0 D [.ref ho, .int (zI (w0)), .int (zI (a)), .int (zI (b)), .int (zI (c0))] (wSt D ho hm hg hbu hs hp hw hz h0 h1 h2 hl0 S G) (zQi D (fun r W1 => r = zI (aItem S w0 a b c0).1 ∧ ∃ G2, W1 = (wSt D ho hm hg hbu hs hp hw hz h0 h1 h2 hl0 (aItem S w0 a b c0).2 G2))) := by
  refine zM.of (cc := cX5_addItem) (maxL := 5) (ret := (some .int)) (by decide) rfl (Nat.le_of_ble_eq_true rfl) ?_
  intro p e s m below meth c A hx hb hml hown hts hr hlocks hE hnm w ls hl
  have hown : s.vm.findClass RX5 = some m.cls := hown
  have hl : lv_has ls 5 [(0, .ref ho), (1, .int (zI (w0))), (2, .int (zI (a))), (3, .int (zI (b))), (4, .int (zI (c0)))] := hl
  have f_12 : (Cond.fieldLink RX5 12 "RelaxedSteps$State" "packing" "LRelaxedSteps$Packing;").before _ s = true := hts _ (by decide +kernel)
  have f_21 : (Cond.fieldLink RX5 21 "RelaxedSteps$State" "bundle" "LRelaxedSteps$Bundle;").before _ s = true := hts _ (by decide +kernel)
  have f_84 : (Cond.fieldLink RX5 84 "RelaxedSteps$Bundle" "count" "I").before _ s = true := hts _ (by decide +kernel)
  have f_90 : (Cond.fieldLink RX5 90 "RelaxedSteps$Packing" "items" "I").before _ s = true := hts _ (by decide +kernel)
  have inX5 : ∀ w ∈ u_ws RX5 TX5 11, w ∈ wsX5_addItem := by decide +kernel
  have inX0 : ∀ w ∈ u_ws RX0 TX0 2, w ∈ wsX5_addItem := by decide +kernel
  have inX2 : ∀ w ∈ u_ws RX2 TX2 4, w ∈ wsX5_addItem := by decide +kernel
  obtain ⟨hokp, hokm, hokb, hsc, hbe⟩ := id hok
  have hn := zn_eq hokp
  have h16 := zn_le hokp
  have hlim := hokp.2.2
  have hm1 := hokm
  unfold OkM mu at hm1
  have hsw := fSw_b hok
  have hso := fSol_b hok
  have hhu := sHu_b hok
  have hbd := sBd_b hokp hokm
  have hkb := hokb.1
  have w : zW D A s.heap s [(ho, .inr (5, [.ref hp, .ref hbu, .ref hm, .ref hg, .int (zI (S 71)), .int (zI (S 72)), .int (zI (fSol S)), .int (zI (fSw S)), .int (zI (S 73)), .int (zI (S 74)), .long (zL (S 75))])), (hm, .inl (D.2 0, 3, .inl (fMu (mu S)))), (hg, .inl (D.2 0, 3, .inl (G))), (hbu, .inr (0, [.ref hs, .int (zI (S 77))])), (hs, .inl (D.2 0, 8, .inl (fSt S))), (hp, .inr (2, [.ref hw, .ref hz, .ref hl0, .int (zI (S 0))])), (hw, .inl (D.2 0, 16, .inl (fC S 0))), (hz, .inl (D.2 5, 3, .inr (.inr (.inr (.inr (f3 h0 h1 h2)))))), (h0, .inl (D.2 0, 16, .inl (fC S 1))), (h1, .inl (D.2 0, 16, .inl (fC S 2))), (h2, .inl (D.2 0, 16, .inl (fC S 3))), (hl0, .inl (D.2 0, 3, .inl (fLm S)))] s.heap [] := w
  refine lv_iload_n hx hb dX5_addItem_0 rfl (lv_at hl 1 rfl) ?_
  refine lv_iconst (v := zI 0) hx hb dX5_addItem_1 rfl ?_
  refine lv_sipush (v := zI 999) hx hb dX5_addItem_2 (by decide +kernel) ?_
  refine z_SN_i (As := [.int (zI (w0)), .int (zI (0)), .int (zI (999))]) (rest := []) (Wr := [(ho, .inr (5, [.ref hp, .ref hbu, .ref hm, .ref hg, .int (zI (S 71)), .int (zI (S 72)), .int (zI (fSol S)), .int (zI (fSw S)), .int (zI (S 73)), .int (zI (S 74)), .long (zL (S 75))])), (hm, .inl (D.2 0, 3, .inl (fMu (mu S)))), (hg, .inl (D.2 0, 3, .inl (G))), (hbu, .inr (0, [.ref hs, .int (zI (S 77))])), (hs, .inl (D.2 0, 8, .inl (fSt S))), (hp, .inr (2, [.ref hw, .ref hz, .ref hl0, .int (zI (S 0))])), (hw, .inl (D.2 0, 16, .inl (fC S 0))), (hz, .inl (D.2 5, 3, .inr (.inr (.inr (.inr (f3 h0 h1 h2)))))), (h0, .inl (D.2 0, 16, .inl (fC S 1))), (h1, .inl (D.2 0, 16, .inl (fC S 2))), (h2, .inl (D.2 0, 16, .inl (fC S 3))), (hl0, .inl (D.2 0, 3, .inl (fLm S)))]) ⟨hx, hb, hml, hown, hts⟩ (c_X6_within l D w0 0 999 (by omega) (by omega) (by omega)) ⟨va_cnB 3 hts ggX5_addItem_X6_within rfl rfl rfl (w.1.2 (RX5, 68, yX6_within, "RelaxedSteps") (by decide +kernel)) (hts (.initialized RX6) (by decide +kernel)) (by decide +kernel) ⟨Nat.le_of_ble_eq_true rfl, Nat.le_of_ble_eq_true rfl⟩, hts (.static yX6_within) (by decide +kernel), trivial⟩ w [] rfl (by decide) [0, 1, 2, 3, 4, 5, 6, 7, 8, 9, 10, 11] rfl (by decide) (by decide) rfl hl.1 rfl (lv_room (Nat.le_of_ble_eq_true rfl)) dX5_addItem_5 ⟨Nat.zero_le _, Nat.zero_le _⟩ (fun r W1 H locs hp w => ?_)
  obtain ⟨rfl, rfl⟩ := hp
  have w : zW D A s.heap s [(ho, .inr (5, [.ref hp, .ref hbu, .ref hm, .ref hg, .int (zI (S 71)), .int (zI (S 72)), .int (zI (fSol S)), .int (zI (fSw S)), .int (zI (S 73)), .int (zI (S 74)), .long (zL (S 75))])), (hm, .inl (D.2 0, 3, .inl (fMu (mu S)))), (hg, .inl (D.2 0, 3, .inl (G))), (hbu, .inr (0, [.ref hs, .int (zI (S 77))])), (hs, .inl (D.2 0, 8, .inl (fSt S))), (hp, .inr (2, [.ref hw, .ref hz, .ref hl0, .int (zI (S 0))])), (hw, .inl (D.2 0, 16, .inl (fC S 0))), (hz, .inl (D.2 5, 3, .inr (.inr (.inr (.inr (f3 h0 h1 h2)))))), (h0, .inl (D.2 0, 16, .inl (fC S 1))), (h1, .inl (D.2 0, 16, .inl (fC S 2))), (h2, .inl (D.2 0, 16, .inl (fC S 3))), (hl0, .inl (D.2 0, 3, .inl (fLm S)))] H locs := w.sub [0, 1, 2, 3, 4, 5, 6, 7, 8, 9, 10, 11] (by decide) rfl
  refine z_if_eq_b (tgt := 33) hx hb dX5_addItem_8 (by decide) (fun c8 => ?_) (fun c8 => ?_)
  · skip
    refine lv_bipush (v := zI (-2)) hx hb dX5_addItem_33 (by decide +kernel) ?_
    exact z_iret hx hb hr hlocks w dX5_addItem_35 (by rw [show aItem S w0 a b c0 = (-2, S) from if_neg (by omega)]; exact ⟨rfl, G, rfl⟩)
  · skip
    refine lv_iload_n hx hb dX5_addItem_11 rfl (lv_at hl 2 rfl) ?_
    refine z_S_i (As := [.int (zI (a))]) (rest := []) (Wr := [(ho, .inr (5, [.ref hp, .ref hbu, .ref hm, .ref hg, .int (zI (S 71)), .int (zI (S 72)), .int (zI (fSol S)), .int (zI (fSw S)), .int (zI (S 73)), .int (zI (S 74)), .long (zL (S 75))])), (hm, .inl (D.2 0, 3, .inl (fMu (mu S)))), (hg, .inl (D.2 0, 3, .inl (G))), (hbu, .inr (0, [.ref hs, .int (zI (S 77))])), (hs, .inl (D.2 0, 8, .inl (fSt S))), (hp, .inr (2, [.ref hw, .ref hz, .ref hl0, .int (zI (S 0))])), (hw, .inl (D.2 0, 16, .inl (fC S 0))), (hz, .inl (D.2 5, 3, .inr (.inr (.inr (.inr (f3 h0 h1 h2)))))), (h0, .inl (D.2 0, 16, .inl (fC S 1))), (h1, .inl (D.2 0, 16, .inl (fC S 2))), (h2, .inl (D.2 0, 16, .inl (fC S 3))), (hl0, .inl (D.2 0, 3, .inl (fLm S)))]) ⟨hx, hb, hml, hown, hts⟩ (c_X5_isSize l D a (by omega)) (va_cwS 1 hts gX5_addItem_X5_isSize rfl rfl rfl (by decide +kernel) ⟨Nat.le_of_ble_eq_true rfl, Nat.le_of_ble_eq_true rfl⟩) w [] rfl (by decide) [0, 1, 2, 3, 4, 5, 6, 7, 8, 9, 10, 11] rfl (by decide) (by decide) rfl hl.1 rfl (lv_room (Nat.le_of_ble_eq_true rfl)) dX5_addItem_12 ⟨Nat.zero_le _, Nat.zero_le _⟩ (fun r W1 H locs hp w => ?_)
    obtain ⟨rfl, rfl⟩ := hp
    have w : zW D A s.heap s [(ho, .inr (5, [.ref hp, .ref hbu, .ref hm, .ref hg, .int (zI (S 71)), .int (zI (S 72)), .int (zI (fSol S)), .int (zI (fSw S)), .int (zI (S 73)), .int (zI (S 74)), .long (zL (S 75))])), (hm, .inl (D.2 0, 3, .inl (fMu (mu S)))), (hg, .inl (D.2 0, 3, .inl (G))), (hbu, .inr (0, [.ref hs, .int (zI (S 77))])), (hs, .inl (D.2 0, 8, .inl (fSt S))), (hp, .inr (2, [.ref hw, .ref hz, .ref hl0, .int (zI (S 0))])), (hw, .inl (D.2 0, 16, .inl (fC S 0))), (hz, .inl (D.2 5, 3, .inr (.inr (.inr (.inr (f3 h0 h1 h2)))))), (h0, .inl (D.2 0, 16, .inl (fC S 1))), (h1, .inl (D.2 0, 16, .inl (fC S 2))), (h2, .inl (D.2 0, 16, .inl (fC S 3))), (hl0, .inl (D.2 0, 3, .inl (fLm S)))] H locs := w.sub [0, 1, 2, 3, 4, 5, 6, 7, 8, 9, 10, 11] (by decide) rfl
    refine z_if_eq_b (tgt := 33) hx hb dX5_addItem_15 (by decide) (fun c15 => ?_) (fun c15 => ?_)
    · skip
      refine lv_bipush (v := zI (-2)) hx hb dX5_addItem_33 (by decide +kernel) ?_
      exact z_iret hx hb hr hlocks w dX5_addItem_35 (by rw [show aItem S w0 a b c0 = (-2, S) from if_neg (by omega)]; exact ⟨rfl, G, rfl⟩)
    · skip
      refine lv_iload_n hx hb dX5_addItem_18 rfl (lv_at hl 3 rfl) ?_
      refine z_S_i (As := [.int (zI (b))]) (rest := []) (Wr := [(ho, .inr (5, [.ref hp, .ref hbu, .ref hm, .ref hg, .int (zI (S 71)), .int (zI (S 72)), .int (zI (fSol S)), .int (zI (fSw S)), .int (zI (S 73)), .int (zI (S 74)), .long (zL (S 75))])), (hm, .inl (D.2 0, 3, .inl (fMu (mu S)))), (hg, .inl (D.2 0, 3, .inl (G))), (hbu, .inr (0, [.ref hs, .int (zI (S 77))])), (hs, .inl (D.2 0, 8, .inl (fSt S))), (hp, .inr (2, [.ref hw, .ref hz, .ref hl0, .int (zI (S 0))])), (hw, .inl (D.2 0, 16, .inl (fC S 0))), (hz, .inl (D.2 5, 3, .inr (.inr (.inr (.inr (f3 h0 h1 h2)))))), (h0, .inl (D.2 0, 16, .inl (fC S 1))), (h1, .inl (D.2 0, 16, .inl (fC S 2))), (h2, .inl (D.2 0, 16, .inl (fC S 3))), (hl0, .inl (D.2 0, 3, .inl (fLm S)))]) ⟨hx, hb, hml, hown, hts⟩ (c_X5_isSize l D b (by omega)) (va_cwS 1 hts gX5_addItem_X5_isSize rfl rfl rfl (by decide +kernel) ⟨Nat.le_of_ble_eq_true rfl, Nat.le_of_ble_eq_true rfl⟩) w [] rfl (by decide) [0, 1, 2, 3, 4, 5, 6, 7, 8, 9, 10, 11] rfl (by decide) (by decide) rfl hl.1 rfl (lv_room (Nat.le_of_ble_eq_true rfl)) dX5_addItem_19 ⟨Nat.zero_le _, Nat.zero_le _⟩ (fun r W1 H locs hp w => ?_)
      obtain ⟨rfl, rfl⟩ := hp
      have w : zW D A s.heap s [(ho, .inr (5, [.ref hp, .ref hbu, .ref hm, .ref hg, .int (zI (S 71)), .int (zI (S 72)), .int (zI (fSol S)), .int (zI (fSw S)), .int (zI (S 73)), .int (zI (S 74)), .long (zL (S 75))])), (hm, .inl (D.2 0, 3, .inl (fMu (mu S)))), (hg, .inl (D.2 0, 3, .inl (G))), (hbu, .inr (0, [.ref hs, .int (zI (S 77))])), (hs, .inl (D.2 0, 8, .inl (fSt S))), (hp, .inr (2, [.ref hw, .ref hz, .ref hl0, .int (zI (S 0))])), (hw, .inl (D.2 0, 16, .inl (fC S 0))), (hz, .inl (D.2 5, 3, .inr (.inr (.inr (.inr (f3 h0 h1 h2)))))), (h0, .inl (D.2 0, 16, .inl (fC S 1))), (h1, .inl (D.2 0, 16, .inl (fC S 2))), (h2, .inl (D.2 0, 16, .inl (fC S 3))), (hl0, .inl (D.2 0, 3, .inl (fLm S)))] H locs := w.sub [0, 1, 2, 3, 4, 5, 6, 7, 8, 9, 10, 11] (by decide) rfl
      refine z_if_eq_b (tgt := 33) hx hb dX5_addItem_22 (by decide) (fun c22 => ?_) (fun c22 => ?_)
      · skip
        refine lv_bipush (v := zI (-2)) hx hb dX5_addItem_33 (by decide +kernel) ?_
        exact z_iret hx hb hr hlocks w dX5_addItem_35 (by rw [show aItem S w0 a b c0 = (-2, S) from if_neg (by omega)]; exact ⟨rfl, G, rfl⟩)
      · skip
        refine lv_iload hx hb dX5_addItem_25 (lv_at hl 4 rfl) ?_
        refine z_S_i (As := [.int (zI (c0))]) (rest := []) (Wr := [(ho, .inr (5, [.ref hp, .ref hbu, .ref hm, .ref hg, .int (zI (S 71)), .int (zI (S 72)), .int (zI (fSol S)), .int (zI (fSw S)), .int (zI (S 73)), .int (zI (S 74)), .long (zL (S 75))])), (hm, .inl (D.2 0, 3, .inl (fMu (mu S)))), (hg, .inl (D.2 0, 3, .inl (G))), (hbu, .inr (0, [.ref hs, .int (zI (S 77))])), (hs, .inl (D.2 0, 8, .inl (fSt S))), (hp, .inr (2, [.ref hw, .ref hz, .ref hl0, .int (zI (S 0))])), (hw, .inl (D.2 0, 16, .inl (fC S 0))), (hz, .inl (D.2 5, 3, .inr (.inr (.inr (.inr (f3 h0 h1 h2)))))), (h0, .inl (D.2 0, 16, .inl (fC S 1))), (h1, .inl (D.2 0, 16, .inl (fC S 2))), (h2, .inl (D.2 0, 16, .inl (fC S 3))), (hl0, .inl (D.2 0, 3, .inl (fLm S)))]) ⟨hx, hb, hml, hown, hts⟩ (c_X5_isSize l D c0 (by omega)) (va_cwS 1 hts gX5_addItem_X5_isSize rfl rfl rfl (by decide +kernel) ⟨Nat.le_of_ble_eq_true rfl, Nat.le_of_ble_eq_true rfl⟩) w [] rfl (by decide) [0, 1, 2, 3, 4, 5, 6, 7, 8, 9, 10, 11] rfl (by decide) (by decide) rfl hl.1 rfl (lv_room (Nat.le_of_ble_eq_true rfl)) dX5_addItem_27 ⟨Nat.zero_le _, Nat.zero_le _⟩ (fun r W1 H locs hp w => ?_)
        obtain ⟨rfl, rfl⟩ := hp
        have w : zW D A s.heap s [(ho, .inr (5, [.ref hp, .ref hbu, .ref hm, .ref hg, .int (zI (S 71)), .int (zI (S 72)), .int (zI (fSol S)), .int (zI (fSw S)), .int (zI (S 73)), .int (zI (S 74)), .long (zL (S 75))])), (hm, .inl (D.2 0, 3, .inl (fMu (mu S)))), (hg, .inl (D.2 0, 3, .inl (G))), (hbu, .inr (0, [.ref hs, .int (zI (S 77))])), (hs, .inl (D.2 0, 8, .inl (fSt S))), (hp, .inr (2, [.ref hw, .ref hz, .ref hl0, .int (zI (S 0))])), (hw, .inl (D.2 0, 16, .inl (fC S 0))), (hz, .inl (D.2 5, 3, .inr (.inr (.inr (.inr (f3 h0 h1 h2)))))), (h0, .inl (D.2 0, 16, .inl (fC S 1))), (h1, .inl (D.2 0, 16, .inl (fC S 2))), (h2, .inl (D.2 0, 16, .inl (fC S 3))), (hl0, .inl (D.2 0, 3, .inl (fLm S)))] H locs := w.sub [0, 1, 2, 3, 4, 5, 6, 7, 8, 9, 10, 11] (by decide) rfl
        refine z_if_ne_b (tgt := 36) hx hb dX5_addItem_30 (by decide) (fun c30 => ?_) (fun c30 => ?_)
        · skip
          refine lv_aload_n hx hb dX5_addItem_36 rfl (lv_at hl 0 rfl) ?_
          refine z_get hx hb hown hts w inX5 0 0 rfl rfl (by decide) f_12 rfl rfl dX5_addItem_37 ?_
          refine z_V_i (As := []) (rest := []) (Wr := [(ho, .inr (5, [.ref hp, .ref hbu, .ref hm, .ref hg, .int (zI (S 71)), .int (zI (S 72)), .int (zI (fSol S)), .int (zI (fSw S)), .int (zI (S 73)), .int (zI (S 74)), .long (zL (S 75))])), (hm, .inl (D.2 0, 3, .inl (fMu (mu S)))), (hg, .inl (D.2 0, 3, .inl (G))), (hbu, .inr (0, [.ref hs, .int (zI (S 77))])), (hs, .inl (D.2 0, 8, .inl (fSt S)))]) ⟨hx, hb, hml, hown, hts⟩ (c_X2_isFull l D hp hw hz h0 h1 h2 hl0 S hokp) (cwV 0 hts gX5_addItem_X2_isFull rfl rfl rfl (by decide +kernel) ⟨Nat.le_of_ble_eq_true rfl, Nat.le_of_ble_eq_true rfl⟩) w (q0 := 5) rfl rfl rfl [5, 6, 7, 8, 9, 10, 11] rfl (by decide) [0, 1, 2, 3, 4] rfl (by decide) (by decide) rfl hl.1 rfl (lv_room (Nat.le_of_ble_eq_true rfl)) dX5_addItem_40 ⟨Nat.zero_le _, Nat.zero_le _⟩ (fun r W1 H locs hp w => ?_)
          obtain ⟨rfl, rfl⟩ := hp
          have w : zW D A s.heap s [(ho, .inr (5, [.ref hp, .ref hbu, .ref hm, .ref hg, .int (zI (S 71)), .int (zI (S 72)), .int (zI (fSol S)), .int (zI (fSw S)), .int (zI (S 73)), .int (zI (S 74)), .long (zL (S 75))])), (hm, .inl (D.2 0, 3, .inl (fMu (mu S)))), (hg, .inl (D.2 0, 3, .inl (G))), (hbu, .inr (0, [.ref hs, .int (zI (S 77))])), (hs, .inl (D.2 0, 8, .inl (fSt S))), (hp, .inr (2, [.ref hw, .ref hz, .ref hl0, .int (zI (S 0))])), (hw, .inl (D.2 0, 16, .inl (fC S 0))), (hz, .inl (D.2 5, 3, .inr (.inr (.inr (.inr (f3 h0 h1 h2)))))), (h0, .inl (D.2 0, 16, .inl (fC S 1))), (h1, .inl (D.2 0, 16, .inl (fC S 2))), (h2, .inl (D.2 0, 16, .inl (fC S 3))), (hl0, .inl (D.2 0, 3, .inl (fLm S)))] H locs := w.sub [0, 1, 2, 3, 4, 5, 6, 7, 8, 9, 10, 11] (by decide) rfl
          refine z_if_eq_b (tgt := 49) hx hb dX5_addItem_43 (by decide) (fun c43 => ?_) (fun c43 => ?_)
          · skip
            refine lv_aload_n hx hb dX5_addItem_49 rfl (lv_at hl 0 rfl) ?_
            refine z_get hx hb hown hts w inX5 0 0 rfl rfl (by decide) f_12 rfl rfl dX5_addItem_50 ?_
            refine lv_iload_n hx hb dX5_addItem_53 rfl (lv_at hl 1 rfl) ?_
            refine lv_iload_n hx hb dX5_addItem_54 rfl (lv_at hl 2 rfl) ?_
            refine lv_iload_n hx hb dX5_addItem_55 rfl (lv_at hl 3 rfl) ?_
            refine lv_iload hx hb dX5_addItem_56 (lv_at hl 4 rfl) ?_
            refine z_V_v (As := [.int (zI (w0)), .int (zI (a)), .int (zI (b)), .int (zI (c0))]) (rest := []) (Wr := [(ho, .inr (5, [.ref hp, .ref hbu, .ref hm, .ref hg, .int (zI (S 71)), .int (zI (S 72)), .int (zI (fSol S)), .int (zI (fSw S)), .int (zI (S 73)), .int (zI (S 74)), .long (zL (S 75))])), (hm, .inl (D.2 0, 3, .inl (fMu (mu S)))), (hg, .inl (D.2 0, 3, .inl (G))), (hbu, .inr (0, [.ref hs, .int (zI (S 77))])), (hs, .inl (D.2 0, 8, .inl (fSt S)))]) ⟨hx, hb, hml, hown, hts⟩ (c_X2_append l D hp hw hz h0 h1 h2 hl0 S hokp w0 a b c0 (by omega)) (cwV 4 hts gX5_addItem_X2_append rfl rfl rfl (by decide +kernel) ⟨Nat.le_of_ble_eq_true rfl, Nat.le_of_ble_eq_true rfl⟩) w (q0 := 5) rfl rfl rfl [5, 6, 7, 8, 9, 10, 11] rfl (by decide) [0, 1, 2, 3, 4] rfl (by decide) (by decide) rfl hl.1 rfl (lv_room (Nat.le_of_ble_eq_true rfl)) dX5_addItem_58 ⟨Nat.zero_le _, Nat.zero_le _⟩ (fun W1 H locs hp w => ?_)
            subst hp
            have w : zW D A s.heap s [(ho, .inr (5, [.ref hp, .ref hbu, .ref hm, .ref hg, .int (zI (S 71)), .int (zI (S 72)), .int (zI (fSol S)), .int (zI (fSw S)), .int (zI (S 73)), .int (zI (S 74)), .long (zL (S 75))])), (hm, .inl (D.2 0, 3, .inl (fMu (mu S)))), (hg, .inl (D.2 0, 3, .inl (G))), (hbu, .inr (0, [.ref hs, .int (zI (S 77))])), (hs, .inl (D.2 0, 8, .inl (fSt S))), (hp, .inr (2, [.ref hw, .ref hz, .ref hl0, .int (zI ((sAp S w0 a b c0) 0))])), (hw, .inl (D.2 0, 16, .inl (fC (sAp S w0 a b c0) 0))), (hz, .inl (D.2 5, 3, .inr (.inr (.inr (.inr (f3 h0 h1 h2)))))), (h0, .inl (D.2 0, 16, .inl (fC (sAp S w0 a b c0) 1))), (h1, .inl (D.2 0, 16, .inl (fC (sAp S w0 a b c0) 2))), (h2, .inl (D.2 0, 16, .inl (fC (sAp S w0 a b c0) 3))), (hl0, .inl (D.2 0, 3, .inl (fLm (sAp S w0 a b c0))))] H locs := w.sub [0, 1, 2, 3, 4, 5, 6, 7, 8, 9, 10, 11] (by decide) rfl
            refine lv_aload_n hx hb dX5_addItem_61 rfl (lv_at hl 0 rfl) ?_
            refine z_get hx hb hown hts w inX5 0 1 rfl rfl (by decide) f_21 rfl rfl dX5_addItem_62 ?_
            refine lv_iconst (v := zI 0) hx hb dX5_addItem_65 rfl ?_
            refine z_put hx hb hown hts w inX0 tyX0 tyX0_ok nmX0 3 1 rfl rfl (by decide) f_84 rfl rfl (ty := .int) rfl rfl rfl (Nat.le_of_ble_eq_true rfl) dX5_addItem_66 (fun H locs w => ?_)
            have w : zW D A s.heap s [(ho, .inr (5, [.ref hp, .ref hbu, .ref hm, .ref hg, .int (zI (S 71)), .int (zI (S 72)), .int (zI (fSol S)), .int (zI (fSw S)), .int (zI (S 73)), .int (zI (S 74)), .long (zL (S 75))])), (hm, .inl (D.2 0, 3, .inl (fMu (mu S)))), (hg, .inl (D.2 0, 3, .inl (G))), (hbu, .inr (0, [.ref hs, .int (zI (0))])), (hs, .inl (D.2 0, 8, .inl (fSt S))), (hp, .inr (2, [.ref hw, .ref hz, .ref hl0, .int (zI ((sAp S w0 a b c0) 0))])), (hw, .inl (D.2 0, 16, .inl (fC (sAp S w0 a b c0) 0))), (hz, .inl (D.2 5, 3, .inr (.inr (.inr (.inr (f3 h0 h1 h2)))))), (h0, .inl (D.2 0, 16, .inl (fC (sAp S w0 a b c0) 1))), (h1, .inl (D.2 0, 16, .inl (fC (sAp S w0 a b c0) 2))), (h2, .inl (D.2 0, 16, .inl (fC (sAp S w0 a b c0) 3))), (hl0, .inl (D.2 0, 3, .inl (fLm (sAp S w0 a b c0))))] H locs := w
            refine lv_aload_n hx hb dX5_addItem_69 rfl (lv_at hl 0 rfl) ?_
            have hok2 : OkP (sAp S w0 a b c0) := OkP_ap hokp (by omega) (by omega)
            refine z_V_v (As := []) (rest := []) (Wr := [(hg, .inl (D.2 0, 3, .inl (G))), (hbu, .inr (0, [.ref hs, .int (zI (0))])), (hs, .inl (D.2 0, 8, .inl (fSt S)))]) ⟨hx, hb, hml, hown, hts⟩ (c_X5_forget l D ho hm hp hw hz h0 h1 h2 hl0 hbu hg (sAp S w0 a b c0) (mu S) (S 71) (S 72) (fSol S) (fSw S) (S 73) (S 74) (S 75) hok2 hokm) (cwV 0 hts gX5_addItem_X5_forget rfl rfl rfl (by decide +kernel) ⟨Nat.le_of_ble_eq_true rfl, Nat.le_of_ble_eq_true rfl⟩) w (q0 := 0) rfl rfl rfl [0, 1, 5, 6, 7, 8, 9, 10, 11] rfl (by decide) [2, 3, 4] rfl (by decide) (by decide) rfl hl.1 rfl (lv_room (Nat.le_of_ble_eq_true rfl)) dX5_addItem_70 ⟨Nat.zero_le _, Nat.zero_le _⟩ (fun W1 H locs hp w => ?_)
            subst hp
            have w : zW D A s.heap s [(ho, .inr (5, [.ref hp, .ref hbu, .ref hm, .ref hg, .int (zI (S 71)), .int (zI (S 72)), .int (zI (0)), .int (zI (-6)), .int (zI (0)), .int (zI (S 74)), .long (zL (sBd (sAp S w0 a b c0) (mu S)))])), (hm, .inl (D.2 0, 3, .inl (fMu (mu S)))), (hg, .inl (D.2 0, 3, .inl (G))), (hbu, .inr (0, [.ref hs, .int (zI (0))])), (hs, .inl (D.2 0, 8, .inl (fSt S))), (hp, .inr (2, [.ref hw, .ref hz, .ref hl0, .int (zI ((sAp S w0 a b c0) 0))])), (hw, .inl (D.2 0, 16, .inl (fC (sAp S w0 a b c0) 0))), (hz, .inl (D.2 5, 3, .inr (.inr (.inr (.inr (f3 h0 h1 h2)))))), (h0, .inl (D.2 0, 16, .inl (fC (sAp S w0 a b c0) 1))), (h1, .inl (D.2 0, 16, .inl (fC (sAp S w0 a b c0) 2))), (h2, .inl (D.2 0, 16, .inl (fC (sAp S w0 a b c0) 3))), (hl0, .inl (D.2 0, 3, .inl (fLm (sAp S w0 a b c0))))] H locs := w.sub [3, 4, 0, 1, 2, 5, 6, 7, 8, 9, 10, 11] (by decide) rfl
            refine lv_aload_n hx hb dX5_addItem_73 rfl (lv_at hl 0 rfl) ?_
            refine z_get hx hb hown hts w inX5 0 0 rfl rfl (by decide) f_12 rfl rfl dX5_addItem_74 ?_
            refine z_get hx hb hown hts w inX2 5 3 rfl rfl (by decide) f_90 rfl rfl dX5_addItem_77 ?_
            refine lv_iconst (v := zI 1) hx hb dX5_addItem_80 rfl ?_
            refine z_isub hx hb dX5_addItem_81 ?_
            exact z_iret hx hb hr hlocks w dX5_addItem_82 (by rw [show aItem S w0 a b c0 = (S 0, oItem S w0 a b c0) from (if_pos (by omega)).trans (if_neg c43)]; exact ⟨by congr 1; show S 0 + 1 - 1 = S 0; omega, G, wSt_item (by omega)⟩)
          · skip
            refine lv_bipush (v := zI (-4)) hx hb dX5_addItem_46 (by decide +kernel) ?_
            exact z_iret hx hb hr hlocks w dX5_addItem_48 (by rw [show aItem S w0 a b c0 = (-4, S) from (if_pos (by omega)).trans (if_pos c43)]; exact ⟨rfl, G, rfl⟩)
        · skip
          refine lv_bipush (v := zI (-2)) hx hb dX5_addItem_33 (by decide +kernel) ?_
          exact z_iret hx hb hr hlocks w dX5_addItem_35 (by rw [show aItem S w0 a b c0 = (-2, S) from if_neg (by omega)]; exact ⟨rfl, G, rfl⟩)
set_option maxHeartbeats 6000000 in
set_option maxRecDepth 100000 in
theorem c_X5_removeItem (l : Launch) (D : zD) (ho hm hg hbu hs hp hw hz h0 h1 h2 hl0 : Nat) (S : Nat → Int) (G : Nat → Int32) (B : Int) (hB : B ≤ 2000000000) (hok : OkS B S) (i0 : Int) (hi0z : zB i0) : zM l yX5_removeItem wsX5_removeItem (zR 3) zE0 D [.ref ho, .int (zI (i0))] (wSt D ho hm hg hbu hs hp hw hz h0 h1 h2 hl0 S G) (zQi D (fun r W1 => r = zI (aDrop S i0).1 ∧ ∃ G2, W1 = (wSt D ho hm hg hbu hs hp hw hz h0 h1 h2 hl0 (aDrop S i0).2 G2))) := by
  refine zM.of (cc := cX5_removeItem) (maxL := 2) (ret := (some .int)) (by decide) rfl (Nat.le_of_ble_eq_true rfl) ?_
  intro p e s m below meth c A hx hb hml hown hts hr hlocks hE hnm w ls hl
  have hown : s.vm.findClass RX5 = some m.cls := hown
  have hl : lv_has ls 2 [(0, .ref ho), (1, .int (zI (i0)))] := hl
  have f_12 : (Cond.fieldLink RX5 12 "RelaxedSteps$State" "packing" "LRelaxedSteps$Packing;").before _ s = true := hts _ (by decide +kernel)
  have f_21 : (Cond.fieldLink RX5 21 "RelaxedSteps$State" "bundle" "LRelaxedSteps$Bundle;").before _ s = true := hts _ (by decide +kernel)
  have f_84 : (Cond.fieldLink RX5 84 "RelaxedSteps$Bundle" "count" "I").before _ s = true := hts _ (by decide +kernel)
  have f_90 : (Cond.fieldLink RX5 90 "RelaxedSteps$Packing" "items" "I").before _ s = true := hts _ (by decide +kernel)
  have inX5 : ∀ w ∈ u_ws RX5 TX5 11, w ∈ wsX5_removeItem := by decide +kernel
  have inX0 : ∀ w ∈ u_ws RX0 TX0 2, w ∈ wsX5_removeItem := by decide +kernel
  have inX2 : ∀ w ∈ u_ws RX2 TX2 4, w ∈ wsX5_removeItem := by decide +kernel
  obtain ⟨hokp, hokm, hokb, hsc, hbe⟩ := id hok
  have hn := zn_eq hokp
  have h16 := zn_le hokp
  have hlim := hokp.2.2
  have hm1 := hokm
  unfold OkM mu at hm1
  have hsw := fSw_b hok
  have hso := fSol_b hok
  have hhu := sHu_b hok
  have hbd := sBd_b hokp hokm
  have hkb := hokb.1
  have w : zW D A s.heap s [(ho, .inr (5, [.ref hp, .ref hbu, .ref hm, .ref hg, .int (zI (S 71)), .int (zI (S 72)), .int (zI (fSol S)), .int (zI (fSw S)), .int (zI (S 73)), .int (zI (S 74)), .long (zL (S 75))])), (hm, .inl (D.2 0, 3, .inl (fMu (mu S)))), (hg, .inl (D.2 0, 3, .inl (G))), (hbu, .inr (0, [.ref hs, .int (zI (S 77))])), (hs, .inl (D.2 0, 8, .inl (fSt S))), (hp, .inr (2, [.ref hw, .ref hz, .ref hl0, .int (zI (S 0))])), (hw, .inl (D.2 0, 16, .inl (fC S 0))), (hz, .inl (D.2 5, 3, .inr (.inr (.inr (.inr (f3 h0 h1 h2)))))), (h0, .inl (D.2 0, 16, .inl (fC S 1))), (h1, .inl (D.2 0, 16, .inl (fC S 2))), (h2, .inl (D.2 0, 16, .inl (fC S 3))), (hl0, .inl (D.2 0, 3, .inl (fLm S)))] s.heap [] := w
  refine lv_aload_n hx hb dX5_removeItem_0 rfl (lv_at hl 0 rfl) ?_
  refine z_get hx hb hown hts w inX5 0 0 rfl rfl (by decide) f_12 rfl rfl dX5_removeItem_1 ?_
  refine lv_iload_n hx hb dX5_removeItem_4 rfl (lv_at hl 1 rfl) ?_
  refine z_V_i (As := [.int (zI (i0))]) (rest := []) (Wr := [(ho, .inr (5, [.ref hp, .ref hbu, .ref hm, .ref hg, .int (zI (S 71)), .int (zI (S 72)), .int (zI (fSol S)), .int (zI (fSw S)), .int (zI (S 73)), .int (zI (S 74)), .long (zL (S 75))])), (hm, .inl (D.2 0, 3, .inl (fMu (mu S)))), (hg, .inl (D.2 0, 3, .inl (G))), (hbu, .inr (0, [.ref hs, .int (zI (S 77))])), (hs, .inl (D.2 0, 8, .inl (fSt S)))]) ⟨hx, hb, hml, hown, hts⟩ (c_X2_has l D hp hw hz h0 h1 h2 hl0 S hokp i0 (by omega)) (cwV 1 hts gX5_removeItem_X2_has rfl rfl rfl (by decide +kernel) ⟨Nat.le_of_ble_eq_true rfl, Nat.le_of_ble_eq_true rfl⟩) w (q0 := 5) rfl rfl rfl [5, 6, 7, 8, 9, 10, 11] rfl (by decide) [0, 1, 2, 3, 4] rfl (by decide) (by decide) rfl hl.1 rfl (lv_room (Nat.le_of_ble_eq_true rfl)) dX5_removeItem_5 ⟨Nat.zero_le _, Nat.zero_le _⟩ (fun r W1 H locs hp w => ?_)
  obtain ⟨rfl, rfl⟩ := hp
  have w : zW D A s.heap s [(ho, .inr (5, [.ref hp, .ref hbu, .ref hm, .ref hg, .int (zI (S 71)), .int (zI (S 72)), .int (zI (fSol S)), .int (zI (fSw S)), .int (zI (S 73)), .int (zI (S 74)), .long (zL (S 75))])), (hm, .inl (D.2 0, 3, .inl (fMu (mu S)))), (hg, .inl (D.2 0, 3, .inl (G))), (hbu, .inr (0, [.ref hs, .int (zI (S 77))])), (hs, .inl (D.2 0, 8, .inl (fSt S))), (hp, .inr (2, [.ref hw, .ref hz, .ref hl0, .int (zI (S 0))])), (hw, .inl (D.2 0, 16, .inl (fC S 0))), (hz, .inl (D.2 5, 3, .inr (.inr (.inr (.inr (f3 h0 h1 h2)))))), (h0, .inl (D.2 0, 16, .inl (fC S 1))), (h1, .inl (D.2 0, 16, .inl (fC S 2))), (h2, .inl (D.2 0, 16, .inl (fC S 3))), (hl0, .inl (D.2 0, 3, .inl (fLm S)))] H locs := w.sub [0, 1, 2, 3, 4, 5, 6, 7, 8, 9, 10, 11] (by decide) rfl
  refine z_if_ne_b (tgt := 13) hx hb dX5_removeItem_8 (by decide) (fun c8 => ?_) (fun c8 => ?_)
  · skip
    refine lv_aload_n hx hb dX5_removeItem_13 rfl (lv_at hl 0 rfl) ?_
    refine z_get hx hb hown hts w inX5 0 0 rfl rfl (by decide) f_12 rfl rfl dX5_removeItem_14 ?_
    refine lv_iload_n hx hb dX5_removeItem_17 rfl (lv_at hl 1 rfl) ?_
    have hi0 : 0 ≤ i0 := (by omega)
    refine W.eq (g2 := F0 m 18 ls [.int (zI (((i0.toNat : Nat) : Int))), .ref hp]) (by rw [Int.toNat_of_nonneg hi0]) ?_
    refine z_V_v (As := [.int (zI (((i0.toNat : Nat) : Int)))]) (rest := []) (Wr := [(ho, .inr (5, [.ref hp, .ref hbu, .ref hm, .ref hg, .int (zI (S 71)), .int (zI (S 72)), .int (zI (fSol S)), .int (zI (fSw S)), .int (zI (S 73)), .int (zI (S 74)), .long (zL (S 75))])), (hm, .inl (D.2 0, 3, .inl (fMu (mu S)))), (hg, .inl (D.2 0, 3, .inl (G))), (hbu, .inr (0, [.ref hs, .int (zI (S 77))])), (hs, .inl (D.2 0, 8, .inl (fSt S)))]) ⟨hx, hb, hml, hown, hts⟩ (c_X2_remove l D hp hw hz h0 h1 h2 hl0 S hokp i0.toNat (by omega)) (cwV 1 hts gX5_removeItem_X2_remove rfl rfl rfl (by decide +kernel) ⟨Nat.le_of_ble_eq_true rfl, Nat.le_of_ble_eq_true rfl⟩) w (q0 := 5) rfl rfl rfl [5, 6, 7, 8, 9, 10, 11] rfl (by decide) [0, 1, 2, 3, 4] rfl (by decide) (by decide) rfl hl.1 rfl (lv_room (Nat.le_of_ble_eq_true rfl)) dX5_removeItem_18 ⟨Nat.zero_le _, Nat.zero_le _⟩ (fun W1 H locs hp w => ?_)
    subst hp
    have w : zW D A s.heap s [(ho, .inr (5, [.ref hp, .ref hbu, .ref hm, .ref hg, .int (zI (S 71)), .int (zI (S 72)), .int (zI (fSol S)), .int (zI (fSw S)), .int (zI (S 73)), .int (zI (S 74)), .long (zL (S 75))])), (hm, .inl (D.2 0, 3, .inl (fMu (mu S)))), (hg, .inl (D.2 0, 3, .inl (G))), (hbu, .inr (0, [.ref hs, .int (zI (S 77))])), (hs, .inl (D.2 0, 8, .inl (fSt S))), (hp, .inr (2, [.ref hw, .ref hz, .ref hl0, .int (zI ((sRm S i0.toNat) 0))])), (hw, .inl (D.2 0, 16, .inl (fC (sRm S i0.toNat) 0))), (hz, .inl (D.2 5, 3, .inr (.inr (.inr (.inr (f3 h0 h1 h2)))))), (h0, .inl (D.2 0, 16, .inl (fC (sRm S i0.toNat) 1))), (h1, .inl (D.2 0, 16, .inl (fC (sRm S i0.toNat) 2))), (h2, .inl (D.2 0, 16, .inl (fC (sRm S i0.toNat) 3))), (hl0, .inl (D.2 0, 3, .inl (fLm (sRm S i0.toNat))))] H locs := w.sub [0, 1, 2, 3, 4, 5, 6, 7, 8, 9, 10, 11] (by decide) rfl
    refine lv_aload_n hx hb dX5_removeItem_21 rfl (lv_at hl 0 rfl) ?_
    refine z_get hx hb hown hts w inX5 0 1 rfl rfl (by decide) f_21 rfl rfl dX5_removeItem_22 ?_
    refine lv_iconst (v := zI 0) hx hb dX5_removeItem_25 rfl ?_
    refine z_put hx hb hown hts w inX0 tyX0 tyX0_ok nmX0 3 1 rfl rfl (by decide) f_84 rfl rfl (ty := .int) rfl rfl rfl (Nat.le_of_ble_eq_true rfl) dX5_removeItem_26 (fun H locs w => ?_)
    have w : zW D A s.heap s [(ho, .inr (5, [.ref hp, .ref hbu, .ref hm, .ref hg, .int (zI (S 71)), .int (zI (S 72)), .int (zI (fSol S)), .int (zI (fSw S)), .int (zI (S 73)), .int (zI (S 74)), .long (zL (S 75))])), (hm, .inl (D.2 0, 3, .inl (fMu (mu S)))), (hg, .inl (D.2 0, 3, .inl (G))), (hbu, .inr (0, [.ref hs, .int (zI (0))])), (hs, .inl (D.2 0, 8, .inl (fSt S))), (hp, .inr (2, [.ref hw, .ref hz, .ref hl0, .int (zI ((sRm S i0.toNat) 0))])), (hw, .inl (D.2 0, 16, .inl (fC (sRm S i0.toNat) 0))), (hz, .inl (D.2 5, 3, .inr (.inr (.inr (.inr (f3 h0 h1 h2)))))), (h0, .inl (D.2 0, 16, .inl (fC (sRm S i0.toNat) 1))), (h1, .inl (D.2 0, 16, .inl (fC (sRm S i0.toNat) 2))), (h2, .inl (D.2 0, 16, .inl (fC (sRm S i0.toNat) 3))), (hl0, .inl (D.2 0, 3, .inl (fLm (sRm S i0.toNat))))] H locs := w
    refine lv_aload_n hx hb dX5_removeItem_29 rfl (lv_at hl 0 rfl) ?_
    have hok2 : OkP (sRm S i0.toNat) := OkP_rm hokp (by omega)
    refine z_V_v (As := []) (rest := []) (Wr := [(hg, .inl (D.2 0, 3, .inl (G))), (hbu, .inr (0, [.ref hs, .int (zI (0))])), (hs, .inl (D.2 0, 8, .inl (fSt S)))]) ⟨hx, hb, hml, hown, hts⟩ (c_X5_forget l D ho hm hp hw hz h0 h1 h2 hl0 hbu hg (sRm S i0.toNat) (mu S) (S 71) (S 72) (fSol S) (fSw S) (S 73) (S 74) (S 75) hok2 hokm) (cwV 0 hts gX5_removeItem_X5_forget rfl rfl rfl (by decide +kernel) ⟨Nat.le_of_ble_eq_true rfl, Nat.le_of_ble_eq_true rfl⟩) w (q0 := 0) rfl rfl rfl [0, 1, 5, 6, 7, 8, 9, 10, 11] rfl (by decide) [2, 3, 4] rfl (by decide) (by decide) rfl hl.1 rfl (lv_room (Nat.le_of_ble_eq_true rfl)) dX5_removeItem_30 ⟨Nat.zero_le _, Nat.zero_le _⟩ (fun W1 H locs hp w => ?_)
    subst hp
    have w : zW D A s.heap s [(ho, .inr (5, [.ref hp, .ref hbu, .ref hm, .ref hg, .int (zI (S 71)), .int (zI (S 72)), .int (zI (0)), .int (zI (-6)), .int (zI (0)), .int (zI (S 74)), .long (zL (sBd (sRm S i0.toNat) (mu S)))])), (hm, .inl (D.2 0, 3, .inl (fMu (mu S)))), (hg, .inl (D.2 0, 3, .inl (G))), (hbu, .inr (0, [.ref hs, .int (zI (0))])), (hs, .inl (D.2 0, 8, .inl (fSt S))), (hp, .inr (2, [.ref hw, .ref hz, .ref hl0, .int (zI ((sRm S i0.toNat) 0))])), (hw, .inl (D.2 0, 16, .inl (fC (sRm S i0.toNat) 0))), (hz, .inl (D.2 5, 3, .inr (.inr (.inr (.inr (f3 h0 h1 h2)))))), (h0, .inl (D.2 0, 16, .inl (fC (sRm S i0.toNat) 1))), (h1, .inl (D.2 0, 16, .inl (fC (sRm S i0.toNat) 2))), (h2, .inl (D.2 0, 16, .inl (fC (sRm S i0.toNat) 3))), (hl0, .inl (D.2 0, 3, .inl (fLm (sRm S i0.toNat))))] H locs := w.sub [3, 4, 0, 1, 2, 5, 6, 7, 8, 9, 10, 11] (by decide) rfl
    refine lv_aload_n hx hb dX5_removeItem_33 rfl (lv_at hl 0 rfl) ?_
    refine z_get hx hb hown hts w inX5 0 0 rfl rfl (by decide) f_12 rfl rfl dX5_removeItem_34 ?_
    refine z_get hx hb hown hts w inX2 5 3 rfl rfl (by decide) f_90 rfl rfl dX5_removeItem_37 ?_
    exact z_iret hx hb hr hlocks w dX5_removeItem_40 (by rw [show aDrop S i0 = (S 0 - 1, oDrop S i0.toNat) from if_pos c8]; exact ⟨rfl, G, wSt_drop h16⟩)
  · skip
    refine lv_iconst (v := zI (-1)) hx hb dX5_removeItem_11 rfl ?_
    exact z_iret hx hb hr hlocks w dX5_removeItem_12 (by rw [show aDrop S i0 = (-1, S) from if_neg c8]; exact ⟨rfl, G, rfl⟩)
