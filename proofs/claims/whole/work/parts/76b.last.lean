set_option maxHeartbeats 6000000 in
set_option maxRecDepth 100000 in
theorem c_X6_fault (l : Launch) (D : zD) (adK adV : Nat → Nat) (hxo ho hh hsa hsv hpd9 hse hmt htx hnu : Nat) (pl a kk rd : Nat) (T : Nat → Nat) (Q : Nat → Int) (hT : OkT T pl) (hQB : QB Q) : zM l yX6_fault wsX6_fault (zR (7)) (zES adK adV [(hxo, .inr (6, [.ref ho, .ref hh, .ref hsa, .ref hsv, .ref hpd9, .ref hse, .ref hmt])), (hpd9, .inr (3, [.ref htx, .int (zI (((pl : Nat) : Int))), .int (zI (((a : Nat) : Int))), .int (zI (((kk : Nat) : Int))), .ref hnu, .int (zI (((rd : Nat) : Int)))])), (htx, .inl (D.2 2, 80, .inl (fT T))), (hnu, .inl (D.2 0, 4, .inl (fQ Q)))]) D [.ref hxo] [(hxo, .inr (6, [.ref ho, .ref hh, .ref hsa, .ref hsv, .ref hpd9, .ref hse, .ref hmt])), (hpd9, .inr (3, [.ref htx, .int (zI (((pl : Nat) : Int))), .int (zI (((a : Nat) : Int))), .int (zI (((kk : Nat) : Int))), .ref hnu, .int (zI (((rd : Nat) : Int)))])), (htx, .inl (D.2 2, 80, .inl (fT T))), (hnu, .inl (D.2 0, 4, .inl (fQ Q)))] (zQi D (fun r W1 => r = zI (tF T pl) ∧ ∃ a2 k2 r2 Q2, a2 ≤ pl ∧ QB Q2 ∧ W1 = [(hxo, .inr (6, [.ref ho, .ref hh, .ref hsa, .ref hsv, .ref hpd9, .ref hse, .ref hmt])), (hpd9, .inr (3, [.ref htx, .int (zI (((pl : Nat) : Int))), .int (zI (((a2 : Nat) : Int))), .int (zI (((k2 : Nat) : Int))), .ref hnu, .int (zI (((r2 : Nat) : Int)))])), (htx, .inl (D.2 2, 80, .inl (fT T))), (hnu, .inl (D.2 0, 4, .inl (fQ Q2)))])) := by
  refine zM.ofS (cc := cX6_fault) (maxL := 1) (ret := (some .int)) (by decide) rfl (Nat.le_of_ble_eq_true rfl) ?_
  intro p e s m below meth c A hx hb hml hown hts hr hlocks hT0 hnm w ls hl
  have hown : s.vm.findClass RX6 = some m.cls := hown
  have hl : lv_has ls 1 [(0, .ref hxo)] := hl
  have f_34 : (Cond.fieldLink RX6 34 "RelaxedSteps" "pad" "LRelaxedSteps$Pad;").before _ s = true := hts _ (by decide +kernel)
  have inX6 : ∀ w ∈ u_ws RX6 TX6 7, w ∈ wsX6_fault := by decide +kernel
  have hpl := hT.1
  have w : zW D A s.heap s [(hxo, .inr (6, [.ref ho, .ref hh, .ref hsa, .ref hsv, .ref hpd9, .ref hse, .ref hmt])), (hpd9, .inr (3, [.ref htx, .int (zI (((pl : Nat) : Int))), .int (zI (((a : Nat) : Int))), .int (zI (((kk : Nat) : Int))), .ref hnu, .int (zI (((rd : Nat) : Int)))])), (htx, .inl (D.2 2, 80, .inl (fT T))), (hnu, .inl (D.2 0, 4, .inl (fQ Q)))] s.heap [] := w
  refine lv_aload_n hx hb dX6_fault_0 rfl (lv_at hl 0 rfl) ?_
  refine z_get hx hb hown hts w inX6 0 4 rfl rfl (by decide) f_34 rfl rfl dX6_fault_1 ?_
  refine z_fin_i (Wr := [(hxo, .inr (6, [.ref ho, .ref hh, .ref hsa, .ref hsv, .ref hpd9, .ref hse, .ref hmt]))]) (zRunV (As := []) (rest := []) ⟨hx, hb, hml, hown, hts⟩ (c_X3_firstFault l D adK adV hpd9 htx hnu pl a kk rd T Q hT hQB) (cwV 0 hts gX6_fault_X3_firstFault rfl rfl rfl (by decide +kernel) ⟨Nat.le_of_ble_eq_true rfl, Nat.le_of_ble_eq_true rfl⟩) w zES_b (zES_h hT0 w [1, 2, 3] rfl (by decide)) (q0 := 1) rfl rfl rfl [1, 2, 3] rfl (by decide) rfl hl.1 rfl (lv_room (Nat.le_of_ble_eq_true rfl)) dX6_fault_4 ⟨Nat.zero_le _, Nat.zero_le _⟩) w [1, 2, 3] rfl [0] rfl (by decide) (by decide) (fun r W1 H locs hp w => ?_)
  obtain ⟨rfl, a2, k2, r2, Q2, hap2, hQB2, rfl⟩ := hp
  have w : zW D A s.heap s [(hxo, .inr (6, [.ref ho, .ref hh, .ref hsa, .ref hsv, .ref hpd9, .ref hse, .ref hmt])), (hpd9, .inr (3, [.ref htx, .int (zI (((pl : Nat) : Int))), .int (zI (((a2 : Nat) : Int))), .int (zI (((k2 : Nat) : Int))), .ref hnu, .int (zI (((r2 : Nat) : Int)))])), (htx, .inl (D.2 2, 80, .inl (fT T))), (hnu, .inl (D.2 0, 4, .inl (fQ Q2)))] H locs := w.sub [0, 1, 2, 3] (by decide) rfl
  exact z_iret hx hb hr hlocks w dX6_fault_7 ⟨rfl, a2, k2, r2, Q2, hap2, hQB2, rfl⟩
set_option maxHeartbeats 6000000 in
set_option maxRecDepth 100000 in
theorem c_X7_fault (l : Launch) (D : zD) (hmo ha hth hpa hsl hhe hpd hor c9 : Nat) (pl a od : Nat) (T : Nat → Nat) (Q : Nat → Int) (hT : OkT T pl) (hQB : QB Q) : zM l yX7_fault wsX7_fault (zR (5)) zE0 D [.ref hmo] [(hmo, .inr (7, [.ref ha, .ref hth, .ref hpa, .int (zI (((c9 : Nat) : Int))), .ref hsl, .ref hhe, .ref hpd, .int (zI (((pl : Nat) : Int))), .int (zI (((a : Nat) : Int))), .ref hor, .int (zI (((od : Nat) : Int)))])), (hpd, .inl (D.2 0, 80, .inl (fT T))), (hor, .inl (D.2 0, 205, .inl (fQ Q)))] (zQi D (fun r W1 => r = zI (tF T pl) ∧ ∃ a2 o2 Q2, QB Q2 ∧ W1 = [(hmo, .inr (7, [.ref ha, .ref hth, .ref hpa, .int (zI (((c9 : Nat) : Int))), .ref hsl, .ref hhe, .ref hpd, .int (zI (((pl : Nat) : Int))), .int (zI (((a2 : Nat) : Int))), .ref hor, .int (zI (((o2 : Nat) : Int)))])), (hpd, .inl (D.2 0, 80, .inl (fT T))), (hor, .inl (D.2 0, 205, .inl (fQ Q2)))])) := by
  refine zM.of (cc := cX7_fault) (maxL := 1) (ret := (some .int)) (by decide) rfl (Nat.le_of_ble_eq_true rfl) ?_
  intro p e s m below meth c A hx hb hml hown hts hr hlocks hE hnm w ls hl
  have hown : s.vm.findClass RX7 = some m.cls := hown
  have hl : lv_has ls 1 [(0, .ref hmo)] := hl
  have f_176 : (Cond.fieldLink RX7 176 "RelaxedStepsModel" "at" "I").before _ s = true := hts _ (by decide +kernel)
  have inX7 : ∀ w ∈ u_ws RX7 TX7 11, w ∈ wsX7_fault := by decide +kernel
  have hpl := hT.1
  have w : zW D A s.heap s [(hmo, .inr (7, [.ref ha, .ref hth, .ref hpa, .int (zI (((c9 : Nat) : Int))), .ref hsl, .ref hhe, .ref hpd, .int (zI (((pl : Nat) : Int))), .int (zI (((a : Nat) : Int))), .ref hor, .int (zI (((od : Nat) : Int)))])), (hpd, .inl (D.2 0, 80, .inl (fT T))), (hor, .inl (D.2 0, 205, .inl (fQ Q)))] s.heap [] := w
  refine lv_aload_n hx hb dX7_fault_0 rfl (lv_at hl 0 rfl) ?_
  refine z_V_i (As := []) (rest := []) (Wr := []) ⟨hx, hb, hml, hown, hts⟩ (c_X7_isText l D hmo ha hth hpa hsl hhe hpd hor c9 pl a od T Q hT hQB) (cwV 0 hts gX7_fault_X7_isText rfl rfl rfl (by decide +kernel) ⟨Nat.le_of_ble_eq_true rfl, Nat.le_of_ble_eq_true rfl⟩) w (q0 := 0) rfl rfl rfl [0, 1, 2] rfl (by decide) [] rfl (by decide) (by decide) rfl hl.1 rfl (lv_room (Nat.le_of_ble_eq_true rfl)) dX7_fault_1 ⟨Nat.zero_le _, Nat.zero_le _⟩ (fun r W1 H locs hp w => ?_)
  obtain ⟨rfl, o2, Q2, hQB2, hall, rfl⟩ := hp
  have w : zW D A s.heap s [(hmo, .inr (7, [.ref ha, .ref hth, .ref hpa, .int (zI (((c9 : Nat) : Int))), .ref hsl, .ref hhe, .ref hpd, .int (zI (((pl : Nat) : Int))), .int (zI ((((tP T pl (pl + 1) 0).2 : Nat) : Int))), .ref hor, .int (zI (((o2 : Nat) : Int)))])), (hpd, .inl (D.2 0, 80, .inl (fT T))), (hor, .inl (D.2 0, 205, .inl (fQ Q2)))] H locs := w.sub [0, 1, 2] (by decide) rfl
  refine z_if_eq_b (tgt := 12) hx hb dX7_fault_4 (by decide) (fun c4 => ?_) (fun c4 => ?_)
  · skip
    refine lv_aload_n hx hb dX7_fault_12 rfl (lv_at hl 0 rfl) ?_
    refine z_get hx hb hown hts w inX7 0 8 rfl rfl (by decide) f_176 rfl rfl dX7_fault_13 ?_
    exact z_iret hx hb hr hlocks w dX7_fault_16 ⟨by unfold tF; first | rw [if_pos c4] | rw [if_neg c4], (tP T pl (pl + 1) 0).2, o2, Q2, hQB2, rfl⟩
  · skip
    refine lv_bipush (v := zI (-6)) hx hb dX7_fault_7 (by decide +kernel) ?_
    refine lv_goto (tgt := 16) hx hb dX7_fault_9 (by decide) ?_
    exact z_iret hx hb hr hlocks w dX7_fault_16 ⟨by unfold tF; first | rw [if_pos c4] | rw [if_neg c4], (tP T pl (pl + 1) 0).2, o2, Q2, hQB2, rfl⟩
theorem c_X6_ofDimension (l : Launch) (D : zD) (hxo ho hm hg hbu hs hp hw hz h0 h1 h2 hl0 hh hsa hsv hpd9 hse hmt : Nat) (S : Nat → Int) (G : Nat → Int32) (B : Int) (hB : B ≤ 1900000000) (hok : OkS B S) (d0 what : Int) (hd0 : zB d0) (hw0 : zB what) : zM l yX6_ofDimension wsX6_ofDimension (zR 5) zE0 D [.ref hxo, .int (zI d0), .int (zI what)] ((hxo, .inr (6, [.ref ho, .ref hh, .ref hsa, .ref hsv, .ref hpd9, .ref hse, .ref hmt])) :: (wSt D ho hm hg hbu hs hp hw hz h0 h1 h2 hl0 S G)) (zQi D (fun r W1 => r = zI (qDim S d0 what) ∧ W1 = ((hxo, .inr (6, [.ref ho, .ref hh, .ref hsa, .ref hsv, .ref hpd9, .ref hse, .ref hmt])) :: (wSt D ho hm hg hbu hs hp hw hz h0 h1 h2 hl0 S G)))) := by
  by_cases h : 0 ≤ d0 ∧ d0 ≤ 2
  · rcases (show d0 = 0 ∨ d0 = 1 ∨ d0 = 2 by omega) with rfl | rfl | rfl
    · exact c_X6_ofDimension0 l D hxo ho hm hg hbu hs hp hw hz h0 h1 h2 hl0 hh hsa hsv hpd9 hse hmt S G B hB hok what hw0
    · exact c_X6_ofDimension1 l D hxo ho hm hg hbu hs hp hw hz h0 h1 h2 hl0 hh hsa hsv hpd9 hse hmt S G B hB hok what hw0
    · exact c_X6_ofDimension2 l D hxo ho hm hg hbu hs hp hw hz h0 h1 h2 hl0 hh hsa hsv hpd9 hse hmt S G B hB hok what hw0
  · exact c_X6_ofDimensionN l D hxo ho hm hg hbu hs hp hw hz h0 h1 h2 hl0 hh hsa hsv hpd9 hse hmt S G B hB hok d0 what hd0 hw0 h
theorem c_X6_worthOf (l : Launch) (D : zD) (hlf hwb hxo ho hm hg hbu hs hp hw hz h0 h1 h2 hl0 hh hsa hsv hpd9 hse hmt : Nat) (S : Nat → Int) (G : Nat → Int32) (L Wb : Nat → Int32) (B : Int) (hB : B ≤ 1900000000) (hok : OkS B S) (d0 u : Int) (hd0 : zB d0) (hu : zB u) : zM l yX6_worthOf wsX6_worthOf (zR 26) zE0 D [.ref hxo, .int (zI d0), .int (zI u)] ((hxo, .inr (6, [.ref ho, .ref hh, .ref hsa, .ref hsv, .ref hpd9, .ref hse, .ref hmt])) :: (wSe D hse hlf hwb L Wb ++ (wSt D ho hm hg hbu hs hp hw hz h0 h1 h2 hl0 S G))) (zQi D (fun r W1 => r = zI (qWor S d0 u) ∧ ∃ L2 W2 : Nat → Int32, W1 = ((hxo, .inr (6, [.ref ho, .ref hh, .ref hsa, .ref hsv, .ref hpd9, .ref hse, .ref hmt])) :: (wSe D hse hlf hwb L2 W2 ++ (wSt D ho hm hg hbu hs hp hw hz h0 h1 h2 hl0 S G))))) := by
  by_cases h : 0 ≤ d0 ∧ d0 ≤ 2
  · rcases (show d0 = 0 ∨ d0 = 1 ∨ d0 = 2 by omega) with rfl | rfl | rfl
    · have e := c_X6_worthOf0 l D hlf hwb hxo ho hm hg hbu hs hp hw hz h0 h1 h2 hl0 hh hsa hsv hpd9 hse hmt S G L Wb B hB hok u hu
      rw [wor_c hok.1 (show 0 < 3 by omega) u] at e
      exact e
    · have e := c_X6_worthOf1 l D hlf hwb hxo ho hm hg hbu hs hp hw hz h0 h1 h2 hl0 hh hsa hsv hpd9 hse hmt S G L Wb B hB hok u hu
      rw [wor_c hok.1 (show 1 < 3 by omega) u] at e
      exact e
    · have e := c_X6_worthOf2 l D hlf hwb hxo ho hm hg hbu hs hp hw hz h0 h1 h2 hl0 hh hsa hsv hpd9 hse hmt S G L Wb B hB hok u hu
      rw [wor_c hok.1 (show 2 < 3 by omega) u] at e
      exact e
  · have e := c_X6_worthOfN l D hlf hwb hxo ho hm hg hbu hs hp hw hz h0 h1 h2 hl0 hh hsa hsv hpd9 hse hmt S G L Wb B hB hok d0 u hd0 h
    rw [← wor_n (S := S) (u := u) h] at e
    exact e
theorem c_X6_bestU (l : Launch) (D : zD) (hlf hwb hxo ho hm hg hbu hs hp hw hz h0 h1 h2 hl0 hh hsa hsv hpd9 hse hmt : Nat) (S : Nat → Int) (G : Nat → Int32) (L Wb : Nat → Int32) (B : Int) (hB : B ≤ 1900000000) (hok : OkS B S) (w9 : Int) (hw9 : zB w9) : zM l yX6_best wsX6_best (zR 26) zE0 D [.ref hxo, .int (zI w9)] ((hxo, .inr (6, [.ref ho, .ref hh, .ref hsa, .ref hsv, .ref hpd9, .ref hse, .ref hmt])) :: (wSe D hse hlf hwb L Wb ++ (wSt D ho hm hg hbu hs hp hw hz h0 h1 h2 hl0 S G))) (zQi D (fun r W1 => r = zI (qBest S w9) ∧ ∃ L2 W2 : Nat → Int32, W1 = ((hxo, .inr (6, [.ref ho, .ref hh, .ref hsa, .ref hsv, .ref hpd9, .ref hse, .ref hmt])) :: (wSe D hse hlf hwb L2 W2 ++ (wSt D ho hm hg hbu hs hp hw hz h0 h1 h2 hl0 S G))))) := by
  have e := c_X6_best l D hlf hwb hxo ho hm hg hbu hs hp hw hz h0 h1 h2 hl0 hh hsa hsv hpd9 hse hmt S G L Wb B hB hok w9 hw9
  rw [best_c hok.1 w9] at e
  exact e
theorem c_X7_worthOf (l : Launch) (D : zD) (hmo ha hth hpa hsl hhe hpd hor : Nat) (kp pd ap od : Int) (S : Nat → Int) (T9 : Nat → Int64) (B : Int) (hB : B ≤ 2000000000) (hokS : OkS B S) (d0 u : Int) (hd0 : zB d0) (hu : zB u) : zM l yX7_worthOf wsX7_worthOf (zR 5) zE0 D [.ref hmo, .int (zI d0), .int (zI u)] [(hmo, .inr (7, [.ref ha, .ref hth, .ref hpa, .int (zI (kp)), .ref hsl, .ref hhe, .ref hpd, .int (zI (pd)), .int (zI (ap)), .ref hor, .int (zI (od))])), (ha, .inl (D.2 1, 86, .inr (.inl (fNow S)))), (hth, .inl (D.2 1, 86, .inr (.inl (T9))))] (zQi D (fun r W1 => r = zI (qWor S d0 u) ∧ ∃ T8, W1 = [(hmo, .inr (7, [.ref ha, .ref hth, .ref hpa, .int (zI (kp)), .ref hsl, .ref hhe, .ref hpd, .int (zI (pd)), .int (zI (ap)), .ref hor, .int (zI (od))])), (ha, .inl (D.2 1, 86, .inr (.inl (fNow S)))), (hth, .inl (D.2 1, 86, .inr (.inl (T8))))])) := by
  by_cases h : 0 ≤ d0 ∧ d0 ≤ 2
  · obtain ⟨k, rfl⟩ : ∃ k : Nat, d0 = (k : Int) := ⟨d0.toNat, by omega⟩
    exact c_X7_worthOfD l D hmo ha hth hpa hsl hhe hpd hor kp pd ap od S T9 B hB hokS k (by omega) u hu
  · exact c_X7_worthOfN l D hmo ha hth hpa hsl hhe hpd hor kp pd ap od S T9 B hB hokS d0 u hd0 h
