theorem c_X5_setLimit (l : Launch) (D : zD) (ho hm hg hbu hs hp hw hz h0 h1 h2 hl0 : Nat) (S : Nat → Int) (G : Nat → Int32) (B : Int) (hB : B ≤ 2000000000) (hok : OkS B S) (d0 v : Int) (hd0 : zB d0) (hv : zB v) : zM l yX5_setLimit wsX5_setLimit (zR 3) zE0 D [.ref ho, .int (zI (d0)), .int (zI (v))] (wSt D ho hm hg hbu hs hp hw hz h0 h1 h2 hl0 S G) (zQi D (fun r W1 => r = zI (aLimit S d0 v).1 ∧ ∃ G2, W1 = (wSt D ho hm hg hbu hs hp hw hz h0 h1 h2 hl0 (aLimit S d0 v).2 G2))) := by
  by_cases h : 0 ≤ d0 ∧ d0 ≤ 2
  · rcases (show d0 = 0 ∨ d0 = 1 ∨ d0 = 2 by omega) with rfl | rfl | rfl
    · exact c_X5_setLimit0 l D ho hm hg hbu hs hp hw hz h0 h1 h2 hl0 S G B hB hok v hv
    · exact c_X5_setLimit1 l D ho hm hg hbu hs hp hw hz h0 h1 h2 hl0 S G B hB hok v hv
    · exact c_X5_setLimit2 l D ho hm hg hbu hs hp hw hz h0 h1 h2 hl0 S G B hB hok v hv
  · exact c_X5_setLimitN l D ho hm hg hbu hs hp hw hz h0 h1 h2 hl0 S G B hB hok d0 v hd0 hv h
set_option maxHeartbeats 6000000 in
set_option maxRecDepth 100000 in
theorem c_X6_carryOutOrder (l : Launch) (D : zD) (hxo ho hm hg hbu hs hp hw hz h0 h1 h2 hl0 hh hsa hsv hpd9 hse hmt htx hnu : Nat) (pl a kk rd : Nat) (Q S : Nat → Int) (G : Nat → Int32) (B : Int) (hB : B ≤ 1900000000) (hok : OkS B S) (hQB : QB Q) (hkk : kk = 105 ∨ kk = 108 ∨ kk = 114 ∨ kk = 115 ∨ kk = 120 ∨ kk = 45) : zM l yX6_carryOutOrder wsX6_carryOutOrder (zR (6)) zE0 D [.ref hxo] ((hxo, .inr (6, [.ref ho, .ref hh, .ref hsa, .ref hsv, .ref hpd9, .ref hse, .ref hmt])) :: (hpd9, .inr (3, [.ref htx, .int (zI (((pl : Nat) : Int))), .int (zI (((a : Nat) : Int))), .int (zI (((kk : Nat) : Int))), .ref hnu, .int (zI (((rd : Nat) : Int)))])) :: (hnu, .inl (D.2 0, 4, .inl (fQ Q))) :: (wSt D ho hm hg hbu hs hp hw hz h0 h1 h2 hl0 S G)) (zQi D (fun r W1 => r = zI (aOrd kk Q S).1 ∧ ∃ G2, W1 = ((hxo, .inr (6, [.ref ho, .ref hh, .ref hsa, .ref hsv, .ref hpd9, .ref hse, .ref hmt])) :: (hpd9, .inr (3, [.ref htx, .int (zI (((pl : Nat) : Int))), .int (zI (((a : Nat) : Int))), .int (zI (((kk : Nat) : Int))), .ref hnu, .int (zI (((rd : Nat) : Int)))])) :: (hnu, .inl (D.2 0, 4, .inl (fQ Q))) :: (wSt D ho hm hg hbu hs hp hw hz h0 h1 h2 hl0 (aOrd kk Q S).2 G2)))) := by
  refine zM.of (cc := cX6_carryOutOrder) (maxL := 2) (ret := (some .int)) (by decide) rfl (Nat.le_of_ble_eq_true rfl) ?_
  intro p e s m below meth c A hx hb hml hown hts hr hlocks hE hnm w ls hl
  have hown : s.vm.findClass RX6 = some m.cls := hown
  have hl : lv_has ls 2 [(0, .ref hxo)] := hl
  have f_34 : (Cond.fieldLink RX6 34 "RelaxedSteps" "pad" "LRelaxedSteps$Pad;").before _ s = true := hts _ (by decide +kernel)
  have f_240 : (Cond.fieldLink RX6 240 "RelaxedSteps$Pad" "numbers" "[I").before _ s = true := hts _ (by decide +kernel)
  have f_243 : (Cond.fieldLink RX6 243 "RelaxedSteps$Pad" "kind" "C").before _ s = true := hts _ (by decide +kernel)
  have f_10 : (Cond.fieldLink RX6 10 "RelaxedSteps" "now" "LRelaxedSteps$State;").before _ s = true := hts _ (by decide +kernel)
  have f_162 : (Cond.fieldLink RX6 162 "RelaxedSteps$State" "step" "I").before _ s = true := hts _ (by decide +kernel)
  have inX6 : ∀ w ∈ u_ws RX6 TX6 7, w ∈ wsX6_carryOutOrder := by decide +kernel
  have inX3 : ∀ w ∈ u_ws RX3 TX3 6, w ∈ wsX6_carryOutOrder := by decide +kernel
  have inX5 : ∀ w ∈ u_ws RX5 TX5 11, w ∈ wsX6_carryOutOrder := by decide +kernel
  obtain ⟨hokp, hokm, hokb, hsc, hbe⟩ := id hok
  have hn := zn_eq hokp
  have h16 := zn_le hokp
  have hlim := hokp.2.2
  have hm1 := hokm
  unfold OkM mu at hm1
  have hsw := fSw_b hok
  have hso := fSol_b hok
  have hhu := sHu_b hok
  have hbd := sBd_b hokp hokm
  have hkb := hokb.1
  have hq0 := hQB 0
  have hq1 := hQB 1
  have hq2 := hQB 2
  have hq3 := hQB 3
  have w : zW D A s.heap s [(hxo, .inr (6, [.ref ho, .ref hh, .ref hsa, .ref hsv, .ref hpd9, .ref hse, .ref hmt])), (hpd9, .inr (3, [.ref htx, .int (zI (((pl : Nat) : Int))), .int (zI (((a : Nat) : Int))), .int (zI (((kk : Nat) : Int))), .ref hnu, .int (zI (((rd : Nat) : Int)))])), (hnu, .inl (D.2 0, 4, .inl (fQ Q))), (ho, .inr (5, [.ref hp, .ref hbu, .ref hm, .ref hg, .int (zI (S 71)), .int (zI (S 72)), .int (zI (fSol S)), .int (zI (fSw S)), .int (zI (S 73)), .int (zI (S 74)), .long (zL (S 75))])), (hm, .inl (D.2 0, 3, .inl (fMu (mu S)))), (hg, .inl (D.2 0, 3, .inl (G))), (hbu, .inr (0, [.ref hs, .int (zI (S 77))])), (hs, .inl (D.2 0, 8, .inl (fSt S))), (hp, .inr (2, [.ref hw, .ref hz, .ref hl0, .int (zI (S 0))])), (hw, .inl (D.2 0, 16, .inl (fC S 0))), (hz, .inl (D.2 5, 3, .inr (.inr (.inr (.inr (f3 h0 h1 h2)))))), (h0, .inl (D.2 0, 16, .inl (fC S 1))), (h1, .inl (D.2 0, 16, .inl (fC S 2))), (h2, .inl (D.2 0, 16, .inl (fC S 3))), (hl0, .inl (D.2 0, 3, .inl (fLm S)))] s.heap [] := w
  refine lv_aload_n hx hb dX6_carryOutOrder_0 rfl (lv_at hl 0 rfl) ?_
  refine z_get hx hb hown hts w inX6 0 4 rfl rfl (by decide) f_34 rfl rfl dX6_carryOutOrder_1 ?_
  refine z_get hx hb hown hts w inX3 1 4 rfl rfl (by decide) f_240 rfl rfl dX6_carryOutOrder_4 ?_
  refine lv_astore_n (lv' := [(1, .ref hnu), (0, .ref hxo)]) hx hb dX6_carryOutOrder_7 rfl hl (by decide) rfl (fun ls hl => ?_)
  refine lv_aload_n hx hb dX6_carryOutOrder_8 rfl (lv_at hl 1 rfl) ?_
  refine z_get hx hb hown hts w inX6 0 4 rfl rfl (by decide) f_34 rfl rfl dX6_carryOutOrder_9 ?_
  refine z_get hx hb hown hts w inX3 1 3 rfl rfl (by decide) f_243 rfl rfl dX6_carryOutOrder_12 ?_
  obtain ⟨kc, ekc⟩ : ∃ kc, kc = kk := ⟨_, rfl⟩
  refine W.eq (g2 := F0 m 15 ls [.int (zI (((kc : Nat) : Int)))]) (by rw [ekc]) ?_
  rcases (show ((kc : Nat) : Int) = 45 ∨ ((kc : Nat) : Int) = 105 ∨ ((kc : Nat) : Int) = 108 ∨ ((kc : Nat) : Int) = 114 ∨ ((kc : Nat) : Int) = 115 ∨ ((kc : Nat) : Int) = 120 ∨ (¬ ((kc : Nat) : Int) = 45 ∧ ¬ ((kc : Nat) : Int) = 105 ∧ ¬ ((kc : Nat) : Int) = 108 ∧ ¬ ((kc : Nat) : Int) = 114 ∧ ¬ ((kc : Nat) : Int) = 115 ∧ ¬ ((kc : Nat) : Int) = 120) by omega) with csw15 | csw15 | csw15 | csw15 | csw15 | csw15 | csw15
  · skip
    rw [csw15]
    refine z_lswit (tgt := 143) hx hb (by omega) dX6_carryOutOrder_15 (by decide) (off := 128) (by decide) (by decide) ?_
    refine lv_aload_n hx hb dX6_carryOutOrder_143 rfl (lv_at hl 1 rfl) ?_
    refine z_get hx hb hown hts w inX6 0 0 rfl rfl (by decide) f_10 rfl rfl dX6_carryOutOrder_144 ?_
    refine lv_aload_n hx hb dX6_carryOutOrder_147 rfl (lv_at hl 0 rfl) ?_
    refine lv_iconst (v := zI 0) hx hb dX6_carryOutOrder_148 rfl ?_
    refine z_iald hx hb w 2 rfl 0 (by omega) (by decide) rfl (v := (zI (Q 0))) rfl dX6_carryOutOrder_149 ?_
    refine z_V_i (As := [.int (zI (Q 0))]) (rest := []) (Wr := [(hxo, .inr (6, [.ref ho, .ref hh, .ref hsa, .ref hsv, .ref hpd9, .ref hse, .ref hmt])), (hpd9, .inr (3, [.ref htx, .int (zI (((pl : Nat) : Int))), .int (zI (((a : Nat) : Int))), .int (zI (((kk : Nat) : Int))), .ref hnu, .int (zI (((rd : Nat) : Int)))])), (hnu, .inl (D.2 0, 4, .inl (fQ Q)))]) ⟨hx, hb, hml, hown, hts⟩ (c_X5_removeItem l D ho hm hg hbu hs hp hw hz h0 h1 h2 hl0 S G B (by omega) hok (Q 0) (by omega)) (cwV 1 hts gX6_carryOutOrder_X5_removeItem rfl rfl rfl (by decide +kernel) ⟨Nat.le_of_ble_eq_true rfl, Nat.le_of_ble_eq_true rfl⟩) w (q0 := 3) rfl rfl rfl [3, 4, 5, 6, 7, 8, 9, 10, 11, 12, 13, 14] rfl (by decide) [0, 1, 2] rfl (by decide) (by decide) rfl hl.1 rfl (lv_room (Nat.le_of_ble_eq_true rfl)) dX6_carryOutOrder_150 ⟨Nat.zero_le _, Nat.zero_le _⟩ (fun r W1 H locs hp w => ?_)
    obtain ⟨rfl, G2, rfl⟩ := hp
    have w : zW D A s.heap s [(hxo, .inr (6, [.ref ho, .ref hh, .ref hsa, .ref hsv, .ref hpd9, .ref hse, .ref hmt])), (hpd9, .inr (3, [.ref htx, .int (zI (((pl : Nat) : Int))), .int (zI (((a : Nat) : Int))), .int (zI (((kk : Nat) : Int))), .ref hnu, .int (zI (((rd : Nat) : Int)))])), (hnu, .inl (D.2 0, 4, .inl (fQ Q))), (ho, .inr (5, [.ref hp, .ref hbu, .ref hm, .ref hg, .int (zI ((aDrop S (Q 0)).2 71)), .int (zI ((aDrop S (Q 0)).2 72)), .int (zI (fSol (aDrop S (Q 0)).2)), .int (zI (fSw (aDrop S (Q 0)).2)), .int (zI ((aDrop S (Q 0)).2 73)), .int (zI ((aDrop S (Q 0)).2 74)), .long (zL ((aDrop S (Q 0)).2 75))])), (hm, .inl (D.2 0, 3, .inl (fMu (mu (aDrop S (Q 0)).2)))), (hg, .inl (D.2 0, 3, .inl (G2))), (hbu, .inr (0, [.ref hs, .int (zI ((aDrop S (Q 0)).2 77))])), (hs, .inl (D.2 0, 8, .inl (fSt (aDrop S (Q 0)).2))), (hp, .inr (2, [.ref hw, .ref hz, .ref hl0, .int (zI ((aDrop S (Q 0)).2 0))])), (hw, .inl (D.2 0, 16, .inl (fC (aDrop S (Q 0)).2 0))), (hz, .inl (D.2 5, 3, .inr (.inr (.inr (.inr (f3 h0 h1 h2)))))), (h0, .inl (D.2 0, 16, .inl (fC (aDrop S (Q 0)).2 1))), (h1, .inl (D.2 0, 16, .inl (fC (aDrop S (Q 0)).2 2))), (h2, .inl (D.2 0, 16, .inl (fC (aDrop S (Q 0)).2 3))), (hl0, .inl (D.2 0, 3, .inl (fLm (aDrop S (Q 0)).2)))] H locs := w.sub [0, 1, 2, 3, 4, 5, 6, 7, 8, 9, 10, 11, 12, 13, 14] (by decide) rfl
    exact z_iret hx hb hr hlocks w dX6_carryOutOrder_153 (by rw [show kk = 45 by omega, aOrd_45]; exact ⟨rfl, G2, rfl⟩)
  · skip
    rw [csw15]
    refine z_lswit (tgt := 72) hx hb (by omega) dX6_carryOutOrder_15 (by decide) (off := 57) (by decide) (by decide) ?_
    refine lv_aload_n hx hb dX6_carryOutOrder_72 rfl (lv_at hl 1 rfl) ?_
    refine z_get hx hb hown hts w inX6 0 0 rfl rfl (by decide) f_10 rfl rfl dX6_carryOutOrder_73 ?_
    refine lv_aload_n hx hb dX6_carryOutOrder_76 rfl (lv_at hl 0 rfl) ?_
    refine lv_iconst (v := zI 0) hx hb dX6_carryOutOrder_77 rfl ?_
    refine z_iald hx hb w 2 rfl 0 (by omega) (by decide) rfl (v := (zI (Q 0))) rfl dX6_carryOutOrder_78 ?_
    refine lv_aload_n hx hb dX6_carryOutOrder_79 rfl (lv_at hl 0 rfl) ?_
    refine lv_iconst (v := zI 1) hx hb dX6_carryOutOrder_80 rfl ?_
    refine z_iald hx hb w 2 rfl 1 (by omega) (by decide) rfl (v := (zI (Q 1))) rfl dX6_carryOutOrder_81 ?_
    refine lv_aload_n hx hb dX6_carryOutOrder_82 rfl (lv_at hl 0 rfl) ?_
    refine lv_iconst (v := zI 2) hx hb dX6_carryOutOrder_83 rfl ?_
    refine z_iald hx hb w 2 rfl 2 (by omega) (by decide) rfl (v := (zI (Q 2))) rfl dX6_carryOutOrder_84 ?_
    refine lv_aload_n hx hb dX6_carryOutOrder_85 rfl (lv_at hl 0 rfl) ?_
    refine lv_iconst (v := zI 3) hx hb dX6_carryOutOrder_86 rfl ?_
    refine z_iald hx hb w 2 rfl 3 (by omega) (by decide) rfl (v := (zI (Q 3))) rfl dX6_carryOutOrder_87 ?_
    refine z_V_i (As := [.int (zI (Q 0)), .int (zI (Q 1)), .int (zI (Q 2)), .int (zI (Q 3))]) (rest := []) (Wr := [(hxo, .inr (6, [.ref ho, .ref hh, .ref hsa, .ref hsv, .ref hpd9, .ref hse, .ref hmt])), (hpd9, .inr (3, [.ref htx, .int (zI (((pl : Nat) : Int))), .int (zI (((a : Nat) : Int))), .int (zI (((kk : Nat) : Int))), .ref hnu, .int (zI (((rd : Nat) : Int)))])), (hnu, .inl (D.2 0, 4, .inl (fQ Q)))]) ⟨hx, hb, hml, hown, hts⟩ (c_X5_addItem l D ho hm hg hbu hs hp hw hz h0 h1 h2 hl0 S G B (by omega) hok (Q 0) (Q 1) (Q 2) (Q 3) (by omega) (by omega) (by omega) (by omega)) (cwV 4 hts gX6_carryOutOrder_X5_addItem rfl rfl rfl (by decide +kernel) ⟨Nat.le_of_ble_eq_true rfl, Nat.le_of_ble_eq_true rfl⟩) w (q0 := 3) rfl rfl rfl [3, 4, 5, 6, 7, 8, 9, 10, 11, 12, 13, 14] rfl (by decide) [0, 1, 2] rfl (by decide) (by decide) rfl hl.1 rfl (lv_room (Nat.le_of_ble_eq_true rfl)) dX6_carryOutOrder_88 ⟨Nat.zero_le _, Nat.zero_le _⟩ (fun r W1 H locs hp w => ?_)
    obtain ⟨rfl, G2, rfl⟩ := hp
    have w : zW D A s.heap s [(hxo, .inr (6, [.ref ho, .ref hh, .ref hsa, .ref hsv, .ref hpd9, .ref hse, .ref hmt])), (hpd9, .inr (3, [.ref htx, .int (zI (((pl : Nat) : Int))), .int (zI (((a : Nat) : Int))), .int (zI (((kk : Nat) : Int))), .ref hnu, .int (zI (((rd : Nat) : Int)))])), (hnu, .inl (D.2 0, 4, .inl (fQ Q))), (ho, .inr (5, [.ref hp, .ref hbu, .ref hm, .ref hg, .int (zI ((aItem S (Q 0) (Q 1) (Q 2) (Q 3)).2 71)), .int (zI ((aItem S (Q 0) (Q 1) (Q 2) (Q 3)).2 72)), .int (zI (fSol (aItem S (Q 0) (Q 1) (Q 2) (Q 3)).2)), .int (zI (fSw (aItem S (Q 0) (Q 1) (Q 2) (Q 3)).2)), .int (zI ((aItem S (Q 0) (Q 1) (Q 2) (Q 3)).2 73)), .int (zI ((aItem S (Q 0) (Q 1) (Q 2) (Q 3)).2 74)), .long (zL ((aItem S (Q 0) (Q 1) (Q 2) (Q 3)).2 75))])), (hm, .inl (D.2 0, 3, .inl (fMu (mu (aItem S (Q 0) (Q 1) (Q 2) (Q 3)).2)))), (hg, .inl (D.2 0, 3, .inl (G2))), (hbu, .inr (0, [.ref hs, .int (zI ((aItem S (Q 0) (Q 1) (Q 2) (Q 3)).2 77))])), (hs, .inl (D.2 0, 8, .inl (fSt (aItem S (Q 0) (Q 1) (Q 2) (Q 3)).2))), (hp, .inr (2, [.ref hw, .ref hz, .ref hl0, .int (zI ((aItem S (Q 0) (Q 1) (Q 2) (Q 3)).2 0))])), (hw, .inl (D.2 0, 16, .inl (fC (aItem S (Q 0) (Q 1) (Q 2) (Q 3)).2 0))), (hz, .inl (D.2 5, 3, .inr (.inr (.inr (.inr (f3 h0 h1 h2)))))), (h0, .inl (D.2 0, 16, .inl (fC (aItem S (Q 0) (Q 1) (Q 2) (Q 3)).2 1))), (h1, .inl (D.2 0, 16, .inl (fC (aItem S (Q 0) (Q 1) (Q 2) (Q 3)).2 2))), (h2, .inl (D.2 0, 16, .inl (fC (aItem S (Q 0) (Q 1) (Q 2) (Q 3)).2 3))), (hl0, .inl (D.2 0, 3, .inl (fLm (aItem S (Q 0) (Q 1) (Q 2) (Q 3)).2)))] H locs := w.sub [0, 1, 2, 3, 4, 5, 6, 7, 8, 9, 10, 11, 12, 13, 14] (by decide) rfl
    exact z_iret hx hb hr hlocks w dX6_carryOutOrder_91 (by rw [show kk = 105 by omega, aOrd_105]; exact ⟨rfl, G2, rfl⟩)
  · skip
    rw [csw15]
    refine z_lswit (tgt := 92) hx hb (by omega) dX6_carryOutOrder_15 (by decide) (off := 77) (by decide) (by decide) ?_
    refine lv_aload_n hx hb dX6_carryOutOrder_92 rfl (lv_at hl 1 rfl) ?_
    refine z_get hx hb hown hts w inX6 0 0 rfl rfl (by decide) f_10 rfl rfl dX6_carryOutOrder_93 ?_
    refine lv_aload_n hx hb dX6_carryOutOrder_96 rfl (lv_at hl 0 rfl) ?_
    refine lv_iconst (v := zI 0) hx hb dX6_carryOutOrder_97 rfl ?_
    refine z_iald hx hb w 2 rfl 0 (by omega) (by decide) rfl (v := (zI (Q 0))) rfl dX6_carryOutOrder_98 ?_
    refine lv_aload_n hx hb dX6_carryOutOrder_99 rfl (lv_at hl 0 rfl) ?_
    refine lv_iconst (v := zI 1) hx hb dX6_carryOutOrder_100 rfl ?_
    refine z_iald hx hb w 2 rfl 1 (by omega) (by decide) rfl (v := (zI (Q 1))) rfl dX6_carryOutOrder_101 ?_
    refine z_V_i (As := [.int (zI (Q 0)), .int (zI (Q 1))]) (rest := []) (Wr := [(hxo, .inr (6, [.ref ho, .ref hh, .ref hsa, .ref hsv, .ref hpd9, .ref hse, .ref hmt])), (hpd9, .inr (3, [.ref htx, .int (zI (((pl : Nat) : Int))), .int (zI (((a : Nat) : Int))), .int (zI (((kk : Nat) : Int))), .ref hnu, .int (zI (((rd : Nat) : Int)))])), (hnu, .inl (D.2 0, 4, .inl (fQ Q)))]) ⟨hx, hb, hml, hown, hts⟩ (c_X5_setLimit l D ho hm hg hbu hs hp hw hz h0 h1 h2 hl0 S G B (by omega) hok (Q 0) (Q 1) (by omega) (by omega)) (cwV 2 hts gX6_carryOutOrder_X5_setLimit rfl rfl rfl (by decide +kernel) ⟨Nat.le_of_ble_eq_true rfl, Nat.le_of_ble_eq_true rfl⟩) w (q0 := 3) rfl rfl rfl [3, 4, 5, 6, 7, 8, 9, 10, 11, 12, 13, 14] rfl (by decide) [0, 1, 2] rfl (by decide) (by decide) rfl hl.1 rfl (lv_room (Nat.le_of_ble_eq_true rfl)) dX6_carryOutOrder_102 ⟨Nat.zero_le _, Nat.zero_le _⟩ (fun r W1 H locs hp w => ?_)
    obtain ⟨rfl, G2, rfl⟩ := hp
    have w : zW D A s.heap s [(hxo, .inr (6, [.ref ho, .ref hh, .ref hsa, .ref hsv, .ref hpd9, .ref hse, .ref hmt])), (hpd9, .inr (3, [.ref htx, .int (zI (((pl : Nat) : Int))), .int (zI (((a : Nat) : Int))), .int (zI (((kk : Nat) : Int))), .ref hnu, .int (zI (((rd : Nat) : Int)))])), (hnu, .inl (D.2 0, 4, .inl (fQ Q))), (ho, .inr (5, [.ref hp, .ref hbu, .ref hm, .ref hg, .int (zI ((aLimit S (Q 0) (Q 1)).2 71)), .int (zI ((aLimit S (Q 0) (Q 1)).2 72)), .int (zI (fSol (aLimit S (Q 0) (Q 1)).2)), .int (zI (fSw (aLimit S (Q 0) (Q 1)).2)), .int (zI ((aLimit S (Q 0) (Q 1)).2 73)), .int (zI ((aLimit S (Q 0) (Q 1)).2 74)), .long (zL ((aLimit S (Q 0) (Q 1)).2 75))])), (hm, .inl (D.2 0, 3, .inl (fMu (mu (aLimit S (Q 0) (Q 1)).2)))), (hg, .inl (D.2 0, 3, .inl (G2))), (hbu, .inr (0, [.ref hs, .int (zI ((aLimit S (Q 0) (Q 1)).2 77))])), (hs, .inl (D.2 0, 8, .inl (fSt (aLimit S (Q 0) (Q 1)).2))), (hp, .inr (2, [.ref hw, .ref hz, .ref hl0, .int (zI ((aLimit S (Q 0) (Q 1)).2 0))])), (hw, .inl (D.2 0, 16, .inl (fC (aLimit S (Q 0) (Q 1)).2 0))), (hz, .inl (D.2 5, 3, .inr (.inr (.inr (.inr (f3 h0 h1 h2)))))), (h0, .inl (D.2 0, 16, .inl (fC (aLimit S (Q 0) (Q 1)).2 1))), (h1, .inl (D.2 0, 16, .inl (fC (aLimit S (Q 0) (Q 1)).2 2))), (h2, .inl (D.2 0, 16, .inl (fC (aLimit S (Q 0) (Q 1)).2 3))), (hl0, .inl (D.2 0, 3, .inl (fLm (aLimit S (Q 0) (Q 1)).2)))] H locs := w.sub [0, 1, 2, 3, 4, 5, 6, 7, 8, 9, 10, 11, 12, 13, 14] (by decide) rfl
    exact z_iret hx hb hr hlocks w dX6_carryOutOrder_105 (by rw [show kk = 108 by omega, aOrd_108]; exact ⟨rfl, G2, rfl⟩)
  · skip
    rw [csw15]
    refine z_lswit (tgt := 106) hx hb (by omega) dX6_carryOutOrder_15 (by decide) (off := 91) (by decide) (by decide) ?_
    refine lv_aload_n hx hb dX6_carryOutOrder_106 rfl (lv_at hl 1 rfl) ?_
    refine z_get hx hb hown hts w inX6 0 0 rfl rfl (by decide) f_10 rfl rfl dX6_carryOutOrder_107 ?_
    refine lv_aload_n hx hb dX6_carryOutOrder_110 rfl (lv_at hl 0 rfl) ?_
    refine lv_iconst (v := zI 0) hx hb dX6_carryOutOrder_111 rfl ?_
    refine z_iald hx hb w 2 rfl 0 (by omega) (by decide) rfl (v := (zI (Q 0))) rfl dX6_carryOutOrder_112 ?_
    refine lv_aload_n hx hb dX6_carryOutOrder_113 rfl (lv_at hl 1 rfl) ?_
    refine z_get hx hb hown hts w inX6 0 0 rfl rfl (by decide) f_10 rfl rfl dX6_carryOutOrder_114 ?_
    refine z_get hx hb hown hts w inX5 3 5 rfl rfl (by decide) f_162 rfl rfl dX6_carryOutOrder_117 ?_
    refine z_V_i (As := [.int (zI (Q 0)), .int (zI (S 72))]) (rest := []) (Wr := [(hxo, .inr (6, [.ref ho, .ref hh, .ref hsa, .ref hsv, .ref hpd9, .ref hse, .ref hmt])), (hpd9, .inr (3, [.ref htx, .int (zI (((pl : Nat) : Int))), .int (zI (((a : Nat) : Int))), .int (zI (((kk : Nat) : Int))), .ref hnu, .int (zI (((rd : Nat) : Int)))])), (hnu, .inl (D.2 0, 4, .inl (fQ Q)))]) ⟨hx, hb, hml, hown, hts⟩ (c_X5_setRule l D ho hm hg hbu hs hp hw hz h0 h1 h2 hl0 S G B (by omega) hok (Q 0) (S 72) (by omega) (by omega)) (cwV 2 hts gX6_carryOutOrder_X5_setRule rfl rfl rfl (by decide +kernel) ⟨Nat.le_of_ble_eq_true rfl, Nat.le_of_ble_eq_true rfl⟩) w (q0 := 3) rfl rfl rfl [3, 4, 5, 6, 7, 8, 9, 10, 11, 12, 13, 14] rfl (by decide) [0, 1, 2] rfl (by decide) (by decide) rfl hl.1 rfl (lv_room (Nat.le_of_ble_eq_true rfl)) dX6_carryOutOrder_120 ⟨Nat.zero_le _, Nat.zero_le _⟩ (fun r W1 H locs hp w => ?_)
    obtain ⟨rfl, G2, rfl⟩ := hp
    have w : zW D A s.heap s [(hxo, .inr (6, [.ref ho, .ref hh, .ref hsa, .ref hsv, .ref hpd9, .ref hse, .ref hmt])), (hpd9, .inr (3, [.ref htx, .int (zI (((pl : Nat) : Int))), .int (zI (((a : Nat) : Int))), .int (zI (((kk : Nat) : Int))), .ref hnu, .int (zI (((rd : Nat) : Int)))])), (hnu, .inl (D.2 0, 4, .inl (fQ Q))), (ho, .inr (5, [.ref hp, .ref hbu, .ref hm, .ref hg, .int (zI ((aRule S (Q 0) (S 72)).2 71)), .int (zI ((aRule S (Q 0) (S 72)).2 72)), .int (zI (fSol (aRule S (Q 0) (S 72)).2)), .int (zI (fSw (aRule S (Q 0) (S 72)).2)), .int (zI ((aRule S (Q 0) (S 72)).2 73)), .int (zI ((aRule S (Q 0) (S 72)).2 74)), .long (zL ((aRule S (Q 0) (S 72)).2 75))])), (hm, .inl (D.2 0, 3, .inl (fMu (mu (aRule S (Q 0) (S 72)).2)))), (hg, .inl (D.2 0, 3, .inl (G2))), (hbu, .inr (0, [.ref hs, .int (zI ((aRule S (Q 0) (S 72)).2 77))])), (hs, .inl (D.2 0, 8, .inl (fSt (aRule S (Q 0) (S 72)).2))), (hp, .inr (2, [.ref hw, .ref hz, .ref hl0, .int (zI ((aRule S (Q 0) (S 72)).2 0))])), (hw, .inl (D.2 0, 16, .inl (fC (aRule S (Q 0) (S 72)).2 0))), (hz, .inl (D.2 5, 3, .inr (.inr (.inr (.inr (f3 h0 h1 h2)))))), (h0, .inl (D.2 0, 16, .inl (fC (aRule S (Q 0) (S 72)).2 1))), (h1, .inl (D.2 0, 16, .inl (fC (aRule S (Q 0) (S 72)).2 2))), (h2, .inl (D.2 0, 16, .inl (fC (aRule S (Q 0) (S 72)).2 3))), (hl0, .inl (D.2 0, 3, .inl (fLm (aRule S (Q 0) (S 72)).2)))] H locs := w.sub [0, 1, 2, 3, 4, 5, 6, 7, 8, 9, 10, 11, 12, 13, 14] (by decide) rfl
    exact z_iret hx hb hr hlocks w dX6_carryOutOrder_123 (by rw [show kk = 114 by omega, aOrd_114]; exact ⟨rfl, G2, rfl⟩)
  · skip
    rw [csw15]
    refine z_lswit (tgt := 124) hx hb (by omega) dX6_carryOutOrder_15 (by decide) (off := 109) (by decide) (by decide) ?_
    refine lv_aload_n hx hb dX6_carryOutOrder_124 rfl (lv_at hl 1 rfl) ?_
    refine z_get hx hb hown hts w inX6 0 0 rfl rfl (by decide) f_10 rfl rfl dX6_carryOutOrder_125 ?_
    refine lv_aload_n hx hb dX6_carryOutOrder_128 rfl (lv_at hl 0 rfl) ?_
    refine lv_iconst (v := zI 0) hx hb dX6_carryOutOrder_129 rfl ?_
    refine z_iald hx hb w 2 rfl 0 (by omega) (by decide) rfl (v := (zI (Q 0))) rfl dX6_carryOutOrder_130 ?_
    refine z_V_i (As := [.int (zI (Q 0))]) (rest := []) (Wr := [(hxo, .inr (6, [.ref ho, .ref hh, .ref hsa, .ref hsv, .ref hpd9, .ref hse, .ref hmt])), (hpd9, .inr (3, [.ref htx, .int (zI (((pl : Nat) : Int))), .int (zI (((a : Nat) : Int))), .int (zI (((kk : Nat) : Int))), .ref hnu, .int (zI (((rd : Nat) : Int)))])), (hnu, .inl (D.2 0, 4, .inl (fQ Q)))]) ⟨hx, hb, hml, hown, hts⟩ (c_X5_makeSteps l D ho hm hg hbu hs hp hw hz h0 h1 h2 hl0 S G B (by omega) hok (Q 0) (by omega)) (cwV 1 hts gX6_carryOutOrder_X5_makeSteps rfl rfl rfl (by decide +kernel) ⟨Nat.le_of_ble_eq_true rfl, Nat.le_of_ble_eq_true rfl⟩) w (q0 := 3) rfl rfl rfl [3, 4, 5, 6, 7, 8, 9, 10, 11, 12, 13, 14] rfl (by decide) [0, 1, 2] rfl (by decide) (by decide) rfl hl.1 rfl (lv_room (Nat.le_of_ble_eq_true rfl)) dX6_carryOutOrder_131 ⟨Nat.zero_le _, Nat.zero_le _⟩ (fun r W1 H locs hp w => ?_)
    obtain ⟨rfl, G2, rfl⟩ := hp
    have w : zW D A s.heap s [(hxo, .inr (6, [.ref ho, .ref hh, .ref hsa, .ref hsv, .ref hpd9, .ref hse, .ref hmt])), (hpd9, .inr (3, [.ref htx, .int (zI (((pl : Nat) : Int))), .int (zI (((a : Nat) : Int))), .int (zI (((kk : Nat) : Int))), .ref hnu, .int (zI (((rd : Nat) : Int)))])), (hnu, .inl (D.2 0, 4, .inl (fQ Q))), (ho, .inr (5, [.ref hp, .ref hbu, .ref hm, .ref hg, .int (zI ((aStep S (Q 0)).2 71)), .int (zI ((aStep S (Q 0)).2 72)), .int (zI (fSol (aStep S (Q 0)).2)), .int (zI (fSw (aStep S (Q 0)).2)), .int (zI ((aStep S (Q 0)).2 73)), .int (zI ((aStep S (Q 0)).2 74)), .long (zL ((aStep S (Q 0)).2 75))])), (hm, .inl (D.2 0, 3, .inl (fMu (mu (aStep S (Q 0)).2)))), (hg, .inl (D.2 0, 3, .inl (G2))), (hbu, .inr (0, [.ref hs, .int (zI ((aStep S (Q 0)).2 77))])), (hs, .inl (D.2 0, 8, .inl (fSt (aStep S (Q 0)).2))), (hp, .inr (2, [.ref hw, .ref hz, .ref hl0, .int (zI ((aStep S (Q 0)).2 0))])), (hw, .inl (D.2 0, 16, .inl (fC (aStep S (Q 0)).2 0))), (hz, .inl (D.2 5, 3, .inr (.inr (.inr (.inr (f3 h0 h1 h2)))))), (h0, .inl (D.2 0, 16, .inl (fC (aStep S (Q 0)).2 1))), (h1, .inl (D.2 0, 16, .inl (fC (aStep S (Q 0)).2 2))), (h2, .inl (D.2 0, 16, .inl (fC (aStep S (Q 0)).2 3))), (hl0, .inl (D.2 0, 3, .inl (fLm (aStep S (Q 0)).2)))] H locs := w.sub [0, 1, 2, 3, 4, 5, 6, 7, 8, 9, 10, 11, 12, 13, 14] (by decide) rfl
    exact z_iret hx hb hr hlocks w dX6_carryOutOrder_134 (by rw [show kk = 115 by omega, aOrd_115]; exact ⟨rfl, G2, rfl⟩)
  · skip
    rw [csw15]
    refine z_lswit (tgt := 135) hx hb (by omega) dX6_carryOutOrder_15 (by decide) (off := 120) (by decide) (by decide) ?_
    refine lv_aload_n hx hb dX6_carryOutOrder_135 rfl (lv_at hl 1 rfl) ?_
    refine z_get hx hb hown hts w inX6 0 0 rfl rfl (by decide) f_10 rfl rfl dX6_carryOutOrder_136 ?_
    refine z_V_i (As := []) (rest := []) (Wr := [(hxo, .inr (6, [.ref ho, .ref hh, .ref hsa, .ref hsv, .ref hpd9, .ref hse, .ref hmt])), (hpd9, .inr (3, [.ref htx, .int (zI (((pl : Nat) : Int))), .int (zI (((a : Nat) : Int))), .int (zI (((kk : Nat) : Int))), .ref hnu, .int (zI (((rd : Nat) : Int)))])), (hnu, .inl (D.2 0, 4, .inl (fQ Q)))]) ⟨hx, hb, hml, hown, hts⟩ (c_X5_keepMended l D ho hm hg hbu hs hp hw hz h0 h1 h2 hl0 S G B (by omega) hok) (cwV 0 hts gX6_carryOutOrder_X5_keepMended rfl rfl rfl (by decide +kernel) ⟨Nat.le_of_ble_eq_true rfl, Nat.le_of_ble_eq_true rfl⟩) w (q0 := 3) rfl rfl rfl [3, 4, 5, 6, 7, 8, 9, 10, 11, 12, 13, 14] rfl (by decide) [0, 1, 2] rfl (by decide) (by decide) rfl hl.1 rfl (lv_room (Nat.le_of_ble_eq_true rfl)) dX6_carryOutOrder_139 ⟨Nat.zero_le _, Nat.zero_le _⟩ (fun r W1 H locs hp w => ?_)
    obtain ⟨rfl, G2, rfl⟩ := hp
    have w : zW D A s.heap s [(hxo, .inr (6, [.ref ho, .ref hh, .ref hsa, .ref hsv, .ref hpd9, .ref hse, .ref hmt])), (hpd9, .inr (3, [.ref htx, .int (zI (((pl : Nat) : Int))), .int (zI (((a : Nat) : Int))), .int (zI (((kk : Nat) : Int))), .ref hnu, .int (zI (((rd : Nat) : Int)))])), (hnu, .inl (D.2 0, 4, .inl (fQ Q))), (ho, .inr (5, [.ref hp, .ref hbu, .ref hm, .ref hg, .int (zI ((aRep S).2 71)), .int (zI ((aRep S).2 72)), .int (zI (fSol (aRep S).2)), .int (zI (fSw (aRep S).2)), .int (zI ((aRep S).2 73)), .int (zI ((aRep S).2 74)), .long (zL ((aRep S).2 75))])), (hm, .inl (D.2 0, 3, .inl (fMu (mu (aRep S).2)))), (hg, .inl (D.2 0, 3, .inl (G2))), (hbu, .inr (0, [.ref hs, .int (zI ((aRep S).2 77))])), (hs, .inl (D.2 0, 8, .inl (fSt (aRep S).2))), (hp, .inr (2, [.ref hw, .ref hz, .ref hl0, .int (zI ((aRep S).2 0))])), (hw, .inl (D.2 0, 16, .inl (fC (aRep S).2 0))), (hz, .inl (D.2 5, 3, .inr (.inr (.inr (.inr (f3 h0 h1 h2)))))), (h0, .inl (D.2 0, 16, .inl (fC (aRep S).2 1))), (h1, .inl (D.2 0, 16, .inl (fC (aRep S).2 2))), (h2, .inl (D.2 0, 16, .inl (fC (aRep S).2 3))), (hl0, .inl (D.2 0, 3, .inl (fLm (aRep S).2)))] H locs := w.sub [0, 1, 2, 3, 4, 5, 6, 7, 8, 9, 10, 11, 12, 13, 14] (by decide) rfl
    exact z_iret hx hb hr hlocks w dX6_carryOutOrder_142 (by rw [show kk = 120 by omega, aOrd_120]; exact ⟨rfl, G2, rfl⟩)
  · skip
    obtain ⟨nk15_0, nk15_1, nk15_2, nk15_3, nk15_4, nk15_5⟩ := csw15
    refine z_lswit (tgt := 154) hx hb (by omega) dX6_carryOutOrder_15 (by decide) (off := 139) (by simp [Op.lookupswitch.offset, nk15_0, Ne.symm nk15_0, nk15_1, Ne.symm nk15_1, nk15_2, Ne.symm nk15_2, nk15_3, Ne.symm nk15_3, nk15_4, Ne.symm nk15_4, nk15_5, Ne.symm nk15_5]) (by decide) ?_
    exact absurd hkk (by omega)
