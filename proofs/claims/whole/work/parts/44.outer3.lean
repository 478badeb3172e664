set_option maxHeartbeats 6000000 in
set_option maxRecDepth 100000 in
theorem c_X6_ofItem (l : Launch) (D : zD) (hxo ho hm hg hbu hs hp hw hz h0 h1 h2 hl0 hh hsa hsv hpd9 hse hmt : Nat) (S : Nat → Int) (G : Nat → Int32) (B : Int) (hB : B ≤ 1900000000) (hok : OkS B S) (i0 what : Int) (hi0 : zB i0) (hw0 : zB what) : zM l yX6_ofItem wsX6_ofItem (zR (5)) zE0 D [.ref hxo, .int (zI (i0)), .int (zI (what))] ((hxo, .inr (6, [.ref ho, .ref hh, .ref hsa, .ref hsv, .ref hpd9, .ref hse, .ref hmt])) :: (wSt D ho hm hg hbu hs hp hw hz h0 h1 h2 hl0 S G)) (zQi D (fun r W1 => r = zI (qItem S i0 what) ∧ W1 = ((hxo, .inr (6, [.ref ho, .ref hh, .ref hsa, .ref hsv, .ref hpd9, .ref hse, .ref hmt])) :: (wSt D ho hm hg hbu hs hp hw hz h0 h1 h2 hl0 S G)))) := by
  refine zM.of (cc := cX6_ofItem) (maxL := 3) (ret := (some .int)) (by decide) rfl (Nat.le_of_ble_eq_true rfl) ?_
  intro p e s m below meth c A hx hb hml hown hts hr hlocks hE hnm w ls hl
  have hown : s.vm.findClass RX6 = some m.cls := hown
  have hl : lv_has ls 3 [(0, .ref hxo), (1, .int (zI (i0))), (2, .int (zI (what)))] := hl
  have f_10 : (Cond.fieldLink RX6 10 "RelaxedSteps" "now" "LRelaxedSteps$State;").before _ s = true := hts _ (by decide +kernel)
  have f_81 : (Cond.fieldLink RX6 81 "RelaxedSteps$State" "packing" "LRelaxedSteps$Packing;").before _ s = true := hts _ (by decide +kernel)
  have f_91 : (Cond.fieldLink RX6 91 "RelaxedSteps$Packing" "worths" "[I").before _ s = true := hts _ (by decide +kernel)
  have f_94 : (Cond.fieldLink RX6 94 "RelaxedSteps$Packing" "sizes" "[[I").before _ s = true := hts _ (by decide +kernel)
  have f_98 : (Cond.fieldLink RX6 98 "RelaxedSteps$State" "multipliers" "[I").before _ s = true := hts _ (by decide +kernel)
  have f_121 : (Cond.fieldLink RX6 121 "RelaxedSteps$State" "solution" "I").before _ s = true := hts _ (by decide +kernel)
  have inX6 : ∀ w ∈ u_ws RX6 TX6 7, w ∈ wsX6_ofItem := by decide +kernel
  have inX5 : ∀ w ∈ u_ws RX5 TX5 11, w ∈ wsX6_ofItem := by decide +kernel
  have inX2 : ∀ w ∈ u_ws RX2 TX2 4, w ∈ wsX6_ofItem := by decide +kernel
  obtain ⟨hokp, hokm, hokb, hsc, hbe⟩ := id hok
  have hn := zn_eq hokp
  have h16 := zn_le hokp
  have hlim := hokp.2.2
  have hm1 := hokm
  unfold OkM mu at hm1
  have hsw := fSw_b hok
  have hso := fSol_b hok
  have hhu := sHu_b hok
  have hbd := sBd_b hokp hokm
  have hkb := hokb.1
  have hqq := hokp.1
  have hrl := sRel_16 (M := mu S) hokp
  have hbw := sBw_b hokp
  have hfe := fSw_b hok
  have w : zW D A s.heap s [(hxo, .inr (6, [.ref ho, .ref hh, .ref hsa, .ref hsv, .ref hpd9, .ref hse, .ref hmt])), (ho, .inr (5, [.ref hp, .ref hbu, .ref hm, .ref hg, .int (zI (S 71)), .int (zI (S 72)), .int (zI (fSol S)), .int (zI (fSw S)), .int (zI (S 73)), .int (zI (S 74)), .long (zL (S 75))])), (hm, .inl (D.2 0, 3, .inl (fMu (mu S)))), (hg, .inl (D.2 0, 3, .inl (G))), (hbu, .inr (0, [.ref hs, .int (zI (S 77))])), (hs, .inl (D.2 0, 8, .inl (fSt S))), (hp, .inr (2, [.ref hw, .ref hz, .ref hl0, .int (zI (S 0))])), (hw, .inl (D.2 0, 16, .inl (fC S 0))), (hz, .inl (D.2 5, 3, .inr (.inr (.inr (.inr (f3 h0 h1 h2)))))), (h0, .inl (D.2 0, 16, .inl (fC S 1))), (h1, .inl (D.2 0, 16, .inl (fC S 2))), (h2, .inl (D.2 0, 16, .inl (fC S 3))), (hl0, .inl (D.2 0, 3, .inl (fLm S)))] s.heap [] := w
  refine lv_aload_n hx hb dX6_ofItem_0 rfl (lv_at hl 0 rfl) ?_
  refine z_get hx hb hown hts w inX6 0 0 rfl rfl (by decide) f_10 rfl rfl dX6_ofItem_1 ?_
  refine z_get hx hb hown hts w inX5 1 0 rfl rfl (by decide) f_81 rfl rfl dX6_ofItem_4 ?_
  refine lv_iload_n hx hb dX6_ofItem_7 rfl (lv_at hl 1 rfl) ?_
  refine z_V_i (As := [.int (zI (i0))]) (rest := []) (Wr := [(hxo, .inr (6, [.ref ho, .ref hh, .ref hsa, .ref hsv, .ref hpd9, .ref hse, .ref hmt])), (ho, .inr (5, [.ref hp, .ref hbu, .ref hm, .ref hg, .int (zI (S 71)), .int (zI (S 72)), .int (zI (fSol S)), .int (zI (fSw S)), .int (zI (S 73)), .int (zI (S 74)), .long (zL (S 75))])), (hm, .inl (D.2 0, 3, .inl (fMu (mu S)))), (hg, .inl (D.2 0, 3, .inl (G))), (hbu, .inr (0, [.ref hs, .int (zI (S 77))])), (hs, .inl (D.2 0, 8, .inl (fSt S)))]) ⟨hx, hb, hml, hown, hts⟩ (c_X2_has l D hp hw hz h0 h1 h2 hl0 S hokp i0 (by omega)) (cwV 1 hts gX6_ofItem_X2_has rfl rfl rfl (by decide +kernel) ⟨Nat.le_of_ble_eq_true rfl, Nat.le_of_ble_eq_true rfl⟩) w (q0 := 6) rfl rfl rfl [6, 7, 8, 9, 10, 11, 12] rfl (by decide) [0, 1, 2, 3, 4, 5] rfl (by decide) (by decide) rfl hl.1 rfl (lv_room (Nat.le_of_ble_eq_true rfl)) dX6_ofItem_8 ⟨Nat.zero_le _, Nat.zero_le _⟩ (fun r W1 H locs hp w => ?_)
  obtain ⟨rfl, rfl⟩ := hp
  have w : zW D A s.heap s [(hxo, .inr (6, [.ref ho, .ref hh, .ref hsa, .ref hsv, .ref hpd9, .ref hse, .ref hmt])), (ho, .inr (5, [.ref hp, .ref hbu, .ref hm, .ref hg, .int (zI (S 71)), .int (zI (S 72)), .int (zI (fSol S)), .int (zI (fSw S)), .int (zI (S 73)), .int (zI (S 74)), .long (zL (S 75))])), (hm, .inl (D.2 0, 3, .inl (fMu (mu S)))), (hg, .inl (D.2 0, 3, .inl (G))), (hbu, .inr (0, [.ref hs, .int (zI (S 77))])), (hs, .inl (D.2 0, 8, .inl (fSt S))), (hp, .inr (2, [.ref hw, .ref hz, .ref hl0, .int (zI (S 0))])), (hw, .inl (D.2 0, 16, .inl (fC S 0))), (hz, .inl (D.2 5, 3, .inr (.inr (.inr (.inr (f3 h0 h1 h2)))))), (h0, .inl (D.2 0, 16, .inl (fC S 1))), (h1, .inl (D.2 0, 16, .inl (fC S 2))), (h2, .inl (D.2 0, 16, .inl (fC S 3))), (hl0, .inl (D.2 0, 3, .inl (fLm S)))] H locs := w.sub [0, 1, 2, 3, 4, 5, 6, 7, 8, 9, 10, 11, 12] (by decide) rfl
  refine z_if_ne_b (tgt := 16) hx hb dX6_ofItem_11 (by decide) (fun c11 => ?_) (fun c11 => ?_)
  · skip
    refine lv_iload_n hx hb dX6_ofItem_16 rfl (lv_at hl 2 rfl) ?_
    rcases (show what = 0 ∨ what = 1 ∨ what = 2 ∨ what = 3 ∨ what = 4 ∨ what = 5 ∨ what = 6 ∨ (what < 0 ∨ 6 < what) by omega) with csw17 | csw17 | csw17 | csw17 | csw17 | csw17 | csw17 | csw17
    · skip
      subst csw17
      refine z_tswit (tgt := 60) hx hb (by omega) dX6_ofItem_17 (by omega) (by omega) (off := 43) (by decide) (by decide) ?_
      refine lv_aload_n hx hb dX6_ofItem_60 rfl (lv_at hl 0 rfl) ?_
      refine z_get hx hb hown hts w inX6 0 0 rfl rfl (by decide) f_10 rfl rfl dX6_ofItem_61 ?_
      refine z_get hx hb hown hts w inX5 1 0 rfl rfl (by decide) f_81 rfl rfl dX6_ofItem_64 ?_
      refine z_get hx hb hown hts w inX2 6 0 rfl rfl (by decide) f_91 rfl rfl dX6_ofItem_67 ?_
      refine lv_iload_n hx hb dX6_ofItem_70 rfl (lv_at hl 1 rfl) ?_
      refine z_iald hx hb w 7 rfl ((i0).toNat) (by omega) (by decide) (Int.toNat_of_nonneg (by omega)).symm (v := (zI (sC S 0 ((i0).toNat)))) (if_pos (by omega)) dX6_ofItem_71 ?_
      exact z_iret hx hb hr hlocks w dX6_ofItem_72 ⟨by unfold qItem; rw [if_pos c11, if_pos (by omega)]; rfl, rfl⟩
    · skip
      subst csw17
      refine z_tswit (tgt := 73) hx hb (by omega) dX6_ofItem_17 (by omega) (by omega) (off := 56) (by decide) (by decide) ?_
      refine lv_aload_n hx hb dX6_ofItem_73 rfl (lv_at hl 0 rfl) ?_
      refine z_get hx hb hown hts w inX6 0 0 rfl rfl (by decide) f_10 rfl rfl dX6_ofItem_74 ?_
      refine z_get hx hb hown hts w inX5 1 0 rfl rfl (by decide) f_81 rfl rfl dX6_ofItem_77 ?_
      refine z_get hx hb hown hts w inX2 6 1 rfl rfl (by decide) f_94 rfl rfl dX6_ofItem_80 ?_
      refine lv_iload_n hx hb dX6_ofItem_83 rfl (lv_at hl 2 rfl) ?_
      refine lv_iconst (v := zI 1) hx hb dX6_ofItem_84 rfl ?_
      refine z_isub hx hb dX6_ofItem_85 ?_
      refine z_aald (t0 := 5) hx hb w 8 rfl rfl rfl 0 (by omega) (by decide) rfl (v := h0) rfl dX6_ofItem_86 ?_
      refine lv_iload_n hx hb dX6_ofItem_87 rfl (lv_at hl 1 rfl) ?_
      refine z_iald hx hb w 9 rfl ((i0).toNat) (by omega) (by decide) (Int.toNat_of_nonneg (by omega)).symm (v := (zI (sC S 1 ((i0).toNat)))) (if_pos (by omega)) dX6_ofItem_88 ?_
      exact z_iret hx hb hr hlocks w dX6_ofItem_89 ⟨by unfold qItem; rw [if_pos c11, if_pos (by omega)]; rfl, rfl⟩
    · skip
      subst csw17
      refine z_tswit (tgt := 73) hx hb (by omega) dX6_ofItem_17 (by omega) (by omega) (off := 56) (by decide) (by decide) ?_
      refine lv_aload_n hx hb dX6_ofItem_73 rfl (lv_at hl 0 rfl) ?_
      refine z_get hx hb hown hts w inX6 0 0 rfl rfl (by decide) f_10 rfl rfl dX6_ofItem_74 ?_
      refine z_get hx hb hown hts w inX5 1 0 rfl rfl (by decide) f_81 rfl rfl dX6_ofItem_77 ?_
      refine z_get hx hb hown hts w inX2 6 1 rfl rfl (by decide) f_94 rfl rfl dX6_ofItem_80 ?_
      refine lv_iload_n hx hb dX6_ofItem_83 rfl (lv_at hl 2 rfl) ?_
      refine lv_iconst (v := zI 1) hx hb dX6_ofItem_84 rfl ?_
      refine z_isub hx hb dX6_ofItem_85 ?_
      refine z_aald (t0 := 5) hx hb w 8 rfl rfl rfl 1 (by omega) (by decide) rfl (v := h1) rfl dX6_ofItem_86 ?_
      refine lv_iload_n hx hb dX6_ofItem_87 rfl (lv_at hl 1 rfl) ?_
      refine z_iald hx hb w 10 rfl ((i0).toNat) (by omega) (by decide) (Int.toNat_of_nonneg (by omega)).symm (v := (zI (sC S 2 ((i0).toNat)))) (if_pos (by omega)) dX6_ofItem_88 ?_
      exact z_iret hx hb hr hlocks w dX6_ofItem_89 ⟨by unfold qItem; rw [if_pos c11, if_pos (by omega)]; rfl, rfl⟩
    · skip
      subst csw17
      refine z_tswit (tgt := 73) hx hb (by omega) dX6_ofItem_17 (by omega) (by omega) (off := 56) (by decide) (by decide) ?_
      refine lv_aload_n hx hb dX6_ofItem_73 rfl (lv_at hl 0 rfl) ?_
      refine z_get hx hb hown hts w inX6 0 0 rfl rfl (by decide) f_10 rfl rfl dX6_ofItem_74 ?_
      refine z_get hx hb hown hts w inX5 1 0 rfl rfl (by decide) f_81 rfl rfl dX6_ofItem_77 ?_
      refine z_get hx hb hown hts w inX2 6 1 rfl rfl (by decide) f_94 rfl rfl dX6_ofItem_80 ?_
      refine lv_iload_n hx hb dX6_ofItem_83 rfl (lv_at hl 2 rfl) ?_
      refine lv_iconst (v := zI 1) hx hb dX6_ofItem_84 rfl ?_
      refine z_isub hx hb dX6_ofItem_85 ?_
      refine z_aald (t0 := 5) hx hb w 8 rfl rfl rfl 2 (by omega) (by decide) rfl (v := h2) rfl dX6_ofItem_86 ?_
      refine lv_iload_n hx hb dX6_ofItem_87 rfl (lv_at hl 1 rfl) ?_
      refine z_iald hx hb w 11 rfl ((i0).toNat) (by omega) (by decide) (Int.toNat_of_nonneg (by omega)).symm (v := (zI (sC S 3 ((i0).toNat)))) (if_pos (by omega)) dX6_ofItem_88 ?_
      exact z_iret hx hb hr hlocks w dX6_ofItem_89 ⟨by unfold qItem; rw [if_pos c11, if_pos (by omega)]; rfl, rfl⟩
    · skip
      subst csw17
      refine z_tswit (tgt := 90) hx hb (by omega) dX6_ofItem_17 (by omega) (by omega) (off := 73) (by decide) (by decide) ?_
      refine lv_aload_n hx hb dX6_ofItem_90 rfl (lv_at hl 0 rfl) ?_
      refine z_get hx hb hown hts w inX6 0 0 rfl rfl (by decide) f_10 rfl rfl dX6_ofItem_91 ?_
      refine z_get hx hb hown hts w inX5 1 0 rfl rfl (by decide) f_81 rfl rfl dX6_ofItem_94 ?_
      refine lv_iload_n hx hb dX6_ofItem_97 rfl (lv_at hl 1 rfl) ?_
      refine lv_aload_n hx hb dX6_ofItem_98 rfl (lv_at hl 0 rfl) ?_
      refine z_get hx hb hown hts w inX6 0 0 rfl rfl (by decide) f_10 rfl rfl dX6_ofItem_99 ?_
      refine z_get hx hb hown hts w inX5 1 2 rfl rfl (by decide) f_98 rfl rfl dX6_ofItem_102 ?_
      have hi9 : 0 ≤ i0 := (by omega)
      refine W.eq (g2 := F0 m 105 ls [.ref hm, .int (zI (((i0.toNat : Nat) : Int))), .ref hp]) (by rw [Int.toNat_of_nonneg hi9]) ?_
      refine z_V_i (As := [.int (zI (((i0.toNat : Nat) : Int))), .ref hm]) (rest := []) (Wr := [(hxo, .inr (6, [.ref ho, .ref hh, .ref hsa, .ref hsv, .ref hpd9, .ref hse, .ref hmt])), (ho, .inr (5, [.ref hp, .ref hbu, .ref hm, .ref hg, .int (zI (S 71)), .int (zI (S 72)), .int (zI (fSol S)), .int (zI (fSw S)), .int (zI (S 73)), .int (zI (S 74)), .long (zL (S 75))])), (hg, .inl (D.2 0, 3, .inl (G))), (hbu, .inr (0, [.ref hs, .int (zI (S 77))])), (hs, .inl (D.2 0, 8, .inl (fSt S)))]) ⟨hx, hb, hml, hown, hts⟩ (c_X2_price l D hp hw hz h0 h1 h2 hl0 hm S (mu S) hokp i0.toNat (by omega)) (cwV 2 hts gX6_ofItem_X2_price rfl rfl rfl (by decide +kernel) ⟨Nat.le_of_ble_eq_true rfl, Nat.le_of_ble_eq_true rfl⟩) w (q0 := 6) rfl rfl rfl [6, 7, 8, 9, 10, 11, 12, 2] rfl (by decide) [0, 1, 3, 4, 5] rfl (by decide) (by decide) rfl hl.1 rfl (lv_room (Nat.le_of_ble_eq_true rfl)) dX6_ofItem_105 ⟨Nat.zero_le _, Nat.zero_le _⟩ (fun r W1 H locs hp w => ?_)
      obtain ⟨rfl, rfl⟩ := hp
      have w : zW D A s.heap s [(hxo, .inr (6, [.ref ho, .ref hh, .ref hsa, .ref hsv, .ref hpd9, .ref hse, .ref hmt])), (ho, .inr (5, [.ref hp, .ref hbu, .ref hm, .ref hg, .int (zI (S 71)), .int (zI (S 72)), .int (zI (fSol S)), .int (zI (fSw S)), .int (zI (S 73)), .int (zI (S 74)), .long (zL (S 75))])), (hm, .inl (D.2 0, 3, .inl (fMu (mu S)))), (hg, .inl (D.2 0, 3, .inl (G))), (hbu, .inr (0, [.ref hs, .int (zI (S 77))])), (hs, .inl (D.2 0, 8, .inl (fSt S))), (hp, .inr (2, [.ref hw, .ref hz, .ref hl0, .int (zI (S 0))])), (hw, .inl (D.2 0, 16, .inl (fC S 0))), (hz, .inl (D.2 5, 3, .inr (.inr (.inr (.inr (f3 h0 h1 h2)))))), (h0, .inl (D.2 0, 16, .inl (fC S 1))), (h1, .inl (D.2 0, 16, .inl (fC S 2))), (h2, .inl (D.2 0, 16, .inl (fC S 3))), (hl0, .inl (D.2 0, 3, .inl (fLm S)))] H locs := w.sub [0, 1, 12, 2, 3, 4, 5, 6, 7, 8, 9, 10, 11] (by decide) rfl
      refine lv_ldc (v := zI 1000000000) hx hb hown (hts (.constant RX6 105 (zI 1000000000)) (by decide +kernel)) dX6_ofItem_108 ?_
      refine z_iadd hx hb dX6_ofItem_110 ?_
      exact z_iret hx hb hr hlocks w dX6_ofItem_111 ⟨by unfold qItem; rw [if_pos c11, if_pos (by omega)]; rfl, rfl⟩
    · skip
      subst csw17
      refine z_tswit (tgt := 112) hx hb (by omega) dX6_ofItem_17 (by omega) (by omega) (off := 95) (by decide) (by decide) ?_
      refine lv_iload_n hx hb dX6_ofItem_112 rfl (lv_at hl 1 rfl) ?_
      refine lv_aload_n hx hb dX6_ofItem_113 rfl (lv_at hl 0 rfl) ?_
      refine z_get hx hb hown hts w inX6 0 0 rfl rfl (by decide) f_10 rfl rfl dX6_ofItem_114 ?_
      refine z_V_i (As := []) (rest := [.int (zI (i0))]) (Wr := [(hxo, .inr (6, [.ref ho, .ref hh, .ref hsa, .ref hsv, .ref hpd9, .ref hse, .ref hmt])), (hg, .inl (D.2 0, 3, .inl (G))), (hbu, .inr (0, [.ref hs, .int (zI (S 77))])), (hs, .inl (D.2 0, 8, .inl (fSt S)))]) ⟨hx, hb, hml, hown, hts⟩ (c_X5_relaxedSet l D ho hm hp hw hz h0 h1 h2 hl0 hbu hg S (mu S) (S 71) (S 72) (fSol S) (fSw S) (S 73) (S 74) (S 75) hokp hokm) (cwV 0 hts gX6_ofItem_X5_relaxedSet rfl rfl rfl (by decide +kernel) ⟨Nat.le_of_ble_eq_true rfl, Nat.le_of_ble_eq_true rfl⟩) w (q0 := 1) rfl rfl rfl [1, 2, 6, 7, 8, 9, 10, 11, 12] rfl (by decide) [0, 3, 4, 5] rfl (by decide) (by decide) rfl hl.1 rfl (lv_room (Nat.le_of_ble_eq_true rfl)) dX6_ofItem_117 ⟨Nat.zero_le _, Nat.zero_le _⟩ (fun r W1 H locs hp w => ?_)
      obtain ⟨rfl, rfl⟩ := hp
      have w : zW D A s.heap s [(hxo, .inr (6, [.ref ho, .ref hh, .ref hsa, .ref hsv, .ref hpd9, .ref hse, .ref hmt])), (ho, .inr (5, [.ref hp, .ref hbu, .ref hm, .ref hg, .int (zI (S 71)), .int (zI (S 72)), .int (zI (fSol S)), .int (zI (fSw S)), .int (zI (S 73)), .int (zI (S 74)), .long (zL (S 75))])), (hm, .inl (D.2 0, 3, .inl (fMu (mu S)))), (hg, .inl (D.2 0, 3, .inl (G))), (hbu, .inr (0, [.ref hs, .int (zI (S 77))])), (hs, .inl (D.2 0, 8, .inl (fSt S))), (hp, .inr (2, [.ref hw, .ref hz, .ref hl0, .int (zI (S 0))])), (hw, .inl (D.2 0, 16, .inl (fC S 0))), (hz, .inl (D.2 5, 3, .inr (.inr (.inr (.inr (f3 h0 h1 h2)))))), (h0, .inl (D.2 0, 16, .inl (fC S 1))), (h1, .inl (D.2 0, 16, .inl (fC S 2))), (h2, .inl (D.2 0, 16, .inl (fC S 3))), (hl0, .inl (D.2 0, 3, .inl (fLm S)))] H locs := w.sub [0, 4, 5, 1, 2, 3, 6, 7, 8, 9, 10, 11, 12] (by decide) rfl
      have hi9 : 0 ≤ i0 := (by omega)
      refine W.eq (g2 := F0 m 120 ls [.int (zI (((sRel S (mu S) : Nat) : Int))), .int (zI (((i0.toNat : Nat) : Int)))]) (by rw [Int.toNat_of_nonneg hi9]) ?_
      refine z_S_i (As := [.int (zI (((i0.toNat : Nat) : Int))), .int (zI (((sRel S (mu S) : Nat) : Int)))]) (rest := []) (Wr := [(hxo, .inr (6, [.ref ho, .ref hh, .ref hsa, .ref hsv, .ref hpd9, .ref hse, .ref hmt])), (ho, .inr (5, [.ref hp, .ref hbu, .ref hm, .ref hg, .int (zI (S 71)), .int (zI (S 72)), .int (zI (fSol S)), .int (zI (fSw S)), .int (zI (S 73)), .int (zI (S 74)), .long (zL (S 75))])), (hm, .inl (D.2 0, 3, .inl (fMu (mu S)))), (hg, .inl (D.2 0, 3, .inl (G))), (hbu, .inr (0, [.ref hs, .int (zI (S 77))])), (hs, .inl (D.2 0, 8, .inl (fSt S))), (hp, .inr (2, [.ref hw, .ref hz, .ref hl0, .int (zI (S 0))])), (hw, .inl (D.2 0, 16, .inl (fC S 0))), (hz, .inl (D.2 5, 3, .inr (.inr (.inr (.inr (f3 h0 h1 h2)))))), (h0, .inl (D.2 0, 16, .inl (fC S 1))), (h1, .inl (D.2 0, 16, .inl (fC S 2))), (h2, .inl (D.2 0, 16, .inl (fC S 3))), (hl0, .inl (D.2 0, 3, .inl (fLm S)))]) ⟨hx, hb, hml, hown, hts⟩ (c_X6_isIn l D i0.toNat (sRel S (mu S)) (by omega) (by omega)) (va_cwS 2 hts gX6_ofItem_X6_isIn rfl rfl rfl (by decide +kernel) ⟨Nat.le_of_ble_eq_true rfl, Nat.le_of_ble_eq_true rfl⟩) w [] rfl (by decide) [0, 1, 2, 3, 4, 5, 6, 7, 8, 9, 10, 11, 12] rfl (by decide) (by decide) rfl hl.1 rfl (lv_room (Nat.le_of_ble_eq_true rfl)) dX6_ofItem_120 ⟨Nat.zero_le _, Nat.zero_le _⟩ (fun r W1 H locs hp w => ?_)
      obtain ⟨rfl, rfl⟩ := hp
      have w : zW D A s.heap s [(hxo, .inr (6, [.ref ho, .ref hh, .ref hsa, .ref hsv, .ref hpd9, .ref hse, .ref hmt])), (ho, .inr (5, [.ref hp, .ref hbu, .ref hm, .ref hg, .int (zI (S 71)), .int (zI (S 72)), .int (zI (fSol S)), .int (zI (fSw S)), .int (zI (S 73)), .int (zI (S 74)), .long (zL (S 75))])), (hm, .inl (D.2 0, 3, .inl (fMu (mu S)))), (hg, .inl (D.2 0, 3, .inl (G))), (hbu, .inr (0, [.ref hs, .int (zI (S 77))])), (hs, .inl (D.2 0, 8, .inl (fSt S))), (hp, .inr (2, [.ref hw, .ref hz, .ref hl0, .int (zI (S 0))])), (hw, .inl (D.2 0, 16, .inl (fC S 0))), (hz, .inl (D.2 5, 3, .inr (.inr (.inr (.inr (f3 h0 h1 h2)))))), (h0, .inl (D.2 0, 16, .inl (fC S 1))), (h1, .inl (D.2 0, 16, .inl (fC S 2))), (h2, .inl (D.2 0, 16, .inl (fC S 3))), (hl0, .inl (D.2 0, 3, .inl (fLm S)))] H locs := w.sub [0, 1, 2, 3, 4, 5, 6, 7, 8, 9, 10, 11, 12] (by decide) rfl
      refine z_S_i (As := [.int (zI (zb ((sRel S (mu S)).testBit i0.toNat = true)))]) (rest := []) (Wr := [(hxo, .inr (6, [.ref ho, .ref hh, .ref hsa, .ref hsv, .ref hpd9, .ref hse, .ref hmt])), (ho, .inr (5, [.ref hp, .ref hbu, .ref hm, .ref hg, .int (zI (S 71)), .int (zI (S 72)), .int (zI (fSol S)), .int (zI (fSw S)), .int (zI (S 73)), .int (zI (S 74)), .long (zL (S 75))])), (hm, .inl (D.2 0, 3, .inl (fMu (mu S)))), (hg, .inl (D.2 0, 3, .inl (G))), (hbu, .inr (0, [.ref hs, .int (zI (S 77))])), (hs, .inl (D.2 0, 8, .inl (fSt S))), (hp, .inr (2, [.ref hw, .ref hz, .ref hl0, .int (zI (S 0))])), (hw, .inl (D.2 0, 16, .inl (fC S 0))), (hz, .inl (D.2 5, 3, .inr (.inr (.inr (.inr (f3 h0 h1 h2)))))), (h0, .inl (D.2 0, 16, .inl (fC S 1))), (h1, .inl (D.2 0, 16, .inl (fC S 2))), (h2, .inl (D.2 0, 16, .inl (fC S 3))), (hl0, .inl (D.2 0, 3, .inl (fLm S)))]) ⟨hx, hb, hml, hown, hts⟩ (c_X6_oneIf l D ((sRel S (mu S)).testBit i0.toNat = true)) (va_cwS 1 hts gX6_ofItem_X6_oneIf rfl rfl rfl (by decide +kernel) ⟨Nat.le_of_ble_eq_true rfl, Nat.le_of_ble_eq_true rfl⟩) w [] rfl (by decide) [0, 1, 2, 3, 4, 5, 6, 7, 8, 9, 10, 11, 12] rfl (by decide) (by decide) rfl hl.1 rfl (lv_room (Nat.le_of_ble_eq_true rfl)) dX6_ofItem_123 ⟨Nat.zero_le _, Nat.zero_le _⟩ (fun r W1 H locs hp w => ?_)
      obtain ⟨rfl, rfl⟩ := hp
      have w : zW D A s.heap s [(hxo, .inr (6, [.ref ho, .ref hh, .ref hsa, .ref hsv, .ref hpd9, .ref hse, .ref hmt])), (ho, .inr (5, [.ref hp, .ref hbu, .ref hm, .ref hg, .int (zI (S 71)), .int (zI (S 72)), .int (zI (fSol S)), .int (zI (fSw S)), .int (zI (S 73)), .int (zI (S 74)), .long (zL (S 75))])), (hm, .inl (D.2 0, 3, .inl (fMu (mu S)))), (hg, .inl (D.2 0, 3, .inl (G))), (hbu, .inr (0, [.ref hs, .int (zI (S 77))])), (hs, .inl (D.2 0, 8, .inl (fSt S))), (hp, .inr (2, [.ref hw, .ref hz, .ref hl0, .int (zI (S 0))])), (hw, .inl (D.2 0, 16, .inl (fC S 0))), (hz, .inl (D.2 5, 3, .inr (.inr (.inr (.inr (f3 h0 h1 h2)))))), (h0, .inl (D.2 0, 16, .inl (fC S 1))), (h1, .inl (D.2 0, 16, .inl (fC S 2))), (h2, .inl (D.2 0, 16, .inl (fC S 3))), (hl0, .inl (D.2 0, 3, .inl (fLm S)))] H locs := w.sub [0, 1, 2, 3, 4, 5, 6, 7, 8, 9, 10, 11, 12] (by decide) rfl
      exact z_iret hx hb hr hlocks w dX6_ofItem_126 ⟨by unfold qItem; rw [if_pos c11, if_pos (by omega)]; rfl, rfl⟩
    · skip
      subst csw17
      refine z_tswit (tgt := 127) hx hb (by omega) dX6_ofItem_17 (by omega) (by omega) (off := 110) (by decide) (by decide) ?_
      refine lv_aload_n hx hb dX6_ofItem_127 rfl (lv_at hl 0 rfl) ?_
      refine z_get hx hb hown hts w inX6 0 0 rfl rfl (by decide) f_10 rfl rfl dX6_ofItem_128 ?_
      refine z_V_i (As := []) (rest := []) (Wr := [(hxo, .inr (6, [.ref ho, .ref hh, .ref hsa, .ref hsv, .ref hpd9, .ref hse, .ref hmt])), (hm, .inl (D.2 0, 3, .inl (fMu (mu S)))), (hg, .inl (D.2 0, 3, .inl (G))), (hbu, .inr (0, [.ref hs, .int (zI (S 77))])), (hs, .inl (D.2 0, 8, .inl (fSt S))), (hp, .inr (2, [.ref hw, .ref hz, .ref hl0, .int (zI (S 0))])), (hw, .inl (D.2 0, 16, .inl (fC S 0))), (hz, .inl (D.2 5, 3, .inr (.inr (.inr (.inr (f3 h0 h1 h2)))))), (h0, .inl (D.2 0, 16, .inl (fC S 1))), (h1, .inl (D.2 0, 16, .inl (fC S 2))), (h2, .inl (D.2 0, 16, .inl (fC S 3))), (hl0, .inl (D.2 0, 3, .inl (fLm S)))]) ⟨hx, hb, hml, hown, hts⟩ (c_X5_hasSolution l D ho hp hbu hm hg (S 71) (S 72) (fSol S) (fSw S) (S 73) (S 74) (S 75) (by omega)) (cwV 0 hts gX6_ofItem_X5_hasSolution rfl rfl rfl (by decide +kernel) ⟨Nat.le_of_ble_eq_true rfl, Nat.le_of_ble_eq_true rfl⟩) w (q0 := 1) rfl rfl rfl [1] rfl (by decide) [0, 2, 3, 4, 5, 6, 7, 8, 9, 10, 11, 12] rfl (by decide) (by decide) rfl hl.1 rfl (lv_room (Nat.le_of_ble_eq_true rfl)) dX6_ofItem_131 ⟨Nat.zero_le _, Nat.zero_le _⟩ (fun r W1 H locs hp w => ?_)
      obtain ⟨rfl, rfl⟩ := hp
      have w : zW D A s.heap s [(hxo, .inr (6, [.ref ho, .ref hh, .ref hsa, .ref hsv, .ref hpd9, .ref hse, .ref hmt])), (ho, .inr (5, [.ref hp, .ref hbu, .ref hm, .ref hg, .int (zI (S 71)), .int (zI (S 72)), .int (zI (fSol S)), .int (zI (fSw S)), .int (zI (S 73)), .int (zI (S 74)), .long (zL (S 75))])), (hm, .inl (D.2 0, 3, .inl (fMu (mu S)))), (hg, .inl (D.2 0, 3, .inl (G))), (hbu, .inr (0, [.ref hs, .int (zI (S 77))])), (hs, .inl (D.2 0, 8, .inl (fSt S))), (hp, .inr (2, [.ref hw, .ref hz, .ref hl0, .int (zI (S 0))])), (hw, .inl (D.2 0, 16, .inl (fC S 0))), (hz, .inl (D.2 5, 3, .inr (.inr (.inr (.inr (f3 h0 h1 h2)))))), (h0, .inl (D.2 0, 16, .inl (fC S 1))), (h1, .inl (D.2 0, 16, .inl (fC S 2))), (h2, .inl (D.2 0, 16, .inl (fC S 3))), (hl0, .inl (D.2 0, 3, .inl (fLm S)))] H locs := w.sub [0, 12, 1, 2, 3, 4, 5, 6, 7, 8, 9, 10, 11] (by decide) rfl
      refine z_if_eq_b (tgt := 155) hx hb dX6_ofItem_134 (by decide) (fun c134 => ?_) (fun c134 => ?_)
      · skip
        refine lv_iconst (v := zI 0) hx hb dX6_ofItem_155 rfl ?_
        refine z_S_i (As := [.int (zI (0))]) (rest := []) (Wr := [(hxo, .inr (6, [.ref ho, .ref hh, .ref hsa, .ref hsv, .ref hpd9, .ref hse, .ref hmt])), (ho, .inr (5, [.ref hp, .ref hbu, .ref hm, .ref hg, .int (zI (S 71)), .int (zI (S 72)), .int (zI (fSol S)), .int (zI (fSw S)), .int (zI (S 73)), .int (zI (S 74)), .long (zL (S 75))])), (hm, .inl (D.2 0, 3, .inl (fMu (mu S)))), (hg, .inl (D.2 0, 3, .inl (G))), (hbu, .inr (0, [.ref hs, .int (zI (S 77))])), (hs, .inl (D.2 0, 8, .inl (fSt S))), (hp, .inr (2, [.ref hw, .ref hz, .ref hl0, .int (zI (S 0))])), (hw, .inl (D.2 0, 16, .inl (fC S 0))), (hz, .inl (D.2 5, 3, .inr (.inr (.inr (.inr (f3 h0 h1 h2)))))), (h0, .inl (D.2 0, 16, .inl (fC S 1))), (h1, .inl (D.2 0, 16, .inl (fC S 2))), (h2, .inl (D.2 0, 16, .inl (fC S 3))), (hl0, .inl (D.2 0, 3, .inl (fLm S)))]) ⟨hx, hb, hml, hown, hts⟩ (c_X6_oneIf l D False) (va_cwS 1 hts gX6_ofItem_X6_oneIf rfl rfl rfl (by decide +kernel) ⟨Nat.le_of_ble_eq_true rfl, Nat.le_of_ble_eq_true rfl⟩) w [] rfl (by decide) [0, 1, 2, 3, 4, 5, 6, 7, 8, 9, 10, 11, 12] rfl (by decide) (by decide) rfl hl.1 rfl (lv_room (Nat.le_of_ble_eq_true rfl)) dX6_ofItem_156 ⟨Nat.zero_le _, Nat.zero_le _⟩ (fun r W1 H locs hp w => ?_)
        obtain ⟨rfl, rfl⟩ := hp
        have w : zW D A s.heap s [(hxo, .inr (6, [.ref ho, .ref hh, .ref hsa, .ref hsv, .ref hpd9, .ref hse, .ref hmt])), (ho, .inr (5, [.ref hp, .ref hbu, .ref hm, .ref hg, .int (zI (S 71)), .int (zI (S 72)), .int (zI (fSol S)), .int (zI (fSw S)), .int (zI (S 73)), .int (zI (S 74)), .long (zL (S 75))])), (hm, .inl (D.2 0, 3, .inl (fMu (mu S)))), (hg, .inl (D.2 0, 3, .inl (G))), (hbu, .inr (0, [.ref hs, .int (zI (S 77))])), (hs, .inl (D.2 0, 8, .inl (fSt S))), (hp, .inr (2, [.ref hw, .ref hz, .ref hl0, .int (zI (S 0))])), (hw, .inl (D.2 0, 16, .inl (fC S 0))), (hz, .inl (D.2 5, 3, .inr (.inr (.inr (.inr (f3 h0 h1 h2)))))), (h0, .inl (D.2 0, 16, .inl (fC S 1))), (h1, .inl (D.2 0, 16, .inl (fC S 2))), (h2, .inl (D.2 0, 16, .inl (fC S 3))), (hl0, .inl (D.2 0, 3, .inl (fLm S)))] H locs := w.sub [0, 1, 2, 3, 4, 5, 6, 7, 8, 9, 10, 11, 12] (by decide) rfl
        exact z_iret hx hb hr hlocks w dX6_ofItem_159 ⟨by unfold qItem; rw [if_pos c11, if_pos (by omega)]; show _ = zI (if S 76 = -6 then 0 else zb ((S 76).toNat.testBit i0.toNat = true)); first | (rw [if_pos (by omega)]; rfl) | (rw [if_neg (by omega), ← fSol_is (S := S) (by omega)]; first | (rw [zb_t c148]; rfl) | (rw [zb_f c148]; rfl)), rfl⟩
      · skip
        refine lv_iload_n hx hb dX6_ofItem_137 rfl (lv_at hl 1 rfl) ?_
        refine lv_aload_n hx hb dX6_ofItem_138 rfl (lv_at hl 0 rfl) ?_
        refine z_get hx hb hown hts w inX6 0 0 rfl rfl (by decide) f_10 rfl rfl dX6_ofItem_139 ?_
        refine z_get hx hb hown hts w inX5 1 6 rfl rfl (by decide) f_121 rfl rfl dX6_ofItem_142 ?_
        have hi9 : 0 ≤ i0 := (by omega)
        refine W.eq (g2 := F0 m 145 ls [.int (zI (fSol S)), .int (zI (((i0.toNat : Nat) : Int)))]) (by rw [Int.toNat_of_nonneg hi9]) ?_
        refine W.eq (g2 := F0 m 145 ls [.int (zI ((((fSol S).toNat : Nat) : Int))), .int (zI (((i0.toNat : Nat) : Int)))]) (by rw [Int.toNat_of_nonneg hso.1]) ?_
        refine z_S_i (As := [.int (zI (((i0.toNat : Nat) : Int))), .int (zI ((((fSol S).toNat : Nat) : Int)))]) (rest := []) (Wr := [(hxo, .inr (6, [.ref ho, .ref hh, .ref hsa, .ref hsv, .ref hpd9, .ref hse, .ref hmt])), (ho, .inr (5, [.ref hp, .ref hbu, .ref hm, .ref hg, .int (zI (S 71)), .int (zI (S 72)), .int (zI (fSol S)), .int (zI (fSw S)), .int (zI (S 73)), .int (zI (S 74)), .long (zL (S 75))])), (hm, .inl (D.2 0, 3, .inl (fMu (mu S)))), (hg, .inl (D.2 0, 3, .inl (G))), (hbu, .inr (0, [.ref hs, .int (zI (S 77))])), (hs, .inl (D.2 0, 8, .inl (fSt S))), (hp, .inr (2, [.ref hw, .ref hz, .ref hl0, .int (zI (S 0))])), (hw, .inl (D.2 0, 16, .inl (fC S 0))), (hz, .inl (D.2 5, 3, .inr (.inr (.inr (.inr (f3 h0 h1 h2)))))), (h0, .inl (D.2 0, 16, .inl (fC S 1))), (h1, .inl (D.2 0, 16, .inl (fC S 2))), (h2, .inl (D.2 0, 16, .inl (fC S 3))), (hl0, .inl (D.2 0, 3, .inl (fLm S)))]) ⟨hx, hb, hml, hown, hts⟩ (c_X6_isIn l D i0.toNat ((fSol S).toNat) (by omega) (by omega)) (va_cwS 2 hts gX6_ofItem_X6_isIn rfl rfl rfl (by decide +kernel) ⟨Nat.le_of_ble_eq_true rfl, Nat.le_of_ble_eq_true rfl⟩) w [] rfl (by decide) [0, 1, 2, 3, 4, 5, 6, 7, 8, 9, 10, 11, 12] rfl (by decide) (by decide) rfl hl.1 rfl (lv_room (Nat.le_of_ble_eq_true rfl)) dX6_ofItem_145 ⟨Nat.zero_le _, Nat.zero_le _⟩ (fun r W1 H locs hp w => ?_)
        obtain ⟨rfl, rfl⟩ := hp
        have w : zW D A s.heap s [(hxo, .inr (6, [.ref ho, .ref hh, .ref hsa, .ref hsv, .ref hpd9, .ref hse, .ref hmt])), (ho, .inr (5, [.ref hp, .ref hbu, .ref hm, .ref hg, .int (zI (S 71)), .int (zI (S 72)), .int (zI (fSol S)), .int (zI (fSw S)), .int (zI (S 73)), .int (zI (S 74)), .long (zL (S 75))])), (hm, .inl (D.2 0, 3, .inl (fMu (mu S)))), (hg, .inl (D.2 0, 3, .inl (G))), (hbu, .inr (0, [.ref hs, .int (zI (S 77))])), (hs, .inl (D.2 0, 8, .inl (fSt S))), (hp, .inr (2, [.ref hw, .ref hz, .ref hl0, .int (zI (S 0))])), (hw, .inl (D.2 0, 16, .inl (fC S 0))), (hz, .inl (D.2 5, 3, .inr (.inr (.inr (.inr (f3 h0 h1 h2)))))), (h0, .inl (D.2 0, 16, .inl (fC S 1))), (h1, .inl (D.2 0, 16, .inl (fC S 2))), (h2, .inl (D.2 0, 16, .inl (fC S 3))), (hl0, .inl (D.2 0, 3, .inl (fLm S)))] H locs := w.sub [0, 1, 2, 3, 4, 5, 6, 7, 8, 9, 10, 11, 12] (by decide) rfl
        refine z_if_eq_b (tgt := 155) hx hb dX6_ofItem_148 (by decide) (fun c148 => ?_) (fun c148 => ?_)
        · skip
          refine lv_iconst (v := zI 0) hx hb dX6_ofItem_155 rfl ?_
          refine z_S_i (As := [.int (zI (0))]) (rest := []) (Wr := [(hxo, .inr (6, [.ref ho, .ref hh, .ref hsa, .ref hsv, .ref hpd9, .ref hse, .ref hmt])), (ho, .inr (5, [.ref hp, .ref hbu, .ref hm, .ref hg, .int (zI (S 71)), .int (zI (S 72)), .int (zI (fSol S)), .int (zI (fSw S)), .int (zI (S 73)), .int (zI (S 74)), .long (zL (S 75))])), (hm, .inl (D.2 0, 3, .inl (fMu (mu S)))), (hg, .inl (D.2 0, 3, .inl (G))), (hbu, .inr (0, [.ref hs, .int (zI (S 77))])), (hs, .inl (D.2 0, 8, .inl (fSt S))), (hp, .inr (2, [.ref hw, .ref hz, .ref hl0, .int (zI (S 0))])), (hw, .inl (D.2 0, 16, .inl (fC S 0))), (hz, .inl (D.2 5, 3, .inr (.inr (.inr (.inr (f3 h0 h1 h2)))))), (h0, .inl (D.2 0, 16, .inl (fC S 1))), (h1, .inl (D.2 0, 16, .inl (fC S 2))), (h2, .inl (D.2 0, 16, .inl (fC S 3))), (hl0, .inl (D.2 0, 3, .inl (fLm S)))]) ⟨hx, hb, hml, hown, hts⟩ (c_X6_oneIf l D False) (va_cwS 1 hts gX6_ofItem_X6_oneIf rfl rfl rfl (by decide +kernel) ⟨Nat.le_of_ble_eq_true rfl, Nat.le_of_ble_eq_true rfl⟩) w [] rfl (by decide) [0, 1, 2, 3, 4, 5, 6, 7, 8, 9, 10, 11, 12] rfl (by decide) (by decide) rfl hl.1 rfl (lv_room (Nat.le_of_ble_eq_true rfl)) dX6_ofItem_156 ⟨Nat.zero_le _, Nat.zero_le _⟩ (fun r W1 H locs hp w => ?_)
          obtain ⟨rfl, rfl⟩ := hp
          have w : zW D A s.heap s [(hxo, .inr (6, [.ref ho, .ref hh, .ref hsa, .ref hsv, .ref hpd9, .ref hse, .ref hmt])), (ho, .inr (5, [.ref hp, .ref hbu, .ref hm, .ref hg, .int (zI (S 71)), .int (zI (S 72)), .int (zI (fSol S)), .int (zI (fSw S)), .int (zI (S 73)), .int (zI (S 74)), .long (zL (S 75))])), (hm, .inl (D.2 0, 3, .inl (fMu (mu S)))), (hg, .inl (D.2 0, 3, .inl (G))), (hbu, .inr (0, [.ref hs, .int (zI (S 77))])), (hs, .inl (D.2 0, 8, .inl (fSt S))), (hp, .inr (2, [.ref hw, .ref hz, .ref hl0, .int (zI (S 0))])), (hw, .inl (D.2 0, 16, .inl (fC S 0))), (hz, .inl (D.2 5, 3, .inr (.inr (.inr (.inr (f3 h0 h1 h2)))))), (h0, .inl (D.2 0, 16, .inl (fC S 1))), (h1, .inl (D.2 0, 16, .inl (fC S 2))), (h2, .inl (D.2 0, 16, .inl (fC S 3))), (hl0, .inl (D.2 0, 3, .inl (fLm S)))] H locs := w.sub [0, 1, 2, 3, 4, 5, 6, 7, 8, 9, 10, 11, 12] (by decide) rfl
          exact z_iret hx hb hr hlocks w dX6_ofItem_159 ⟨by unfold qItem; rw [if_pos c11, if_pos (by omega)]; show _ = zI (if S 76 = -6 then 0 else zb ((S 76).toNat.testBit i0.toNat = true)); first | (rw [if_pos (by omega)]; rfl) | (rw [if_neg (by omega), ← fSol_is (S := S) (by omega)]; first | (rw [zb_t c148]; rfl) | (rw [zb_f c148]; rfl)), rfl⟩
        · skip
          refine lv_iconst (v := zI 1) hx hb dX6_ofItem_151 rfl ?_
          refine lv_goto (tgt := 156) hx hb dX6_ofItem_152 (by decide) ?_
          refine z_S_i (As := [.int (zI (1))]) (rest := []) (Wr := [(hxo, .inr (6, [.ref ho, .ref hh, .ref hsa, .ref hsv, .ref hpd9, .ref hse, .ref hmt])), (ho, .inr (5, [.ref hp, .ref hbu, .ref hm, .ref hg, .int (zI (S 71)), .int (zI (S 72)), .int (zI (fSol S)), .int (zI (fSw S)), .int (zI (S 73)), .int (zI (S 74)), .long (zL (S 75))])), (hm, .inl (D.2 0, 3, .inl (fMu (mu S)))), (hg, .inl (D.2 0, 3, .inl (G))), (hbu, .inr (0, [.ref hs, .int (zI (S 77))])), (hs, .inl (D.2 0, 8, .inl (fSt S))), (hp, .inr (2, [.ref hw, .ref hz, .ref hl0, .int (zI (S 0))])), (hw, .inl (D.2 0, 16, .inl (fC S 0))), (hz, .inl (D.2 5, 3, .inr (.inr (.inr (.inr (f3 h0 h1 h2)))))), (h0, .inl (D.2 0, 16, .inl (fC S 1))), (h1, .inl (D.2 0, 16, .inl (fC S 2))), (h2, .inl (D.2 0, 16, .inl (fC S 3))), (hl0, .inl (D.2 0, 3, .inl (fLm S)))]) ⟨hx, hb, hml, hown, hts⟩ (c_X6_oneIf l D True) (va_cwS 1 hts gX6_ofItem_X6_oneIf rfl rfl rfl (by decide +kernel) ⟨Nat.le_of_ble_eq_true rfl, Nat.le_of_ble_eq_true rfl⟩) w [] rfl (by decide) [0, 1, 2, 3, 4, 5, 6, 7, 8, 9, 10, 11, 12] rfl (by decide) (by decide) rfl hl.1 rfl (lv_room (Nat.le_of_ble_eq_true rfl)) dX6_ofItem_156 ⟨Nat.zero_le _, Nat.zero_le _⟩ (fun r W1 H locs hp w => ?_)
          obtain ⟨rfl, rfl⟩ := hp
          have w : zW D A s.heap s [(hxo, .inr (6, [.ref ho, .ref hh, .ref hsa, .ref hsv, .ref hpd9, .ref hse, .ref hmt])), (ho, .inr (5, [.ref hp, .ref hbu, .ref hm, .ref hg, .int (zI (S 71)), .int (zI (S 72)), .int (zI (fSol S)), .int (zI (fSw S)), .int (zI (S 73)), .int (zI (S 74)), .long (zL (S 75))])), (hm, .inl (D.2 0, 3, .inl (fMu (mu S)))), (hg, .inl (D.2 0, 3, .inl (G))), (hbu, .inr (0, [.ref hs, .int (zI (S 77))])), (hs, .inl (D.2 0, 8, .inl (fSt S))), (hp, .inr (2, [.ref hw, .ref hz, .ref hl0, .int (zI (S 0))])), (hw, .inl (D.2 0, 16, .inl (fC S 0))), (hz, .inl (D.2 5, 3, .inr (.inr (.inr (.inr (f3 h0 h1 h2)))))), (h0, .inl (D.2 0, 16, .inl (fC S 1))), (h1, .inl (D.2 0, 16, .inl (fC S 2))), (h2, .inl (D.2 0, 16, .inl (fC S 3))), (hl0, .inl (D.2 0, 3, .inl (fLm S)))] H locs := w.sub [0, 1, 2, 3, 4, 5, 6, 7, 8, 9, 10, 11, 12] (by decide) rfl
          exact z_iret hx hb hr hlocks w dX6_ofItem_159 ⟨by unfold qItem; rw [if_pos c11, if_pos (by omega)]; show _ = zI (if S 76 = -6 then 0 else zb ((S 76).toNat.testBit i0.toNat = true)); first | (rw [if_pos (by omega)]; rfl) | (rw [if_neg (by omega), ← fSol_is (S := S) (by omega)]; first | (rw [zb_t c148]; rfl) | (rw [zb_f c148]; rfl)), rfl⟩
    · skip
      refine z_tswitD (tgt := 160) hx hb (by omega) dX6_ofItem_17 (by omega) (by decide) ?_
      refine lv_bipush (v := zI (-2)) hx hb dX6_ofItem_160 (by decide +kernel) ?_
      exact z_iret hx hb hr hlocks w dX6_ofItem_162 ⟨by unfold qItem; rw [if_pos c11, if_neg (by omega)], rfl⟩
  · skip
    refine lv_iconst (v := zI (-1)) hx hb dX6_ofItem_14 rfl ?_
    exact z_iret hx hb hr hlocks w dX6_ofItem_15 ⟨by unfold qItem; rw [if_neg c11], rfl⟩
set_option maxHeartbeats 6000000 in
set_option maxRecDepth 100000 in
theorem c_X6_ofDimension0 (l : Launch) (D : zD) (hxo ho hm hg hbu hs hp hw hz h0 h1 h2 hl0 hh hsa hsv hpd9 hse hmt : Nat) (S : Nat → Int) (G : Nat → Int32) (B : Int) (hB : B ≤ 1900000000) (hok : OkS B S) (what : Int) (hw0 : zB what) : zM l yX6_ofDimension wsX6_ofDimension (zR (5)) zE0 D [.ref hxo, .int (zI (0)), .int (zI (what))] ((hxo, .inr (6, [.ref ho, .ref hh, .ref hsa, .ref hsv, .ref hpd9, .ref hse, .ref hmt])) :: (wSt D ho hm hg hbu hs hp hw hz h0 h1 h2 hl0 S G)) (zQi D (fun r W1 => r = zI (qDim S 0 what) ∧ W1 = ((hxo, .inr (6, [.ref ho, .ref hh, .ref hsa, .ref hsv, .ref hpd9, .ref hse, .ref hmt])) :: (wSt D ho hm hg hbu hs hp hw hz h0 h1 h2 hl0 S G)))) := by
  refine zM.of (cc := cX6_ofDimension) (maxL := 3) (ret := (some .int)) (by decide) rfl (Nat.le_of_ble_eq_true rfl) ?_
  intro p e s m below meth c A hx hb hml hown hts hr hlocks hE hnm w ls hl
  have hown : s.vm.findClass RX6 = some m.cls := hown
  have hl : lv_has ls 3 [(0, .ref hxo), (1, .int (zI (0))), (2, .int (zI (what)))] := hl
  have f_10 : (Cond.fieldLink RX6 10 "RelaxedSteps" "now" "LRelaxedSteps$State;").before _ s = true := hts _ (by decide +kernel)
  have f_81 : (Cond.fieldLink RX6 81 "RelaxedSteps$State" "packing" "LRelaxedSteps$Packing;").before _ s = true := hts _ (by decide +kernel)
  have f_128 : (Cond.fieldLink RX6 128 "RelaxedSteps$Packing" "limits" "[I").before _ s = true := hts _ (by decide +kernel)
  have f_98 : (Cond.fieldLink RX6 98 "RelaxedSteps$State" "multipliers" "[I").before _ s = true := hts _ (by decide +kernel)
  have f_121 : (Cond.fieldLink RX6 121 "RelaxedSteps$State" "solution" "I").before _ s = true := hts _ (by decide +kernel)
  have inX6 : ∀ w ∈ u_ws RX6 TX6 7, w ∈ wsX6_ofDimension := by decide +kernel
  have inX5 : ∀ w ∈ u_ws RX5 TX5 11, w ∈ wsX6_ofDimension := by decide +kernel
  have inX2 : ∀ w ∈ u_ws RX2 TX2 4, w ∈ wsX6_ofDimension := by decide +kernel
  obtain ⟨hokp, hokm, hokb, hsc, hbe⟩ := id hok
  have hn := zn_eq hokp
  have h16 := zn_le hokp
  have hlim := hokp.2.2
  have hm1 := hokm
  unfold OkM mu at hm1
  have hsw := fSw_b hok
  have hso := fSol_b hok
  have hhu := sHu_b hok
  have hbd := sBd_b hokp hokm
  have hkb := hokb.1
  have hqq := hokp.1
  have hrl := sRel_16 (M := mu S) hokp
  have hbw := sBw_b hokp
  have hfe := fSw_b hok
  have w : zW D A s.heap s [(hxo, .inr (6, [.ref ho, .ref hh, .ref hsa, .ref hsv, .ref hpd9, .ref hse, .ref hmt])), (ho, .inr (5, [.ref hp, .ref hbu, .ref hm, .ref hg, .int (zI (S 71)), .int (zI (S 72)), .int (zI (fSol S)), .int (zI (fSw S)), .int (zI (S 73)), .int (zI (S 74)), .long (zL (S 75))])), (hm, .inl (D.2 0, 3, .inl (fMu (mu S)))), (hg, .inl (D.2 0, 3, .inl (G))), (hbu, .inr (0, [.ref hs, .int (zI (S 77))])), (hs, .inl (D.2 0, 8, .inl (fSt S))), (hp, .inr (2, [.ref hw, .ref hz, .ref hl0, .int (zI (S 0))])), (hw, .inl (D.2 0, 16, .inl (fC S 0))), (hz, .inl (D.2 5, 3, .inr (.inr (.inr (.inr (f3 h0 h1 h2)))))), (h0, .inl (D.2 0, 16, .inl (fC S 1))), (h1, .inl (D.2 0, 16, .inl (fC S 2))), (h2, .inl (D.2 0, 16, .inl (fC S 3))), (hl0, .inl (D.2 0, 3, .inl (fLm S)))] s.heap [] := w
  refine lv_iload_n hx hb dX6_ofDimension_0 rfl (lv_at hl 1 rfl) ?_
  refine z_S_i (As := [.int (zI (0))]) (rest := []) (Wr := [(hxo, .inr (6, [.ref ho, .ref hh, .ref hsa, .ref hsv, .ref hpd9, .ref hse, .ref hmt])), (ho, .inr (5, [.ref hp, .ref hbu, .ref hm, .ref hg, .int (zI (S 71)), .int (zI (S 72)), .int (zI (fSol S)), .int (zI (fSw S)), .int (zI (S 73)), .int (zI (S 74)), .long (zL (S 75))])), (hm, .inl (D.2 0, 3, .inl (fMu (mu S)))), (hg, .inl (D.2 0, 3, .inl (G))), (hbu, .inr (0, [.ref hs, .int (zI (S 77))])), (hs, .inl (D.2 0, 8, .inl (fSt S))), (hp, .inr (2, [.ref hw, .ref hz, .ref hl0, .int (zI (S 0))])), (hw, .inl (D.2 0, 16, .inl (fC S 0))), (hz, .inl (D.2 5, 3, .inr (.inr (.inr (.inr (f3 h0 h1 h2)))))), (h0, .inl (D.2 0, 16, .inl (fC S 1))), (h1, .inl (D.2 0, 16, .inl (fC S 2))), (h2, .inl (D.2 0, 16, .inl (fC S 3))), (hl0, .inl (D.2 0, 3, .inl (fLm S)))]) ⟨hx, hb, hml, hown, hts⟩ (c_X6_isDimension l D 0 (by omega)) (va_cwS 1 hts gX6_ofDimension_X6_isDimension rfl rfl rfl (by decide +kernel) ⟨Nat.le_of_ble_eq_true rfl, Nat.le_of_ble_eq_true rfl⟩) w [] rfl (by decide) [0, 1, 2, 3, 4, 5, 6, 7, 8, 9, 10, 11, 12] rfl (by decide) (by decide) rfl hl.1 rfl (lv_room (Nat.le_of_ble_eq_true rfl)) dX6_ofDimension_1 ⟨Nat.zero_le _, Nat.zero_le _⟩ (fun r W1 H locs hp w => ?_)
  obtain ⟨rfl, rfl⟩ := hp
  have w : zW D A s.heap s [(hxo, .inr (6, [.ref ho, .ref hh, .ref hsa, .ref hsv, .ref hpd9, .ref hse, .ref hmt])), (ho, .inr (5, [.ref hp, .ref hbu, .ref hm, .ref hg, .int (zI (S 71)), .int (zI (S 72)), .int (zI (fSol S)), .int (zI (fSw S)), .int (zI (S 73)), .int (zI (S 74)), .long (zL (S 75))])), (hm, .inl (D.2 0, 3, .inl (fMu (mu S)))), (hg, .inl (D.2 0, 3, .inl (G))), (hbu, .inr (0, [.ref hs, .int (zI (S 77))])), (hs, .inl (D.2 0, 8, .inl (fSt S))), (hp, .inr (2, [.ref hw, .ref hz, .ref hl0, .int (zI (S 0))])), (hw, .inl (D.2 0, 16, .inl (fC S 0))), (hz, .inl (D.2 5, 3, .inr (.inr (.inr (.inr (f3 h0 h1 h2)))))), (h0, .inl (D.2 0, 16, .inl (fC S 1))), (h1, .inl (D.2 0, 16, .inl (fC S 2))), (h2, .inl (D.2 0, 16, .inl (fC S 3))), (hl0, .inl (D.2 0, 3, .inl (fLm S)))] H locs := w.sub [0, 1, 2, 3, 4, 5, 6, 7, 8, 9, 10, 11, 12] (by decide) rfl
  refine z_if_ne_b (tgt := 9) hx hb dX6_ofDimension_4 (by decide) (fun c4 => ?_) (fun c4 => ?_)
  · skip
    refine lv_iload_n hx hb dX6_ofDimension_9 rfl (lv_at hl 2 rfl) ?_
    rcases (show what = 0 ∨ what = 1 ∨ what = 2 ∨ what = 3 ∨ what = 4 ∨ (what < 0 ∨ 4 < what) by omega) with csw10 | csw10 | csw10 | csw10 | csw10 | csw10
    · skip
      subst csw10
      refine z_tswit (tgt := 44) hx hb (by omega) dX6_ofDimension_10 (by omega) (by omega) (off := 34) (by decide) (by decide) ?_
      refine lv_aload_n hx hb dX6_ofDimension_44 rfl (lv_at hl 0 rfl) ?_
      refine z_get hx hb hown hts w inX6 0 0 rfl rfl (by decide) f_10 rfl rfl dX6_ofDimension_45 ?_
      refine z_get hx hb hown hts w inX5 1 0 rfl rfl (by decide) f_81 rfl rfl dX6_ofDimension_48 ?_
      refine z_get hx hb hown hts w inX2 6 2 rfl rfl (by decide) f_128 rfl rfl dX6_ofDimension_51 ?_
      refine lv_iload_n hx hb dX6_ofDimension_54 rfl (lv_at hl 1 rfl) ?_
      refine z_iald hx hb w 12 rfl 0 (by omega) (by decide) rfl (v := (zI (S 65))) (if_pos (by omega)) dX6_ofDimension_55 ?_
      exact z_iret hx hb hr hlocks w dX6_ofDimension_56 ⟨by unfold qDim; rw [if_pos (by omega), if_pos (by omega)]; rfl, rfl⟩
    · skip
      subst csw10
      refine z_tswit (tgt := 57) hx hb (by omega) dX6_ofDimension_10 (by omega) (by omega) (off := 47) (by decide) (by decide) ?_
      refine lv_aload_n hx hb dX6_ofDimension_57 rfl (lv_at hl 0 rfl) ?_
      refine z_get hx hb hown hts w inX6 0 0 rfl rfl (by decide) f_10 rfl rfl dX6_ofDimension_58 ?_
      refine z_get hx hb hown hts w inX5 1 2 rfl rfl (by decide) f_98 rfl rfl dX6_ofDimension_61 ?_
      refine lv_iload_n hx hb dX6_ofDimension_64 rfl (lv_at hl 1 rfl) ?_
      refine z_iald hx hb w 2 rfl 0 (by omega) (by decide) rfl (v := (zI (S 68))) (if_pos (by omega)) dX6_ofDimension_65 ?_
      exact z_iret hx hb hr hlocks w dX6_ofDimension_66 ⟨by unfold qDim; rw [if_pos (by omega), if_pos (by omega)]; rfl, rfl⟩
    · skip
      subst csw10
      refine z_tswit (tgt := 67) hx hb (by omega) dX6_ofDimension_10 (by omega) (by omega) (off := 57) (by decide) (by decide) ?_
      refine lv_aload_n hx hb dX6_ofDimension_67 rfl (lv_at hl 0 rfl) ?_
      refine z_get hx hb hown hts w inX6 0 0 rfl rfl (by decide) f_10 rfl rfl dX6_ofDimension_68 ?_
      refine lv_iload_n hx hb dX6_ofDimension_71 rfl (lv_at hl 1 rfl) ?_
      refine lv_aload_n hx hb dX6_ofDimension_72 rfl (lv_at hl 0 rfl) ?_
      refine z_get hx hb hown hts w inX6 0 0 rfl rfl (by decide) f_10 rfl rfl dX6_ofDimension_73 ?_
      refine z_V_i (As := []) (rest := [.int (zI (0)), .ref ho]) (Wr := [(hxo, .inr (6, [.ref ho, .ref hh, .ref hsa, .ref hsv, .ref hpd9, .ref hse, .ref hmt])), (hg, .inl (D.2 0, 3, .inl (G))), (hbu, .inr (0, [.ref hs, .int (zI (S 77))])), (hs, .inl (D.2 0, 8, .inl (fSt S)))]) ⟨hx, hb, hml, hown, hts⟩ (c_X5_relaxedSet l D ho hm hp hw hz h0 h1 h2 hl0 hbu hg S (mu S) (S 71) (S 72) (fSol S) (fSw S) (S 73) (S 74) (S 75) hokp hokm) (cwV 0 hts gX6_ofDimension_X5_relaxedSet rfl rfl rfl (by decide +kernel) ⟨Nat.le_of_ble_eq_true rfl, Nat.le_of_ble_eq_true rfl⟩) w (q0 := 1) rfl rfl rfl [1, 2, 6, 7, 8, 9, 10, 11, 12] rfl (by decide) [0, 3, 4, 5] rfl (by decide) (by decide) rfl hl.1 rfl (lv_room (Nat.le_of_ble_eq_true rfl)) dX6_ofDimension_76 ⟨Nat.zero_le _, Nat.zero_le _⟩ (fun r W1 H locs hp w => ?_)
      obtain ⟨rfl, rfl⟩ := hp
      have w : zW D A s.heap s [(hxo, .inr (6, [.ref ho, .ref hh, .ref hsa, .ref hsv, .ref hpd9, .ref hse, .ref hmt])), (ho, .inr (5, [.ref hp, .ref hbu, .ref hm, .ref hg, .int (zI (S 71)), .int (zI (S 72)), .int (zI (fSol S)), .int (zI (fSw S)), .int (zI (S 73)), .int (zI (S 74)), .long (zL (S 75))])), (hm, .inl (D.2 0, 3, .inl (fMu (mu S)))), (hg, .inl (D.2 0, 3, .inl (G))), (hbu, .inr (0, [.ref hs, .int (zI (S 77))])), (hs, .inl (D.2 0, 8, .inl (fSt S))), (hp, .inr (2, [.ref hw, .ref hz, .ref hl0, .int (zI (S 0))])), (hw, .inl (D.2 0, 16, .inl (fC S 0))), (hz, .inl (D.2 5, 3, .inr (.inr (.inr (.inr (f3 h0 h1 h2)))))), (h0, .inl (D.2 0, 16, .inl (fC S 1))), (h1, .inl (D.2 0, 16, .inl (fC S 2))), (h2, .inl (D.2 0, 16, .inl (fC S 3))), (hl0, .inl (D.2 0, 3, .inl (fLm S)))] H locs := w.sub [0, 4, 5, 1, 2, 3, 6, 7, 8, 9, 10, 11, 12] (by decide) rfl
      refine z_V_i (As := [.int (zI (0)), .int (zI (((sRel S (mu S) : Nat) : Int)))]) (rest := []) (Wr := [(hxo, .inr (6, [.ref ho, .ref hh, .ref hsa, .ref hsv, .ref hpd9, .ref hse, .ref hmt])), (hg, .inl (D.2 0, 3, .inl (G))), (hbu, .inr (0, [.ref hs, .int (zI (S 77))])), (hs, .inl (D.2 0, 8, .inl (fSt S)))]) ⟨hx, hb, hml, hown, hts⟩ (c_X5_slope0 l D ho hm hp hw hz h0 h1 h2 hl0 hbu hg S (mu S) (S 71) (S 72) (fSol S) (fSw S) (S 73) (S 74) (S 75) hokp (sRel S (mu S)) (by omega)) (cwV 2 hts gX6_ofDimension_X5_slope rfl rfl rfl (by decide +kernel) ⟨Nat.le_of_ble_eq_true rfl, Nat.le_of_ble_eq_true rfl⟩) w (q0 := 1) rfl rfl rfl [1, 2, 6, 7, 8, 9, 10, 11, 12] rfl (by decide) [0, 3, 4, 5] rfl (by decide) (by decide) rfl hl.1 rfl (lv_room (Nat.le_of_ble_eq_true rfl)) dX6_ofDimension_79 ⟨Nat.zero_le _, Nat.zero_le _⟩ (fun r W1 H locs hp w => ?_)
      obtain ⟨rfl, rfl⟩ := hp
      have w : zW D A s.heap s [(hxo, .inr (6, [.ref ho, .ref hh, .ref hsa, .ref hsv, .ref hpd9, .ref hse, .ref hmt])), (ho, .inr (5, [.ref hp, .ref hbu, .ref hm, .ref hg, .int (zI (S 71)), .int (zI (S 72)), .int (zI (fSol S)), .int (zI (fSw S)), .int (zI (S 73)), .int (zI (S 74)), .long (zL (S 75))])), (hm, .inl (D.2 0, 3, .inl (fMu (mu S)))), (hg, .inl (D.2 0, 3, .inl (G))), (hbu, .inr (0, [.ref hs, .int (zI (S 77))])), (hs, .inl (D.2 0, 8, .inl (fSt S))), (hp, .inr (2, [.ref hw, .ref hz, .ref hl0, .int (zI (S 0))])), (hw, .inl (D.2 0, 16, .inl (fC S 0))), (hz, .inl (D.2 5, 3, .inr (.inr (.inr (.inr (f3 h0 h1 h2)))))), (h0, .inl (D.2 0, 16, .inl (fC S 1))), (h1, .inl (D.2 0, 16, .inl (fC S 2))), (h2, .inl (D.2 0, 16, .inl (fC S 3))), (hl0, .inl (D.2 0, 3, .inl (fLm S)))] H locs := w.sub [0, 4, 5, 1, 2, 3, 6, 7, 8, 9, 10, 11, 12] (by decide) rfl
      refine lv_sipush (v := zI 10000) hx hb dX6_ofDimension_82 (by decide +kernel) ?_
      refine z_iadd hx hb dX6_ofDimension_85 ?_
      exact z_iret hx hb hr hlocks w dX6_ofDimension_86 ⟨by unfold qDim; rw [if_pos (by omega), if_pos (by omega)]; rfl, rfl⟩
    · skip
      subst csw10
      refine z_tswit (tgt := 87) hx hb (by omega) dX6_ofDimension_10 (by omega) (by omega) (off := 77) (by decide) (by decide) ?_
      refine lv_aload_n hx hb dX6_ofDimension_87 rfl (lv_at hl 0 rfl) ?_
      refine z_get hx hb hown hts w inX6 0 0 rfl rfl (by decide) f_10 rfl rfl dX6_ofDimension_88 ?_
      refine z_V_i (As := []) (rest := []) (Wr := [(hxo, .inr (6, [.ref ho, .ref hh, .ref hsa, .ref hsv, .ref hpd9, .ref hse, .ref hmt])), (hm, .inl (D.2 0, 3, .inl (fMu (mu S)))), (hg, .inl (D.2 0, 3, .inl (G))), (hbu, .inr (0, [.ref hs, .int (zI (S 77))])), (hs, .inl (D.2 0, 8, .inl (fSt S))), (hp, .inr (2, [.ref hw, .ref hz, .ref hl0, .int (zI (S 0))])), (hw, .inl (D.2 0, 16, .inl (fC S 0))), (hz, .inl (D.2 5, 3, .inr (.inr (.inr (.inr (f3 h0 h1 h2)))))), (h0, .inl (D.2 0, 16, .inl (fC S 1))), (h1, .inl (D.2 0, 16, .inl (fC S 2))), (h2, .inl (D.2 0, 16, .inl (fC S 3))), (hl0, .inl (D.2 0, 3, .inl (fLm S)))]) ⟨hx, hb, hml, hown, hts⟩ (c_X5_hasSolution l D ho hp hbu hm hg (S 71) (S 72) (fSol S) (fSw S) (S 73) (S 74) (S 75) (by omega)) (cwV 0 hts gX6_ofDimension_X5_hasSolution rfl rfl rfl (by decide +kernel) ⟨Nat.le_of_ble_eq_true rfl, Nat.le_of_ble_eq_true rfl⟩) w (q0 := 1) rfl rfl rfl [1] rfl (by decide) [0, 2, 3, 4, 5, 6, 7, 8, 9, 10, 11, 12] rfl (by decide) (by decide) rfl hl.1 rfl (lv_room (Nat.le_of_ble_eq_true rfl)) dX6_ofDimension_91 ⟨Nat.zero_le _, Nat.zero_le _⟩ (fun r W1 H locs hp w => ?_)
      obtain ⟨rfl, rfl⟩ := hp
      have w : zW D A s.heap s [(hxo, .inr (6, [.ref ho, .ref hh, .ref hsa, .ref hsv, .ref hpd9, .ref hse, .ref hmt])), (ho, .inr (5, [.ref hp, .ref hbu, .ref hm, .ref hg, .int (zI (S 71)), .int (zI (S 72)), .int (zI (fSol S)), .int (zI (fSw S)), .int (zI (S 73)), .int (zI (S 74)), .long (zL (S 75))])), (hm, .inl (D.2 0, 3, .inl (fMu (mu S)))), (hg, .inl (D.2 0, 3, .inl (G))), (hbu, .inr (0, [.ref hs, .int (zI (S 77))])), (hs, .inl (D.2 0, 8, .inl (fSt S))), (hp, .inr (2, [.ref hw, .ref hz, .ref hl0, .int (zI (S 0))])), (hw, .inl (D.2 0, 16, .inl (fC S 0))), (hz, .inl (D.2 5, 3, .inr (.inr (.inr (.inr (f3 h0 h1 h2)))))), (h0, .inl (D.2 0, 16, .inl (fC S 1))), (h1, .inl (D.2 0, 16, .inl (fC S 2))), (h2, .inl (D.2 0, 16, .inl (fC S 3))), (hl0, .inl (D.2 0, 3, .inl (fLm S)))] H locs := w.sub [0, 12, 1, 2, 3, 4, 5, 6, 7, 8, 9, 10, 11] (by decide) rfl
      refine z_if_eq_b (tgt := 118) hx hb dX6_ofDimension_94 (by decide) (fun c94 => ?_) (fun c94 => ?_)
      · skip
        refine lv_bipush (v := zI (-6)) hx hb dX6_ofDimension_118 (by decide +kernel) ?_
        exact z_iret hx hb hr hlocks w dX6_ofDimension_120 ⟨by unfold qDim; rw [if_pos (by omega), if_pos (by omega)]; show _ = zI (if S 76 = -6 then -6 else sUse S (S 76).toNat 1); first | rw [if_pos (by omega)] | rw [if_neg (by omega), ← fSol_is (S := S) (by omega)], rfl⟩
      · skip
        refine lv_aload_n hx hb dX6_ofDimension_97 rfl (lv_at hl 0 rfl) ?_
        refine z_get hx hb hown hts w inX6 0 0 rfl rfl (by decide) f_10 rfl rfl dX6_ofDimension_98 ?_
        refine z_get hx hb hown hts w inX5 1 0 rfl rfl (by decide) f_81 rfl rfl dX6_ofDimension_101 ?_
        refine lv_aload_n hx hb dX6_ofDimension_104 rfl (lv_at hl 0 rfl) ?_
        refine z_get hx hb hown hts w inX6 0 0 rfl rfl (by decide) f_10 rfl rfl dX6_ofDimension_105 ?_
        refine z_get hx hb hown hts w inX5 1 6 rfl rfl (by decide) f_121 rfl rfl dX6_ofDimension_108 ?_
        refine lv_iload_n hx hb dX6_ofDimension_111 rfl (lv_at hl 1 rfl) ?_
        refine W.eq (g2 := F0 m 112 ls [.int (zI (0)), .int (zI ((((fSol S).toNat : Nat) : Int))), .ref hp]) (by rw [Int.toNat_of_nonneg hso.1]) ?_
        refine z_V_i (As := [.int (zI ((((fSol S).toNat : Nat) : Int))), .int (zI (0))]) (rest := []) (Wr := [(hxo, .inr (6, [.ref ho, .ref hh, .ref hsa, .ref hsv, .ref hpd9, .ref hse, .ref hmt])), (ho, .inr (5, [.ref hp, .ref hbu, .ref hm, .ref hg, .int (zI (S 71)), .int (zI (S 72)), .int (zI (fSol S)), .int (zI (fSw S)), .int (zI (S 73)), .int (zI (S 74)), .long (zL (S 75))])), (hm, .inl (D.2 0, 3, .inl (fMu (mu S)))), (hg, .inl (D.2 0, 3, .inl (G))), (hbu, .inr (0, [.ref hs, .int (zI (S 77))])), (hs, .inl (D.2 0, 8, .inl (fSt S)))]) ⟨hx, hb, hml, hown, hts⟩ (c_X2_use0 l D hp hw hz h0 h1 h2 hl0 S hokp ((fSol S).toNat) (by omega)) (cwV 2 hts gX6_ofDimension_X2_use rfl rfl rfl (by decide +kernel) ⟨Nat.le_of_ble_eq_true rfl, Nat.le_of_ble_eq_true rfl⟩) w (q0 := 6) rfl rfl rfl [6, 7, 8, 9, 10, 11, 12] rfl (by decide) [0, 1, 2, 3, 4, 5] rfl (by decide) (by decide) rfl hl.1 rfl (lv_room (Nat.le_of_ble_eq_true rfl)) dX6_ofDimension_112 ⟨Nat.zero_le _, Nat.zero_le _⟩ (fun r W1 H locs hp w => ?_)
        obtain ⟨rfl, rfl⟩ := hp
        have w : zW D A s.heap s [(hxo, .inr (6, [.ref ho, .ref hh, .ref hsa, .ref hsv, .ref hpd9, .ref hse, .ref hmt])), (ho, .inr (5, [.ref hp, .ref hbu, .ref hm, .ref hg, .int (zI (S 71)), .int (zI (S 72)), .int (zI (fSol S)), .int (zI (fSw S)), .int (zI (S 73)), .int (zI (S 74)), .long (zL (S 75))])), (hm, .inl (D.2 0, 3, .inl (fMu (mu S)))), (hg, .inl (D.2 0, 3, .inl (G))), (hbu, .inr (0, [.ref hs, .int (zI (S 77))])), (hs, .inl (D.2 0, 8, .inl (fSt S))), (hp, .inr (2, [.ref hw, .ref hz, .ref hl0, .int (zI (S 0))])), (hw, .inl (D.2 0, 16, .inl (fC S 0))), (hz, .inl (D.2 5, 3, .inr (.inr (.inr (.inr (f3 h0 h1 h2)))))), (h0, .inl (D.2 0, 16, .inl (fC S 1))), (h1, .inl (D.2 0, 16, .inl (fC S 2))), (h2, .inl (D.2 0, 16, .inl (fC S 3))), (hl0, .inl (D.2 0, 3, .inl (fLm S)))] H locs := w.sub [0, 1, 2, 3, 4, 5, 6, 7, 8, 9, 10, 11, 12] (by decide) rfl
        refine lv_goto (tgt := 120) hx hb dX6_ofDimension_115 (by decide) ?_
        exact z_iret hx hb hr hlocks w dX6_ofDimension_120 ⟨by unfold qDim; rw [if_pos (by omega), if_pos (by omega)]; show _ = zI (if S 76 = -6 then -6 else sUse S (S 76).toNat 1); first | rw [if_pos (by omega)] | rw [if_neg (by omega), ← fSol_is (S := S) (by omega)], rfl⟩
    · skip
      subst csw10
      refine z_tswit (tgt := 121) hx hb (by omega) dX6_ofDimension_10 (by omega) (by omega) (off := 111) (by decide) (by decide) ?_
      refine lv_aload_n hx hb dX6_ofDimension_121 rfl (lv_at hl 0 rfl) ?_
      refine z_get hx hb hown hts w inX6 0 0 rfl rfl (by decide) f_10 rfl rfl dX6_ofDimension_122 ?_
      refine z_V_i (As := []) (rest := []) (Wr := [(hxo, .inr (6, [.ref ho, .ref hh, .ref hsa, .ref hsv, .ref hpd9, .ref hse, .ref hmt])), (hm, .inl (D.2 0, 3, .inl (fMu (mu S)))), (hg, .inl (D.2 0, 3, .inl (G))), (hbu, .inr (0, [.ref hs, .int (zI (S 77))])), (hs, .inl (D.2 0, 8, .inl (fSt S))), (hp, .inr (2, [.ref hw, .ref hz, .ref hl0, .int (zI (S 0))])), (hw, .inl (D.2 0, 16, .inl (fC S 0))), (hz, .inl (D.2 5, 3, .inr (.inr (.inr (.inr (f3 h0 h1 h2)))))), (h0, .inl (D.2 0, 16, .inl (fC S 1))), (h1, .inl (D.2 0, 16, .inl (fC S 2))), (h2, .inl (D.2 0, 16, .inl (fC S 3))), (hl0, .inl (D.2 0, 3, .inl (fLm S)))]) ⟨hx, hb, hml, hown, hts⟩ (c_X5_hasSolution l D ho hp hbu hm hg (S 71) (S 72) (fSol S) (fSw S) (S 73) (S 74) (S 75) (by omega)) (cwV 0 hts gX6_ofDimension_X5_hasSolution rfl rfl rfl (by decide +kernel) ⟨Nat.le_of_ble_eq_true rfl, Nat.le_of_ble_eq_true rfl⟩) w (q0 := 1) rfl rfl rfl [1] rfl (by decide) [0, 2, 3, 4, 5, 6, 7, 8, 9, 10, 11, 12] rfl (by decide) (by decide) rfl hl.1 rfl (lv_room (Nat.le_of_ble_eq_true rfl)) dX6_ofDimension_125 ⟨Nat.zero_le _, Nat.zero_le _⟩ (fun r W1 H locs hp w => ?_)
      obtain ⟨rfl, rfl⟩ := hp
      have w : zW D A s.heap s [(hxo, .inr (6, [.ref ho, .ref hh, .ref hsa, .ref hsv, .ref hpd9, .ref hse, .ref hmt])), (ho, .inr (5, [.ref hp, .ref hbu, .ref hm, .ref hg, .int (zI (S 71)), .int (zI (S 72)), .int (zI (fSol S)), .int (zI (fSw S)), .int (zI (S 73)), .int (zI (S 74)), .long (zL (S 75))])), (hm, .inl (D.2 0, 3, .inl (fMu (mu S)))), (hg, .inl (D.2 0, 3, .inl (G))), (hbu, .inr (0, [.ref hs, .int (zI (S 77))])), (hs, .inl (D.2 0, 8, .inl (fSt S))), (hp, .inr (2, [.ref hw, .ref hz, .ref hl0, .int (zI (S 0))])), (hw, .inl (D.2 0, 16, .inl (fC S 0))), (hz, .inl (D.2 5, 3, .inr (.inr (.inr (.inr (f3 h0 h1 h2)))))), (h0, .inl (D.2 0, 16, .inl (fC S 1))), (h1, .inl (D.2 0, 16, .inl (fC S 2))), (h2, .inl (D.2 0, 16, .inl (fC S 3))), (hl0, .inl (D.2 0, 3, .inl (fLm S)))] H locs := w.sub [0, 12, 1, 2, 3, 4, 5, 6, 7, 8, 9, 10, 11] (by decide) rfl
      refine z_if_eq_b (tgt := 145) hx hb dX6_ofDimension_128 (by decide) (fun c128 => ?_) (fun c128 => ?_)
      · skip
        refine lv_bipush (v := zI (-6)) hx hb dX6_ofDimension_145 (by decide +kernel) ?_
        exact z_iret hx hb hr hlocks w dX6_ofDimension_147 ⟨by unfold qDim; rw [if_pos (by omega), if_pos (by omega)]; show _ = zI (if S 76 = -6 then -6 else zb (sUse S (S 76).toNat 1 = S 65)); first | rw [if_pos (by omega)] | (rw [if_neg (by omega), ← fSol_is (S := S) (by omega)]), rfl⟩
      · skip
        refine lv_aload_n hx hb dX6_ofDimension_131 rfl (lv_at hl 0 rfl) ?_
        refine z_get hx hb hown hts w inX6 0 0 rfl rfl (by decide) f_10 rfl rfl dX6_ofDimension_132 ?_
        refine lv_iload_n hx hb dX6_ofDimension_135 rfl (lv_at hl 1 rfl) ?_
        refine z_V_i (As := [.int (zI (0))]) (rest := []) (Wr := [(hxo, .inr (6, [.ref ho, .ref hh, .ref hsa, .ref hsv, .ref hpd9, .ref hse, .ref hmt]))]) ⟨hx, hb, hml, hown, hts⟩ (c_X5_isTight0 l D ho hm hg hbu hs hp hw hz h0 h1 h2 hl0 S G B (by omega) hok) (cwV 1 hts gX6_ofDimension_X5_isTight rfl rfl rfl (by decide +kernel) ⟨Nat.le_of_ble_eq_true rfl, Nat.le_of_ble_eq_true rfl⟩) w (q0 := 1) rfl rfl rfl [1, 2, 3, 4, 5, 6, 7, 8, 9, 10, 11, 12] rfl (by decide) [0] rfl (by decide) (by decide) rfl hl.1 rfl (lv_room (Nat.le_of_ble_eq_true rfl)) dX6_ofDimension_136 ⟨Nat.zero_le _, Nat.zero_le _⟩ (fun r W1 H locs hp w => ?_)
        obtain ⟨rfl, rfl⟩ := hp
        have w : zW D A s.heap s [(hxo, .inr (6, [.ref ho, .ref hh, .ref hsa, .ref hsv, .ref hpd9, .ref hse, .ref hmt])), (ho, .inr (5, [.ref hp, .ref hbu, .ref hm, .ref hg, .int (zI (S 71)), .int (zI (S 72)), .int (zI (fSol S)), .int (zI (fSw S)), .int (zI (S 73)), .int (zI (S 74)), .long (zL (S 75))])), (hm, .inl (D.2 0, 3, .inl (fMu (mu S)))), (hg, .inl (D.2 0, 3, .inl (G))), (hbu, .inr (0, [.ref hs, .int (zI (S 77))])), (hs, .inl (D.2 0, 8, .inl (fSt S))), (hp, .inr (2, [.ref hw, .ref hz, .ref hl0, .int (zI (S 0))])), (hw, .inl (D.2 0, 16, .inl (fC S 0))), (hz, .inl (D.2 5, 3, .inr (.inr (.inr (.inr (f3 h0 h1 h2)))))), (h0, .inl (D.2 0, 16, .inl (fC S 1))), (h1, .inl (D.2 0, 16, .inl (fC S 2))), (h2, .inl (D.2 0, 16, .inl (fC S 3))), (hl0, .inl (D.2 0, 3, .inl (fLm S)))] H locs := w.sub [0, 1, 2, 3, 4, 5, 6, 7, 8, 9, 10, 11, 12] (by decide) rfl
        refine z_S_i (As := [.int (zI (zb (sUse S (fSol S).toNat 1 = S 65)))]) (rest := []) (Wr := [(hxo, .inr (6, [.ref ho, .ref hh, .ref hsa, .ref hsv, .ref hpd9, .ref hse, .ref hmt])), (ho, .inr (5, [.ref hp, .ref hbu, .ref hm, .ref hg, .int (zI (S 71)), .int (zI (S 72)), .int (zI (fSol S)), .int (zI (fSw S)), .int (zI (S 73)), .int (zI (S 74)), .long (zL (S 75))])), (hm, .inl (D.2 0, 3, .inl (fMu (mu S)))), (hg, .inl (D.2 0, 3, .inl (G))), (hbu, .inr (0, [.ref hs, .int (zI (S 77))])), (hs, .inl (D.2 0, 8, .inl (fSt S))), (hp, .inr (2, [.ref hw, .ref hz, .ref hl0, .int (zI (S 0))])), (hw, .inl (D.2 0, 16, .inl (fC S 0))), (hz, .inl (D.2 5, 3, .inr (.inr (.inr (.inr (f3 h0 h1 h2)))))), (h0, .inl (D.2 0, 16, .inl (fC S 1))), (h1, .inl (D.2 0, 16, .inl (fC S 2))), (h2, .inl (D.2 0, 16, .inl (fC S 3))), (hl0, .inl (D.2 0, 3, .inl (fLm S)))]) ⟨hx, hb, hml, hown, hts⟩ (c_X6_oneIf l D (sUse S (fSol S).toNat 1 = S 65)) (va_cwS 1 hts gX6_ofDimension_X6_oneIf rfl rfl rfl (by decide +kernel) ⟨Nat.le_of_ble_eq_true rfl, Nat.le_of_ble_eq_true rfl⟩) w [] rfl (by decide) [0, 1, 2, 3, 4, 5, 6, 7, 8, 9, 10, 11, 12] rfl (by decide) (by decide) rfl hl.1 rfl (lv_room (Nat.le_of_ble_eq_true rfl)) dX6_ofDimension_139 ⟨Nat.zero_le _, Nat.zero_le _⟩ (fun r W1 H locs hp w => ?_)
        obtain ⟨rfl, rfl⟩ := hp
        have w : zW D A s.heap s [(hxo, .inr (6, [.ref ho, .ref hh, .ref hsa, .ref hsv, .ref hpd9, .ref hse, .ref hmt])), (ho, .inr (5, [.ref hp, .ref hbu, .ref hm, .ref hg, .int (zI (S 71)), .int (zI (S 72)), .int (zI (fSol S)), .int (zI (fSw S)), .int (zI (S 73)), .int (zI (S 74)), .long (zL (S 75))])), (hm, .inl (D.2 0, 3, .inl (fMu (mu S)))), (hg, .inl (D.2 0, 3, .inl (G))), (hbu, .inr (0, [.ref hs, .int (zI (S 77))])), (hs, .inl (D.2 0, 8, .inl (fSt S))), (hp, .inr (2, [.ref hw, .ref hz, .ref hl0, .int (zI (S 0))])), (hw, .inl (D.2 0, 16, .inl (fC S 0))), (hz, .inl (D.2 5, 3, .inr (.inr (.inr (.inr (f3 h0 h1 h2)))))), (h0, .inl (D.2 0, 16, .inl (fC S 1))), (h1, .inl (D.2 0, 16, .inl (fC S 2))), (h2, .inl (D.2 0, 16, .inl (fC S 3))), (hl0, .inl (D.2 0, 3, .inl (fLm S)))] H locs := w.sub [0, 1, 2, 3, 4, 5, 6, 7, 8, 9, 10, 11, 12] (by decide) rfl
        refine lv_goto (tgt := 147) hx hb dX6_ofDimension_142 (by decide) ?_
        exact z_iret hx hb hr hlocks w dX6_ofDimension_147 ⟨by unfold qDim; rw [if_pos (by omega), if_pos (by omega)]; show _ = zI (if S 76 = -6 then -6 else zb (sUse S (S 76).toNat 1 = S 65)); first | rw [if_pos (by omega)] | (rw [if_neg (by omega), ← fSol_is (S := S) (by omega)]), rfl⟩
    · skip
      refine z_tswitD (tgt := 148) hx hb (by omega) dX6_ofDimension_10 (by omega) (by decide) ?_
      refine lv_bipush (v := zI (-2)) hx hb dX6_ofDimension_148 (by decide +kernel) ?_
      exact z_iret hx hb hr hlocks w dX6_ofDimension_150 ⟨by unfold qDim; rw [if_pos (by omega), if_neg (by omega)], rfl⟩
  · skip
    exact absurd (show (0 : Int) ≤ 0 ∧ (0 : Int) ≤ 2 by omega) c4
set_option maxHeartbeats 6000000 in
set_option maxRecDepth 100000 in
theorem c_X6_ofDimension1 (l : Launch) (D : zD) (hxo ho hm hg hbu hs hp hw hz h0 h1 h2 hl0 hh hsa hsv hpd9 hse hmt : Nat) (S : Nat → Int) (G : Nat → Int32) (B : Int) (hB : B ≤ 1900000000) (hok : OkS B S) (what : Int) (hw0 : zB what) : zM l yX6_ofDimension wsX6_ofDimension (zR (5)) zE0 D [.ref hxo, .int (zI (1)), .int (zI (what))] ((hxo, .inr (6, [.ref ho, .ref hh, .ref hsa, .ref hsv, .ref hpd9, .ref hse, .ref hmt])) :: (wSt D ho hm hg hbu hs hp hw hz h0 h1 h2 hl0 S G)) (zQi D (fun r W1 => r = zI (qDim S 1 what) ∧ W1 = ((hxo, .inr (6, [.ref ho, .ref hh, .ref hsa, .ref hsv, .ref hpd9, .ref hse, .ref hmt])) :: (wSt D ho hm hg hbu hs hp hw hz h0 h1 h2 hl0 S G)))) := by
  refine zM.of (cc := cX6_ofDimension) (maxL := 3) (ret := (some .int)) (by decide) rfl (Nat.le_of_ble_eq_true rfl) ?_
  intro p e s m below meth c A hx hb hml hown hts hr hlocks hE hnm w ls hl
  have hown : s.vm.findClass RX6 = some m.cls := hown
  have hl : lv_has ls 3 [(0, .ref hxo), (1, .int (zI (1))), (2, .int (zI (what)))] := hl
  have f_10 : (Cond.fieldLink RX6 10 "RelaxedSteps" "now" "LRelaxedSteps$State;").before _ s = true := hts _ (by decide +kernel)
  have f_81 : (Cond.fieldLink RX6 81 "RelaxedSteps$State" "packing" "LRelaxedSteps$Packing;").before _ s = true := hts _ (by decide +kernel)
  have f_128 : (Cond.fieldLink RX6 128 "RelaxedSteps$Packing" "limits" "[I").before _ s = true := hts _ (by decide +kernel)
  have f_98 : (Cond.fieldLink RX6 98 "RelaxedSteps$State" "multipliers" "[I").before _ s = true := hts _ (by decide +kernel)
  have f_121 : (Cond.fieldLink RX6 121 "RelaxedSteps$State" "solution" "I").before _ s = true := hts _ (by decide +kernel)
  have inX6 : ∀ w ∈ u_ws RX6 TX6 7, w ∈ wsX6_ofDimension := by decide +kernel
  have inX5 : ∀ w ∈ u_ws RX5 TX5 11, w ∈ wsX6_ofDimension := by decide +kernel
  have inX2 : ∀ w ∈ u_ws RX2 TX2 4, w ∈ wsX6_ofDimension := by decide +kernel
  obtain ⟨hokp, hokm, hokb, hsc, hbe⟩ := id hok
  have hn := zn_eq hokp
  have h16 := zn_le hokp
  have hlim := hokp.2.2
  have hm1 := hokm
  unfold OkM mu at hm1
  have hsw := fSw_b hok
  have hso := fSol_b hok
  have hhu := sHu_b hok
  have hbd := sBd_b hokp hokm
  have hkb := hokb.1
  have hqq := hokp.1
  have hrl := sRel_16 (M := mu S) hokp
  have hbw := sBw_b hokp
  have hfe := fSw_b hok
  have w : zW D A s.heap s [(hxo, .inr (6, [.ref ho, .ref hh, .ref hsa, .ref hsv, .ref hpd9, .ref hse, .ref hmt])), (ho, .inr (5, [.ref hp, .ref hbu, .ref hm, .ref hg, .int (zI (S 71)), .int (zI (S 72)), .int (zI (fSol S)), .int (zI (fSw S)), .int (zI (S 73)), .int (zI (S 74)), .long (zL (S 75))])), (hm, .inl (D.2 0, 3, .inl (fMu (mu S)))), (hg, .inl (D.2 0, 3, .inl (G))), (hbu, .inr (0, [.ref hs, .int (zI (S 77))])), (hs, .inl (D.2 0, 8, .inl (fSt S))), (hp, .inr (2, [.ref hw, .ref hz, .ref hl0, .int (zI (S 0))])), (hw, .inl (D.2 0, 16, .inl (fC S 0))), (hz, .inl (D.2 5, 3, .inr (.inr (.inr (.inr (f3 h0 h1 h2)))))), (h0, .inl (D.2 0, 16, .inl (fC S 1))), (h1, .inl (D.2 0, 16, .inl (fC S 2))), (h2, .inl (D.2 0, 16, .inl (fC S 3))), (hl0, .inl (D.2 0, 3, .inl (fLm S)))] s.heap [] := w
  refine lv_iload_n hx hb dX6_ofDimension_0 rfl (lv_at hl 1 rfl) ?_
  refine z_S_i (As := [.int (zI (1))]) (rest := []) (Wr := [(hxo, .inr (6, [.ref ho, .ref hh, .ref hsa, .ref hsv, .ref hpd9, .ref hse, .ref hmt])), (ho, .inr (5, [.ref hp, .ref hbu, .ref hm, .ref hg, .int (zI (S 71)), .int (zI (S 72)), .int (zI (fSol S)), .int (zI (fSw S)), .int (zI (S 73)), .int (zI (S 74)), .long (zL (S 75))])), (hm, .inl (D.2 0, 3, .inl (fMu (mu S)))), (hg, .inl (D.2 0, 3, .inl (G))), (hbu, .inr (0, [.ref hs, .int (zI (S 77))])), (hs, .inl (D.2 0, 8, .inl (fSt S))), (hp, .inr (2, [.ref hw, .ref hz, .ref hl0, .int (zI (S 0))])), (hw, .inl (D.2 0, 16, .inl (fC S 0))), (hz, .inl (D.2 5, 3, .inr (.inr (.inr (.inr (f3 h0 h1 h2)))))), (h0, .inl (D.2 0, 16, .inl (fC S 1))), (h1, .inl (D.2 0, 16, .inl (fC S 2))), (h2, .inl (D.2 0, 16, .inl (fC S 3))), (hl0, .inl (D.2 0, 3, .inl (fLm S)))]) ⟨hx, hb, hml, hown, hts⟩ (c_X6_isDimension l D 1 (by omega)) (va_cwS 1 hts gX6_ofDimension_X6_isDimension rfl rfl rfl (by decide +kernel) ⟨Nat.le_of_ble_eq_true rfl, Nat.le_of_ble_eq_true rfl⟩) w [] rfl (by decide) [0, 1, 2, 3, 4, 5, 6, 7, 8, 9, 10, 11, 12] rfl (by decide) (by decide) rfl hl.1 rfl (lv_room (Nat.le_of_ble_eq_true rfl)) dX6_ofDimension_1 ⟨Nat.zero_le _, Nat.zero_le _⟩ (fun r W1 H locs hp w => ?_)
  obtain ⟨rfl, rfl⟩ := hp
  have w : zW D A s.heap s [(hxo, .inr (6, [.ref ho, .ref hh, .ref hsa, .ref hsv, .ref hpd9, .ref hse, .ref hmt])), (ho, .inr (5, [.ref hp, .ref hbu, .ref hm, .ref hg, .int (zI (S 71)), .int (zI (S 72)), .int (zI (fSol S)), .int (zI (fSw S)), .int (zI (S 73)), .int (zI (S 74)), .long (zL (S 75))])), (hm, .inl (D.2 0, 3, .inl (fMu (mu S)))), (hg, .inl (D.2 0, 3, .inl (G))), (hbu, .inr (0, [.ref hs, .int (zI (S 77))])), (hs, .inl (D.2 0, 8, .inl (fSt S))), (hp, .inr (2, [.ref hw, .ref hz, .ref hl0, .int (zI (S 0))])), (hw, .inl (D.2 0, 16, .inl (fC S 0))), (hz, .inl (D.2 5, 3, .inr (.inr (.inr (.inr (f3 h0 h1 h2)))))), (h0, .inl (D.2 0, 16, .inl (fC S 1))), (h1, .inl (D.2 0, 16, .inl (fC S 2))), (h2, .inl (D.2 0, 16, .inl (fC S 3))), (hl0, .inl (D.2 0, 3, .inl (fLm S)))] H locs := w.sub [0, 1, 2, 3, 4, 5, 6, 7, 8, 9, 10, 11, 12] (by decide) rfl
  refine z_if_ne_b (tgt := 9) hx hb dX6_ofDimension_4 (by decide) (fun c4 => ?_) (fun c4 => ?_)
  · skip
    refine lv_iload_n hx hb dX6_ofDimension_9 rfl (lv_at hl 2 rfl) ?_
    rcases (show what = 0 ∨ what = 1 ∨ what = 2 ∨ what = 3 ∨ what = 4 ∨ (what < 0 ∨ 4 < what) by omega) with csw10 | csw10 | csw10 | csw10 | csw10 | csw10
    · skip
      subst csw10
      refine z_tswit (tgt := 44) hx hb (by omega) dX6_ofDimension_10 (by omega) (by omega) (off := 34) (by decide) (by decide) ?_
      refine lv_aload_n hx hb dX6_ofDimension_44 rfl (lv_at hl 0 rfl) ?_
      refine z_get hx hb hown hts w inX6 0 0 rfl rfl (by decide) f_10 rfl rfl dX6_ofDimension_45 ?_
      refine z_get hx hb hown hts w inX5 1 0 rfl rfl (by decide) f_81 rfl rfl dX6_ofDimension_48 ?_
      refine z_get hx hb hown hts w inX2 6 2 rfl rfl (by decide) f_128 rfl rfl dX6_ofDimension_51 ?_
      refine lv_iload_n hx hb dX6_ofDimension_54 rfl (lv_at hl 1 rfl) ?_
      refine z_iald hx hb w 12 rfl 1 (by omega) (by decide) rfl (v := (zI (S 66))) (if_pos (by omega)) dX6_ofDimension_55 ?_
      exact z_iret hx hb hr hlocks w dX6_ofDimension_56 ⟨by unfold qDim; rw [if_pos (by omega), if_pos (by omega)]; rfl, rfl⟩
    · skip
      subst csw10
      refine z_tswit (tgt := 57) hx hb (by omega) dX6_ofDimension_10 (by omega) (by omega) (off := 47) (by decide) (by decide) ?_
      refine lv_aload_n hx hb dX6_ofDimension_57 rfl (lv_at hl 0 rfl) ?_
      refine z_get hx hb hown hts w inX6 0 0 rfl rfl (by decide) f_10 rfl rfl dX6_ofDimension_58 ?_
      refine z_get hx hb hown hts w inX5 1 2 rfl rfl (by decide) f_98 rfl rfl dX6_ofDimension_61 ?_
      refine lv_iload_n hx hb dX6_ofDimension_64 rfl (lv_at hl 1 rfl) ?_
      refine z_iald hx hb w 2 rfl 1 (by omega) (by decide) rfl (v := (zI (S 69))) (if_pos (by omega)) dX6_ofDimension_65 ?_
      exact z_iret hx hb hr hlocks w dX6_ofDimension_66 ⟨by unfold qDim; rw [if_pos (by omega), if_pos (by omega)]; rfl, rfl⟩
    · skip
      subst csw10
      refine z_tswit (tgt := 67) hx hb (by omega) dX6_ofDimension_10 (by omega) (by omega) (off := 57) (by decide) (by decide) ?_
      refine lv_aload_n hx hb dX6_ofDimension_67 rfl (lv_at hl 0 rfl) ?_
      refine z_get hx hb hown hts w inX6 0 0 rfl rfl (by decide) f_10 rfl rfl dX6_ofDimension_68 ?_
      refine lv_iload_n hx hb dX6_ofDimension_71 rfl (lv_at hl 1 rfl) ?_
      refine lv_aload_n hx hb dX6_ofDimension_72 rfl (lv_at hl 0 rfl) ?_
      refine z_get hx hb hown hts w inX6 0 0 rfl rfl (by decide) f_10 rfl rfl dX6_ofDimension_73 ?_
      refine z_V_i (As := []) (rest := [.int (zI (1)), .ref ho]) (Wr := [(hxo, .inr (6, [.ref ho, .ref hh, .ref hsa, .ref hsv, .ref hpd9, .ref hse, .ref hmt])), (hg, .inl (D.2 0, 3, .inl (G))), (hbu, .inr (0, [.ref hs, .int (zI (S 77))])), (hs, .inl (D.2 0, 8, .inl (fSt S)))]) ⟨hx, hb, hml, hown, hts⟩ (c_X5_relaxedSet l D ho hm hp hw hz h0 h1 h2 hl0 hbu hg S (mu S) (S 71) (S 72) (fSol S) (fSw S) (S 73) (S 74) (S 75) hokp hokm) (cwV 0 hts gX6_ofDimension_X5_relaxedSet rfl rfl rfl (by decide +kernel) ⟨Nat.le_of_ble_eq_true rfl, Nat.le_of_ble_eq_true rfl⟩) w (q0 := 1) rfl rfl rfl [1, 2, 6, 7, 8, 9, 10, 11, 12] rfl (by decide) [0, 3, 4, 5] rfl (by decide) (by decide) rfl hl.1 rfl (lv_room (Nat.le_of_ble_eq_true rfl)) dX6_ofDimension_76 ⟨Nat.zero_le _, Nat.zero_le _⟩ (fun r W1 H locs hp w => ?_)
      obtain ⟨rfl, rfl⟩ := hp
      have w : zW D A s.heap s [(hxo, .inr (6, [.ref ho, .ref hh, .ref hsa, .ref hsv, .ref hpd9, .ref hse, .ref hmt])), (ho, .inr (5, [.ref hp, .ref hbu, .ref hm, .ref hg, .int (zI (S 71)), .int (zI (S 72)), .int (zI (fSol S)), .int (zI (fSw S)), .int (zI (S 73)), .int (zI (S 74)), .long (zL (S 75))])), (hm, .inl (D.2 0, 3, .inl (fMu (mu S)))), (hg, .inl (D.2 0, 3, .inl (G))), (hbu, .inr (0, [.ref hs, .int (zI (S 77))])), (hs, .inl (D.2 0, 8, .inl (fSt S))), (hp, .inr (2, [.ref hw, .ref hz, .ref hl0, .int (zI (S 0))])), (hw, .inl (D.2 0, 16, .inl (fC S 0))), (hz, .inl (D.2 5, 3, .inr (.inr (.inr (.inr (f3 h0 h1 h2)))))), (h0, .inl (D.2 0, 16, .inl (fC S 1))), (h1, .inl (D.2 0, 16, .inl (fC S 2))), (h2, .inl (D.2 0, 16, .inl (fC S 3))), (hl0, .inl (D.2 0, 3, .inl (fLm S)))] H locs := w.sub [0, 4, 5, 1, 2, 3, 6, 7, 8, 9, 10, 11, 12] (by decide) rfl
      refine z_V_i (As := [.int (zI (1)), .int (zI (((sRel S (mu S) : Nat) : Int)))]) (rest := []) (Wr := [(hxo, .inr (6, [.ref ho, .ref hh, .ref hsa, .ref hsv, .ref hpd9, .ref hse, .ref hmt])), (hg, .inl (D.2 0, 3, .inl (G))), (hbu, .inr (0, [.ref hs, .int (zI (S 77))])), (hs, .inl (D.2 0, 8, .inl (fSt S)))]) ⟨hx, hb, hml, hown, hts⟩ (c_X5_slope1 l D ho hm hp hw hz h0 h1 h2 hl0 hbu hg S (mu S) (S 71) (S 72) (fSol S) (fSw S) (S 73) (S 74) (S 75) hokp (sRel S (mu S)) (by omega)) (cwV 2 hts gX6_ofDimension_X5_slope rfl rfl rfl (by decide +kernel) ⟨Nat.le_of_ble_eq_true rfl, Nat.le_of_ble_eq_true rfl⟩) w (q0 := 1) rfl rfl rfl [1, 2, 6, 7, 8, 9, 10, 11, 12] rfl (by decide) [0, 3, 4, 5] rfl (by decide) (by decide) rfl hl.1 rfl (lv_room (Nat.le_of_ble_eq_true rfl)) dX6_ofDimension_79 ⟨Nat.zero_le _, Nat.zero_le _⟩ (fun r W1 H locs hp w => ?_)
      obtain ⟨rfl, rfl⟩ := hp
      have w : zW D A s.heap s [(hxo, .inr (6, [.ref ho, .ref hh, .ref hsa, .ref hsv, .ref hpd9, .ref hse, .ref hmt])), (ho, .inr (5, [.ref hp, .ref hbu, .ref hm, .ref hg, .int (zI (S 71)), .int (zI (S 72)), .int (zI (fSol S)), .int (zI (fSw S)), .int (zI (S 73)), .int (zI (S 74)), .long (zL (S 75))])), (hm, .inl (D.2 0, 3, .inl (fMu (mu S)))), (hg, .inl (D.2 0, 3, .inl (G))), (hbu, .inr (0, [.ref hs, .int (zI (S 77))])), (hs, .inl (D.2 0, 8, .inl (fSt S))), (hp, .inr (2, [.ref hw, .ref hz, .ref hl0, .int (zI (S 0))])), (hw, .inl (D.2 0, 16, .inl (fC S 0))), (hz, .inl (D.2 5, 3, .inr (.inr (.inr (.inr (f3 h0 h1 h2)))))), (h0, .inl (D.2 0, 16, .inl (fC S 1))), (h1, .inl (D.2 0, 16, .inl (fC S 2))), (h2, .inl (D.2 0, 16, .inl (fC S 3))), (hl0, .inl (D.2 0, 3, .inl (fLm S)))] H locs := w.sub [0, 4, 5, 1, 2, 3, 6, 7, 8, 9, 10, 11, 12] (by decide) rfl
      refine lv_sipush (v := zI 10000) hx hb dX6_ofDimension_82 (by decide +kernel) ?_
      refine z_iadd hx hb dX6_ofDimension_85 ?_
      exact z_iret hx hb hr hlocks w dX6_ofDimension_86 ⟨by unfold qDim; rw [if_pos (by omega), if_pos (by omega)]; rfl, rfl⟩
    · skip
      subst csw10
      refine z_tswit (tgt := 87) hx hb (by omega) dX6_ofDimension_10 (by omega) (by omega) (off := 77) (by decide) (by decide) ?_
      refine lv_aload_n hx hb dX6_ofDimension_87 rfl (lv_at hl 0 rfl) ?_
      refine z_get hx hb hown hts w inX6 0 0 rfl rfl (by decide) f_10 rfl rfl dX6_ofDimension_88 ?_
      refine z_V_i (As := []) (rest := []) (Wr := [(hxo, .inr (6, [.ref ho, .ref hh, .ref hsa, .ref hsv, .ref hpd9, .ref hse, .ref hmt])), (hm, .inl (D.2 0, 3, .inl (fMu (mu S)))), (hg, .inl (D.2 0, 3, .inl (G))), (hbu, .inr (0, [.ref hs, .int (zI (S 77))])), (hs, .inl (D.2 0, 8, .inl (fSt S))), (hp, .inr (2, [.ref hw, .ref hz, .ref hl0, .int (zI (S 0))])), (hw, .inl (D.2 0, 16, .inl (fC S 0))), (hz, .inl (D.2 5, 3, .inr (.inr (.inr (.inr (f3 h0 h1 h2)))))), (h0, .inl (D.2 0, 16, .inl (fC S 1))), (h1, .inl (D.2 0, 16, .inl (fC S 2))), (h2, .inl (D.2 0, 16, .inl (fC S 3))), (hl0, .inl (D.2 0, 3, .inl (fLm S)))]) ⟨hx, hb, hml, hown, hts⟩ (c_X5_hasSolution l D ho hp hbu hm hg (S 71) (S 72) (fSol S) (fSw S) (S 73) (S 74) (S 75) (by omega)) (cwV 0 hts gX6_ofDimension_X5_hasSolution rfl rfl rfl (by decide +kernel) ⟨Nat.le_of_ble_eq_true rfl, Nat.le_of_ble_eq_true rfl⟩) w (q0 := 1) rfl rfl rfl [1] rfl (by decide) [0, 2, 3, 4, 5, 6, 7, 8, 9, 10, 11, 12] rfl (by decide) (by decide) rfl hl.1 rfl (lv_room (Nat.le_of_ble_eq_true rfl)) dX6_ofDimension_91 ⟨Nat.zero_le _, Nat.zero_le _⟩ (fun r W1 H locs hp w => ?_)
      obtain ⟨rfl, rfl⟩ := hp
      have w : zW D A s.heap s [(hxo, .inr (6, [.ref ho, .ref hh, .ref hsa, .ref hsv, .ref hpd9, .ref hse, .ref hmt])), (ho, .inr (5, [.ref hp, .ref hbu, .ref hm, .ref hg, .int (zI (S 71)), .int (zI (S 72)), .int (zI (fSol S)), .int (zI (fSw S)), .int (zI (S 73)), .int (zI (S 74)), .long (zL (S 75))])), (hm, .inl (D.2 0, 3, .inl (fMu (mu S)))), (hg, .inl (D.2 0, 3, .inl (G))), (hbu, .inr (0, [.ref hs, .int (zI (S 77))])), (hs, .inl (D.2 0, 8, .inl (fSt S))), (hp, .inr (2, [.ref hw, .ref hz, .ref hl0, .int (zI (S 0))])), (hw, .inl (D.2 0, 16, .inl (fC S 0))), (hz, .inl (D.2 5, 3, .inr (.inr (.inr (.inr (f3 h0 h1 h2)))))), (h0, .inl (D.2 0, 16, .inl (fC S 1))), (h1, .inl (D.2 0, 16, .inl (fC S 2))), (h2, .inl (D.2 0, 16, .inl (fC S 3))), (hl0, .inl (D.2 0, 3, .inl (fLm S)))] H locs := w.sub [0, 12, 1, 2, 3, 4, 5, 6, 7, 8, 9, 10, 11] (by decide) rfl
      refine z_if_eq_b (tgt := 118) hx hb dX6_ofDimension_94 (by decide) (fun c94 => ?_) (fun c94 => ?_)
      · skip
        refine lv_bipush (v := zI (-6)) hx hb dX6_ofDimension_118 (by decide +kernel) ?_
        exact z_iret hx hb hr hlocks w dX6_ofDimension_120 ⟨by unfold qDim; rw [if_pos (by omega), if_pos (by omega)]; show _ = zI (if S 76 = -6 then -6 else sUse S (S 76).toNat 2); first | rw [if_pos (by omega)] | rw [if_neg (by omega), ← fSol_is (S := S) (by omega)], rfl⟩
      · skip
        refine lv_aload_n hx hb dX6_ofDimension_97 rfl (lv_at hl 0 rfl) ?_
        refine z_get hx hb hown hts w inX6 0 0 rfl rfl (by decide) f_10 rfl rfl dX6_ofDimension_98 ?_
        refine z_get hx hb hown hts w inX5 1 0 rfl rfl (by decide) f_81 rfl rfl dX6_ofDimension_101 ?_
        refine lv_aload_n hx hb dX6_ofDimension_104 rfl (lv_at hl 0 rfl) ?_
        refine z_get hx hb hown hts w inX6 0 0 rfl rfl (by decide) f_10 rfl rfl dX6_ofDimension_105 ?_
        refine z_get hx hb hown hts w inX5 1 6 rfl rfl (by decide) f_121 rfl rfl dX6_ofDimension_108 ?_
        refine lv_iload_n hx hb dX6_ofDimension_111 rfl (lv_at hl 1 rfl) ?_
        refine W.eq (g2 := F0 m 112 ls [.int (zI (1)), .int (zI ((((fSol S).toNat : Nat) : Int))), .ref hp]) (by rw [Int.toNat_of_nonneg hso.1]) ?_
        refine z_V_i (As := [.int (zI ((((fSol S).toNat : Nat) : Int))), .int (zI (1))]) (rest := []) (Wr := [(hxo, .inr (6, [.ref ho, .ref hh, .ref hsa, .ref hsv, .ref hpd9, .ref hse, .ref hmt])), (ho, .inr (5, [.ref hp, .ref hbu, .ref hm, .ref hg, .int (zI (S 71)), .int (zI (S 72)), .int (zI (fSol S)), .int (zI (fSw S)), .int (zI (S 73)), .int (zI (S 74)), .long (zL (S 75))])), (hm, .inl (D.2 0, 3, .inl (fMu (mu S)))), (hg, .inl (D.2 0, 3, .inl (G))), (hbu, .inr (0, [.ref hs, .int (zI (S 77))])), (hs, .inl (D.2 0, 8, .inl (fSt S)))]) ⟨hx, hb, hml, hown, hts⟩ (c_X2_use1 l D hp hw hz h0 h1 h2 hl0 S hokp ((fSol S).toNat) (by omega)) (cwV 2 hts gX6_ofDimension_X2_use rfl rfl rfl (by decide +kernel) ⟨Nat.le_of_ble_eq_true rfl, Nat.le_of_ble_eq_true rfl⟩) w (q0 := 6) rfl rfl rfl [6, 7, 8, 9, 10, 11, 12] rfl (by decide) [0, 1, 2, 3, 4, 5] rfl (by decide) (by decide) rfl hl.1 rfl (lv_room (Nat.le_of_ble_eq_true rfl)) dX6_ofDimension_112 ⟨Nat.zero_le _, Nat.zero_le _⟩ (fun r W1 H locs hp w => ?_)
        obtain ⟨rfl, rfl⟩ := hp
        have w : zW D A s.heap s [(hxo, .inr (6, [.ref ho, .ref hh, .ref hsa, .ref hsv, .ref hpd9, .ref hse, .ref hmt])), (ho, .inr (5, [.ref hp, .ref hbu, .ref hm, .ref hg, .int (zI (S 71)), .int (zI (S 72)), .int (zI (fSol S)), .int (zI (fSw S)), .int (zI (S 73)), .int (zI (S 74)), .long (zL (S 75))])), (hm, .inl (D.2 0, 3, .inl (fMu (mu S)))), (hg, .inl (D.2 0, 3, .inl (G))), (hbu, .inr (0, [.ref hs, .int (zI (S 77))])), (hs, .inl (D.2 0, 8, .inl (fSt S))), (hp, .inr (2, [.ref hw, .ref hz, .ref hl0, .int (zI (S 0))])), (hw, .inl (D.2 0, 16, .inl (fC S 0))), (hz, .inl (D.2 5, 3, .inr (.inr (.inr (.inr (f3 h0 h1 h2)))))), (h0, .inl (D.2 0, 16, .inl (fC S 1))), (h1, .inl (D.2 0, 16, .inl (fC S 2))), (h2, .inl (D.2 0, 16, .inl (fC S 3))), (hl0, .inl (D.2 0, 3, .inl (fLm S)))] H locs := w.sub [0, 1, 2, 3, 4, 5, 6, 7, 8, 9, 10, 11, 12] (by decide) rfl
        refine lv_goto (tgt := 120) hx hb dX6_ofDimension_115 (by decide) ?_
        exact z_iret hx hb hr hlocks w dX6_ofDimension_120 ⟨by unfold qDim; rw [if_pos (by omega), if_pos (by omega)]; show _ = zI (if S 76 = -6 then -6 else sUse S (S 76).toNat 2); first | rw [if_pos (by omega)] | rw [if_neg (by omega), ← fSol_is (S := S) (by omega)], rfl⟩
    · skip
      subst csw10
      refine z_tswit (tgt := 121) hx hb (by omega) dX6_ofDimension_10 (by omega) (by omega) (off := 111) (by decide) (by decide) ?_
      refine lv_aload_n hx hb dX6_ofDimension_121 rfl (lv_at hl 0 rfl) ?_
      refine z_get hx hb hown hts w inX6 0 0 rfl rfl (by decide) f_10 rfl rfl dX6_ofDimension_122 ?_
      refine z_V_i (As := []) (rest := []) (Wr := [(hxo, .inr (6, [.ref ho, .ref hh, .ref hsa, .ref hsv, .ref hpd9, .ref hse, .ref hmt])), (hm, .inl (D.2 0, 3, .inl (fMu (mu S)))), (hg, .inl (D.2 0, 3, .inl (G))), (hbu, .inr (0, [.ref hs, .int (zI (S 77))])), (hs, .inl (D.2 0, 8, .inl (fSt S))), (hp, .inr (2, [.ref hw, .ref hz, .ref hl0, .int (zI (S 0))])), (hw, .inl (D.2 0, 16, .inl (fC S 0))), (hz, .inl (D.2 5, 3, .inr (.inr (.inr (.inr (f3 h0 h1 h2)))))), (h0, .inl (D.2 0, 16, .inl (fC S 1))), (h1, .inl (D.2 0, 16, .inl (fC S 2))), (h2, .inl (D.2 0, 16, .inl (fC S 3))), (hl0, .inl (D.2 0, 3, .inl (fLm S)))]) ⟨hx, hb, hml, hown, hts⟩ (c_X5_hasSolution l D ho hp hbu hm hg (S 71) (S 72) (fSol S) (fSw S) (S 73) (S 74) (S 75) (by omega)) (cwV 0 hts gX6_ofDimension_X5_hasSolution rfl rfl rfl (by decide +kernel) ⟨Nat.le_of_ble_eq_true rfl, Nat.le_of_ble_eq_true rfl⟩) w (q0 := 1) rfl rfl rfl [1] rfl (by decide) [0, 2, 3, 4, 5, 6, 7, 8, 9, 10, 11, 12] rfl (by decide) (by decide) rfl hl.1 rfl (lv_room (Nat.le_of_ble_eq_true rfl)) dX6_ofDimension_125 ⟨Nat.zero_le _, Nat.zero_le _⟩ (fun r W1 H locs hp w => ?_)
      obtain ⟨rfl, rfl⟩ := hp
      have w : zW D A s.heap s [(hxo, .inr (6, [.ref ho, .ref hh, .ref hsa, .ref hsv, .ref hpd9, .ref hse, .ref hmt])), (ho, .inr (5, [.ref hp, .ref hbu, .ref hm, .ref hg, .int (zI (S 71)), .int (zI (S 72)), .int (zI (fSol S)), .int (zI (fSw S)), .int (zI (S 73)), .int (zI (S 74)), .long (zL (S 75))])), (hm, .inl (D.2 0, 3, .inl (fMu (mu S)))), (hg, .inl (D.2 0, 3, .inl (G))), (hbu, .inr (0, [.ref hs, .int (zI (S 77))])), (hs, .inl (D.2 0, 8, .inl (fSt S))), (hp, .inr (2, [.ref hw, .ref hz, .ref hl0, .int (zI (S 0))])), (hw, .inl (D.2 0, 16, .inl (fC S 0))), (hz, .inl (D.2 5, 3, .inr (.inr (.inr (.inr (f3 h0 h1 h2)))))), (h0, .inl (D.2 0, 16, .inl (fC S 1))), (h1, .inl (D.2 0, 16, .inl (fC S 2))), (h2, .inl (D.2 0, 16, .inl (fC S 3))), (hl0, .inl (D.2 0, 3, .inl (fLm S)))] H locs := w.sub [0, 12, 1, 2, 3, 4, 5, 6, 7, 8, 9, 10, 11] (by decide) rfl
      refine z_if_eq_b (tgt := 145) hx hb dX6_ofDimension_128 (by decide) (fun c128 => ?_) (fun c128 => ?_)
      · skip
        refine lv_bipush (v := zI (-6)) hx hb dX6_ofDimension_145 (by decide +kernel) ?_
        exact z_iret hx hb hr hlocks w dX6_ofDimension_147 ⟨by unfold qDim; rw [if_pos (by omega), if_pos (by omega)]; show _ = zI (if S 76 = -6 then -6 else zb (sUse S (S 76).toNat 2 = S 66)); first | rw [if_pos (by omega)] | (rw [if_neg (by omega), ← fSol_is (S := S) (by omega)]), rfl⟩
      · skip
        refine lv_aload_n hx hb dX6_ofDimension_131 rfl (lv_at hl 0 rfl) ?_
        refine z_get hx hb hown hts w inX6 0 0 rfl rfl (by decide) f_10 rfl rfl dX6_ofDimension_132 ?_
        refine lv_iload_n hx hb dX6_ofDimension_135 rfl (lv_at hl 1 rfl) ?_
        refine z_V_i (As := [.int (zI (1))]) (rest := []) (Wr := [(hxo, .inr (6, [.ref ho, .ref hh, .ref hsa, .ref hsv, .ref hpd9, .ref hse, .ref hmt]))]) ⟨hx, hb, hml, hown, hts⟩ (c_X5_isTight1 l D ho hm hg hbu hs hp hw hz h0 h1 h2 hl0 S G B (by omega) hok) (cwV 1 hts gX6_ofDimension_X5_isTight rfl rfl rfl (by decide +kernel) ⟨Nat.le_of_ble_eq_true rfl, Nat.le_of_ble_eq_true rfl⟩) w (q0 := 1) rfl rfl rfl [1, 2, 3, 4, 5, 6, 7, 8, 9, 10, 11, 12] rfl (by decide) [0] rfl (by decide) (by decide) rfl hl.1 rfl (lv_room (Nat.le_of_ble_eq_true rfl)) dX6_ofDimension_136 ⟨Nat.zero_le _, Nat.zero_le _⟩ (fun r W1 H locs hp w => ?_)
        obtain ⟨rfl, rfl⟩ := hp
        have w : zW D A s.heap s [(hxo, .inr (6, [.ref ho, .ref hh, .ref hsa, .ref hsv, .ref hpd9, .ref hse, .ref hmt])), (ho, .inr (5, [.ref hp, .ref hbu, .ref hm, .ref hg, .int (zI (S 71)), .int (zI (S 72)), .int (zI (fSol S)), .int (zI (fSw S)), .int (zI (S 73)), .int (zI (S 74)), .long (zL (S 75))])), (hm, .inl (D.2 0, 3, .inl (fMu (mu S)))), (hg, .inl (D.2 0, 3, .inl (G))), (hbu, .inr (0, [.ref hs, .int (zI (S 77))])), (hs, .inl (D.2 0, 8, .inl (fSt S))), (hp, .inr (2, [.ref hw, .ref hz, .ref hl0, .int (zI (S 0))])), (hw, .inl (D.2 0, 16, .inl (fC S 0))), (hz, .inl (D.2 5, 3, .inr (.inr (.inr (.inr (f3 h0 h1 h2)))))), (h0, .inl (D.2 0, 16, .inl (fC S 1))), (h1, .inl (D.2 0, 16, .inl (fC S 2))), (h2, .inl (D.2 0, 16, .inl (fC S 3))), (hl0, .inl (D.2 0, 3, .inl (fLm S)))] H locs := w.sub [0, 1, 2, 3, 4, 5, 6, 7, 8, 9, 10, 11, 12] (by decide) rfl
        refine z_S_i (As := [.int (zI (zb (sUse S (fSol S).toNat 2 = S 66)))]) (rest := []) (Wr := [(hxo, .inr (6, [.ref ho, .ref hh, .ref hsa, .ref hsv, .ref hpd9, .ref hse, .ref hmt])), (ho, .inr (5, [.ref hp, .ref hbu, .ref hm, .ref hg, .int (zI (S 71)), .int (zI (S 72)), .int (zI (fSol S)), .int (zI (fSw S)), .int (zI (S 73)), .int (zI (S 74)), .long (zL (S 75))])), (hm, .inl (D.2 0, 3, .inl (fMu (mu S)))), (hg, .inl (D.2 0, 3, .inl (G))), (hbu, .inr (0, [.ref hs, .int (zI (S 77))])), (hs, .inl (D.2 0, 8, .inl (fSt S))), (hp, .inr (2, [.ref hw, .ref hz, .ref hl0, .int (zI (S 0))])), (hw, .inl (D.2 0, 16, .inl (fC S 0))), (hz, .inl (D.2 5, 3, .inr (.inr (.inr (.inr (f3 h0 h1 h2)))))), (h0, .inl (D.2 0, 16, .inl (fC S 1))), (h1, .inl (D.2 0, 16, .inl (fC S 2))), (h2, .inl (D.2 0, 16, .inl (fC S 3))), (hl0, .inl (D.2 0, 3, .inl (fLm S)))]) ⟨hx, hb, hml, hown, hts⟩ (c_X6_oneIf l D (sUse S (fSol S).toNat 2 = S 66)) (va_cwS 1 hts gX6_ofDimension_X6_oneIf rfl rfl rfl (by decide +kernel) ⟨Nat.le_of_ble_eq_true rfl, Nat.le_of_ble_eq_true rfl⟩) w [] rfl (by decide) [0, 1, 2, 3, 4, 5, 6, 7, 8, 9, 10, 11, 12] rfl (by decide) (by decide) rfl hl.1 rfl (lv_room (Nat.le_of_ble_eq_true rfl)) dX6_ofDimension_139 ⟨Nat.zero_le _, Nat.zero_le _⟩ (fun r W1 H locs hp w => ?_)
        obtain ⟨rfl, rfl⟩ := hp
        have w : zW D A s.heap s [(hxo, .inr (6, [.ref ho, .ref hh, .ref hsa, .ref hsv, .ref hpd9, .ref hse, .ref hmt])), (ho, .inr (5, [.ref hp, .ref hbu, .ref hm, .ref hg, .int (zI (S 71)), .int (zI (S 72)), .int (zI (fSol S)), .int (zI (fSw S)), .int (zI (S 73)), .int (zI (S 74)), .long (zL (S 75))])), (hm, .inl (D.2 0, 3, .inl (fMu (mu S)))), (hg, .inl (D.2 0, 3, .inl (G))), (hbu, .inr (0, [.ref hs, .int (zI (S 77))])), (hs, .inl (D.2 0, 8, .inl (fSt S))), (hp, .inr (2, [.ref hw, .ref hz, .ref hl0, .int (zI (S 0))])), (hw, .inl (D.2 0, 16, .inl (fC S 0))), (hz, .inl (D.2 5, 3, .inr (.inr (.inr (.inr (f3 h0 h1 h2)))))), (h0, .inl (D.2 0, 16, .inl (fC S 1))), (h1, .inl (D.2 0, 16, .inl (fC S 2))), (h2, .inl (D.2 0, 16, .inl (fC S 3))), (hl0, .inl (D.2 0, 3, .inl (fLm S)))] H locs := w.sub [0, 1, 2, 3, 4, 5, 6, 7, 8, 9, 10, 11, 12] (by decide) rfl
        refine lv_goto (tgt := 147) hx hb dX6_ofDimension_142 (by decide) ?_
        exact z_iret hx hb hr hlocks w dX6_ofDimension_147 ⟨by unfold qDim; rw [if_pos (by omega), if_pos (by omega)]; show _ = zI (if S 76 = -6 then -6 else zb (sUse S (S 76).toNat 2 = S 66)); first | rw [if_pos (by omega)] | (rw [if_neg (by omega), ← fSol_is (S := S) (by omega)]), rfl⟩
    · skip
      refine z_tswitD (tgt := 148) hx hb (by omega) dX6_ofDimension_10 (by omega) (by decide) ?_
      refine lv_bipush (v := zI (-2)) hx hb dX6_ofDimension_148 (by decide +kernel) ?_
      exact z_iret hx hb hr hlocks w dX6_ofDimension_150 ⟨by unfold qDim; rw [if_pos (by omega), if_neg (by omega)], rfl⟩
  · skip
    exact absurd (show (0 : Int) ≤ 1 ∧ (1 : Int) ≤ 2 by omega) c4
set_option maxHeartbeats 6000000 in
set_option maxRecDepth 100000 in
theorem c_X6_ofDimension2 (l : Launch) (D : zD) (hxo ho hm hg hbu hs hp hw hz h0 h1 h2 hl0 hh hsa hsv hpd9 hse hmt : Nat) (S : Nat → Int) (G : Nat → Int32) (B : Int) (hB : B ≤ 1900000000) (hok : OkS B S) (what : Int) (hw0 : zB what) : zM l yX6_ofDimension wsX6_ofDimension (zR (5)) zE0 D [.ref hxo, .int (zI (2)), .int (zI (what))] ((hxo, .inr (6, [.ref ho, .ref hh, .ref hsa, .ref hsv, .ref hpd9, .ref hse, .ref hmt])) :: (wSt D ho hm hg hbu hs hp hw hz h0 h1 h2 hl0 S G)) (zQi D (fun r W1 => r = zI (qDim S 2 what) ∧ W1 = ((hxo, .inr (6, [.ref ho, .ref hh, .ref hsa, .ref hsv, .ref hpd9, .ref hse, .ref hmt])) :: (wSt D ho hm hg hbu hs hp hw hz h0 h1 h2 hl0 S G)))) := by
  refine zM.of (cc := cX6_ofDimension) (maxL := 3) (ret := (some .int)) (by decide) rfl (Nat.le_of_ble_eq_true rfl) ?_
  intro p e s m below meth c A hx hb hml hown hts hr hlocks hE hnm w ls hl
  have hown : s.vm.findClass RX6 = some m.cls := hown
  have hl : lv_has ls 3 [(0, .ref hxo), (1, .int (zI (2))), (2, .int (zI (what)))] := hl
  have f_10 : (Cond.fieldLink RX6 10 "RelaxedSteps" "now" "LRelaxedSteps$State;").before _ s = true := hts _ (by decide +kernel)
  have f_81 : (Cond.fieldLink RX6 81 "RelaxedSteps$State" "packing" "LRelaxedSteps$Packing;").before _ s = true := hts _ (by decide +kernel)
  have f_128 : (Cond.fieldLink RX6 128 "RelaxedSteps$Packing" "limits" "[I").before _ s = true := hts _ (by decide +kernel)
  have f_98 : (Cond.fieldLink RX6 98 "RelaxedSteps$State" "multipliers" "[I").before _ s = true := hts _ (by decide +kernel)
  have f_121 : (Cond.fieldLink RX6 121 "RelaxedSteps$State" "solution" "I").before _ s = true := hts _ (by decide +kernel)
  have inX6 : ∀ w ∈ u_ws RX6 TX6 7, w ∈ wsX6_ofDimension := by decide +kernel
  have inX5 : ∀ w ∈ u_ws RX5 TX5 11, w ∈ wsX6_ofDimension := by decide +kernel
  have inX2 : ∀ w ∈ u_ws RX2 TX2 4, w ∈ wsX6_ofDimension := by decide +kernel
  obtain ⟨hokp, hokm, hokb, hsc, hbe⟩ := id hok
  have hn := zn_eq hokp
  have h16 := zn_le hokp
  have hlim := hokp.2.2
  have hm1 := hokm
  unfold OkM mu at hm1
  have hsw := fSw_b hok
  have hso := fSol_b hok
  have hhu := sHu_b hok
  have hbd := sBd_b hokp hokm
  have hkb := hokb.1
  have hqq := hokp.1
  have hrl := sRel_16 (M := mu S) hokp
  have hbw := sBw_b hokp
  have hfe := fSw_b hok
  have w : zW D A s.heap s [(hxo, .inr (6, [.ref ho, .ref hh, .ref hsa, .ref hsv, .ref hpd9, .ref hse, .ref hmt])), (ho, .inr (5, [.ref hp, .ref hbu, .ref hm, .ref hg, .int (zI (S 71)), .int (zI (S 72)), .int (zI (fSol S)), .int (zI (fSw S)), .int (zI (S 73)), .int (zI (S 74)), .long (zL (S 75))])), (hm, .inl (D.2 0, 3, .inl (fMu (mu S)))), (hg, .inl (D.2 0, 3, .inl (G))), (hbu, .inr (0, [.ref hs, .int (zI (S 77))])), (hs, .inl (D.2 0, 8, .inl (fSt S))), (hp, .inr (2, [.ref hw, .ref hz, .ref hl0, .int (zI (S 0))])), (hw, .inl (D.2 0, 16, .inl (fC S 0))), (hz, .inl (D.2 5, 3, .inr (.inr (.inr (.inr (f3 h0 h1 h2)))))), (h0, .inl (D.2 0, 16, .inl (fC S 1))), (h1, .inl (D.2 0, 16, .inl (fC S 2))), (h2, .inl (D.2 0, 16, .inl (fC S 3))), (hl0, .inl (D.2 0, 3, .inl (fLm S)))] s.heap [] := w
  refine lv_iload_n hx hb dX6_ofDimension_0 rfl (lv_at hl 1 rfl) ?_
  refine z_S_i (As := [.int (zI (2))]) (rest := []) (Wr := [(hxo, .inr (6, [.ref ho, .ref hh, .ref hsa, .ref hsv, .ref hpd9, .ref hse, .ref hmt])), (ho, .inr (5, [.ref hp, .ref hbu, .ref hm, .ref hg, .int (zI (S 71)), .int (zI (S 72)), .int (zI (fSol S)), .int (zI (fSw S)), .int (zI (S 73)), .int (zI (S 74)), .long (zL (S 75))])), (hm, .inl (D.2 0, 3, .inl (fMu (mu S)))), (hg, .inl (D.2 0, 3, .inl (G))), (hbu, .inr (0, [.ref hs, .int (zI (S 77))])), (hs, .inl (D.2 0, 8, .inl (fSt S))), (hp, .inr (2, [.ref hw, .ref hz, .ref hl0, .int (zI (S 0))])), (hw, .inl (D.2 0, 16, .inl (fC S 0))), (hz, .inl (D.2 5, 3, .inr (.inr (.inr (.inr (f3 h0 h1 h2)))))), (h0, .inl (D.2 0, 16, .inl (fC S 1))), (h1, .inl (D.2 0, 16, .inl (fC S 2))), (h2, .inl (D.2 0, 16, .inl (fC S 3))), (hl0, .inl (D.2 0, 3, .inl (fLm S)))]) ⟨hx, hb, hml, hown, hts⟩ (c_X6_isDimension l D 2 (by omega)) (va_cwS 1 hts gX6_ofDimension_X6_isDimension rfl rfl rfl (by decide +kernel) ⟨Nat.le_of_ble_eq_true rfl, Nat.le_of_ble_eq_true rfl⟩) w [] rfl (by decide) [0, 1, 2, 3, 4, 5, 6, 7, 8, 9, 10, 11, 12] rfl (by decide) (by decide) rfl hl.1 rfl (lv_room (Nat.le_of_ble_eq_true rfl)) dX6_ofDimension_1 ⟨Nat.zero_le _, Nat.zero_le _⟩ (fun r W1 H locs hp w => ?_)
  obtain ⟨rfl, rfl⟩ := hp
  have w : zW D A s.heap s [(hxo, .inr (6, [.ref ho, .ref hh, .ref hsa, .ref hsv, .ref hpd9, .ref hse, .ref hmt])), (ho, .inr (5, [.ref hp, .ref hbu, .ref hm, .ref hg, .int (zI (S 71)), .int (zI (S 72)), .int (zI (fSol S)), .int (zI (fSw S)), .int (zI (S 73)), .int (zI (S 74)), .long (zL (S 75))])), (hm, .inl (D.2 0, 3, .inl (fMu (mu S)))), (hg, .inl (D.2 0, 3, .inl (G))), (hbu, .inr (0, [.ref hs, .int (zI (S 77))])), (hs, .inl (D.2 0, 8, .inl (fSt S))), (hp, .inr (2, [.ref hw, .ref hz, .ref hl0, .int (zI (S 0))])), (hw, .inl (D.2 0, 16, .inl (fC S 0))), (hz, .inl (D.2 5, 3, .inr (.inr (.inr (.inr (f3 h0 h1 h2)))))), (h0, .inl (D.2 0, 16, .inl (fC S 1))), (h1, .inl (D.2 0, 16, .inl (fC S 2))), (h2, .inl (D.2 0, 16, .inl (fC S 3))), (hl0, .inl (D.2 0, 3, .inl (fLm S)))] H locs := w.sub [0, 1, 2, 3, 4, 5, 6, 7, 8, 9, 10, 11, 12] (by decide) rfl
  refine z_if_ne_b (tgt := 9) hx hb dX6_ofDimension_4 (by decide) (fun c4 => ?_) (fun c4 => ?_)
  · skip
    refine lv_iload_n hx hb dX6_ofDimension_9 rfl (lv_at hl 2 rfl) ?_
    rcases (show what = 0 ∨ what = 1 ∨ what = 2 ∨ what = 3 ∨ what = 4 ∨ (what < 0 ∨ 4 < what) by omega) with csw10 | csw10 | csw10 | csw10 | csw10 | csw10
    · skip
      subst csw10
      refine z_tswit (tgt := 44) hx hb (by omega) dX6_ofDimension_10 (by omega) (by omega) (off := 34) (by decide) (by decide) ?_
      refine lv_aload_n hx hb dX6_ofDimension_44 rfl (lv_at hl 0 rfl) ?_
      refine z_get hx hb hown hts w inX6 0 0 rfl rfl (by decide) f_10 rfl rfl dX6_ofDimension_45 ?_
      refine z_get hx hb hown hts w inX5 1 0 rfl rfl (by decide) f_81 rfl rfl dX6_ofDimension_48 ?_
      refine z_get hx hb hown hts w inX2 6 2 rfl rfl (by decide) f_128 rfl rfl dX6_ofDimension_51 ?_
      refine lv_iload_n hx hb dX6_ofDimension_54 rfl (lv_at hl 1 rfl) ?_
      refine z_iald hx hb w 12 rfl 2 (by omega) (by decide) rfl (v := (zI (S 67))) (if_pos (by omega)) dX6_ofDimension_55 ?_
      exact z_iret hx hb hr hlocks w dX6_ofDimension_56 ⟨by unfold qDim; rw [if_pos (by omega), if_pos (by omega)]; rfl, rfl⟩
    · skip
      subst csw10
      refine z_tswit (tgt := 57) hx hb (by omega) dX6_ofDimension_10 (by omega) (by omega) (off := 47) (by decide) (by decide) ?_
      refine lv_aload_n hx hb dX6_ofDimension_57 rfl (lv_at hl 0 rfl) ?_
      refine z_get hx hb hown hts w inX6 0 0 rfl rfl (by decide) f_10 rfl rfl dX6_ofDimension_58 ?_
      refine z_get hx hb hown hts w inX5 1 2 rfl rfl (by decide) f_98 rfl rfl dX6_ofDimension_61 ?_
      refine lv_iload_n hx hb dX6_ofDimension_64 rfl (lv_at hl 1 rfl) ?_
      refine z_iald hx hb w 2 rfl 2 (by omega) (by decide) rfl (v := (zI (S 70))) (if_pos (by omega)) dX6_ofDimension_65 ?_
      exact z_iret hx hb hr hlocks w dX6_ofDimension_66 ⟨by unfold qDim; rw [if_pos (by omega), if_pos (by omega)]; rfl, rfl⟩
    · skip
      subst csw10
      refine z_tswit (tgt := 67) hx hb (by omega) dX6_ofDimension_10 (by omega) (by omega) (off := 57) (by decide) (by decide) ?_
      refine lv_aload_n hx hb dX6_ofDimension_67 rfl (lv_at hl 0 rfl) ?_
      refine z_get hx hb hown hts w inX6 0 0 rfl rfl (by decide) f_10 rfl rfl dX6_ofDimension_68 ?_
      refine lv_iload_n hx hb dX6_ofDimension_71 rfl (lv_at hl 1 rfl) ?_
      refine lv_aload_n hx hb dX6_ofDimension_72 rfl (lv_at hl 0 rfl) ?_
      refine z_get hx hb hown hts w inX6 0 0 rfl rfl (by decide) f_10 rfl rfl dX6_ofDimension_73 ?_
      refine z_V_i (As := []) (rest := [.int (zI (2)), .ref ho]) (Wr := [(hxo, .inr (6, [.ref ho, .ref hh, .ref hsa, .ref hsv, .ref hpd9, .ref hse, .ref hmt])), (hg, .inl (D.2 0, 3, .inl (G))), (hbu, .inr (0, [.ref hs, .int (zI (S 77))])), (hs, .inl (D.2 0, 8, .inl (fSt S)))]) ⟨hx, hb, hml, hown, hts⟩ (c_X5_relaxedSet l D ho hm hp hw hz h0 h1 h2 hl0 hbu hg S (mu S) (S 71) (S 72) (fSol S) (fSw S) (S 73) (S 74) (S 75) hokp hokm) (cwV 0 hts gX6_ofDimension_X5_relaxedSet rfl rfl rfl (by decide +kernel) ⟨Nat.le_of_ble_eq_true rfl, Nat.le_of_ble_eq_true rfl⟩) w (q0 := 1) rfl rfl rfl [1, 2, 6, 7, 8, 9, 10, 11, 12] rfl (by decide) [0, 3, 4, 5] rfl (by decide) (by decide) rfl hl.1 rfl (lv_room (Nat.le_of_ble_eq_true rfl)) dX6_ofDimension_76 ⟨Nat.zero_le _, Nat.zero_le _⟩ (fun r W1 H locs hp w => ?_)
      obtain ⟨rfl, rfl⟩ := hp
      have w : zW D A s.heap s [(hxo, .inr (6, [.ref ho, .ref hh, .ref hsa, .ref hsv, .ref hpd9, .ref hse, .ref hmt])), (ho, .inr (5, [.ref hp, .ref hbu, .ref hm, .ref hg, .int (zI (S 71)), .int (zI (S 72)), .int (zI (fSol S)), .int (zI (fSw S)), .int (zI (S 73)), .int (zI (S 74)), .long (zL (S 75))])), (hm, .inl (D.2 0, 3, .inl (fMu (mu S)))), (hg, .inl (D.2 0, 3, .inl (G))), (hbu, .inr (0, [.ref hs, .int (zI (S 77))])), (hs, .inl (D.2 0, 8, .inl (fSt S))), (hp, .inr (2, [.ref hw, .ref hz, .ref hl0, .int (zI (S 0))])), (hw, .inl (D.2 0, 16, .inl (fC S 0))), (hz, .inl (D.2 5, 3, .inr (.inr (.inr (.inr (f3 h0 h1 h2)))))), (h0, .inl (D.2 0, 16, .inl (fC S 1))), (h1, .inl (D.2 0, 16, .inl (fC S 2))), (h2, .inl (D.2 0, 16, .inl (fC S 3))), (hl0, .inl (D.2 0, 3, .inl (fLm S)))] H locs := w.sub [0, 4, 5, 1, 2, 3, 6, 7, 8, 9, 10, 11, 12] (by decide) rfl
      refine z_V_i (As := [.int (zI (2)), .int (zI (((sRel S (mu S) : Nat) : Int)))]) (rest := []) (Wr := [(hxo, .inr (6, [.ref ho, .ref hh, .ref hsa, .ref hsv, .ref hpd9, .ref hse, .ref hmt])), (hg, .inl (D.2 0, 3, .inl (G))), (hbu, .inr (0, [.ref hs, .int (zI (S 77))])), (hs, .inl (D.2 0, 8, .inl (fSt S)))]) ⟨hx, hb, hml, hown, hts⟩ (c_X5_slope2 l D ho hm hp hw hz h0 h1 h2 hl0 hbu hg S (mu S) (S 71) (S 72) (fSol S) (fSw S) (S 73) (S 74) (S 75) hokp (sRel S (mu S)) (by omega)) (cwV 2 hts gX6_ofDimension_X5_slope rfl rfl rfl (by decide +kernel) ⟨Nat.le_of_ble_eq_true rfl, Nat.le_of_ble_eq_true rfl⟩) w (q0 := 1) rfl rfl rfl [1, 2, 6, 7, 8, 9, 10, 11, 12] rfl (by decide) [0, 3, 4, 5] rfl (by decide) (by decide) rfl hl.1 rfl (lv_room (Nat.le_of_ble_eq_true rfl)) dX6_ofDimension_79 ⟨Nat.zero_le _, Nat.zero_le _⟩ (fun r W1 H locs hp w => ?_)
      obtain ⟨rfl, rfl⟩ := hp
      have w : zW D A s.heap s [(hxo, .inr (6, [.ref ho, .ref hh, .ref hsa, .ref hsv, .ref hpd9, .ref hse, .ref hmt])), (ho, .inr (5, [.ref hp, .ref hbu, .ref hm, .ref hg, .int (zI (S 71)), .int (zI (S 72)), .int (zI (fSol S)), .int (zI (fSw S)), .int (zI (S 73)), .int (zI (S 74)), .long (zL (S 75))])), (hm, .inl (D.2 0, 3, .inl (fMu (mu S)))), (hg, .inl (D.2 0, 3, .inl (G))), (hbu, .inr (0, [.ref hs, .int (zI (S 77))])), (hs, .inl (D.2 0, 8, .inl (fSt S))), (hp, .inr (2, [.ref hw, .ref hz, .ref hl0, .int (zI (S 0))])), (hw, .inl (D.2 0, 16, .inl (fC S 0))), (hz, .inl (D.2 5, 3, .inr (.inr (.inr (.inr (f3 h0 h1 h2)))))), (h0, .inl (D.2 0, 16, .inl (fC S 1))), (h1, .inl (D.2 0, 16, .inl (fC S 2))), (h2, .inl (D.2 0, 16, .inl (fC S 3))), (hl0, .inl (D.2 0, 3, .inl (fLm S)))] H locs := w.sub [0, 4, 5, 1, 2, 3, 6, 7, 8, 9, 10, 11, 12] (by decide) rfl
      refine lv_sipush (v := zI 10000) hx hb dX6_ofDimension_82 (by decide +kernel) ?_
      refine z_iadd hx hb dX6_ofDimension_85 ?_
      exact z_iret hx hb hr hlocks w dX6_ofDimension_86 ⟨by unfold qDim; rw [if_pos (by omega), if_pos (by omega)]; rfl, rfl⟩
    · skip
      subst csw10
      refine z_tswit (tgt := 87) hx hb (by omega) dX6_ofDimension_10 (by omega) (by omega) (off := 77) (by decide) (by decide) ?_
      refine lv_aload_n hx hb dX6_ofDimension_87 rfl (lv_at hl 0 rfl) ?_
      refine z_get hx hb hown hts w inX6 0 0 rfl rfl (by decide) f_10 rfl rfl dX6_ofDimension_88 ?_
      refine z_V_i (As := []) (rest := []) (Wr := [(hxo, .inr (6, [.ref ho, .ref hh, .ref hsa, .ref hsv, .ref hpd9, .ref hse, .ref hmt])), (hm, .inl (D.2 0, 3, .inl (fMu (mu S)))), (hg, .inl (D.2 0, 3, .inl (G))), (hbu, .inr (0, [.ref hs, .int (zI (S 77))])), (hs, .inl (D.2 0, 8, .inl (fSt S))), (hp, .inr (2, [.ref hw, .ref hz, .ref hl0, .int (zI (S 0))])), (hw, .inl (D.2 0, 16, .inl (fC S 0))), (hz, .inl (D.2 5, 3, .inr (.inr (.inr (.inr (f3 h0 h1 h2)))))), (h0, .inl (D.2 0, 16, .inl (fC S 1))), (h1, .inl (D.2 0, 16, .inl (fC S 2))), (h2, .inl (D.2 0, 16, .inl (fC S 3))), (hl0, .inl (D.2 0, 3, .inl (fLm S)))]) ⟨hx, hb, hml, hown, hts⟩ (c_X5_hasSolution l D ho hp hbu hm hg (S 71) (S 72) (fSol S) (fSw S) (S 73) (S 74) (S 75) (by omega)) (cwV 0 hts gX6_ofDimension_X5_hasSolution rfl rfl rfl (by decide +kernel) ⟨Nat.le_of_ble_eq_true rfl, Nat.le_of_ble_eq_true rfl⟩) w (q0 := 1) rfl rfl rfl [1] rfl (by decide) [0, 2, 3, 4, 5, 6, 7, 8, 9, 10, 11, 12] rfl (by decide) (by decide) rfl hl.1 rfl (lv_room (Nat.le_of_ble_eq_true rfl)) dX6_ofDimension_91 ⟨Nat.zero_le _, Nat.zero_le _⟩ (fun r W1 H locs hp w => ?_)
      obtain ⟨rfl, rfl⟩ := hp
      have w : zW D A s.heap s [(hxo, .inr (6, [.ref ho, .ref hh, .ref hsa, .ref hsv, .ref hpd9, .ref hse, .ref hmt])), (ho, .inr (5, [.ref hp, .ref hbu, .ref hm, .ref hg, .int (zI (S 71)), .int (zI (S 72)), .int (zI (fSol S)), .int (zI (fSw S)), .int (zI (S 73)), .int (zI (S 74)), .long (zL (S 75))])), (hm, .inl (D.2 0, 3, .inl (fMu (mu S)))), (hg, .inl (D.2 0, 3, .inl (G))), (hbu, .inr (0, [.ref hs, .int (zI (S 77))])), (hs, .inl (D.2 0, 8, .inl (fSt S))), (hp, .inr (2, [.ref hw, .ref hz, .ref hl0, .int (zI (S 0))])), (hw, .inl (D.2 0, 16, .inl (fC S 0))), (hz, .inl (D.2 5, 3, .inr (.inr (.inr (.inr (f3 h0 h1 h2)))))), (h0, .inl (D.2 0, 16, .inl (fC S 1))), (h1, .inl (D.2 0, 16, .inl (fC S 2))), (h2, .inl (D.2 0, 16, .inl (fC S 3))), (hl0, .inl (D.2 0, 3, .inl (fLm S)))] H locs := w.sub [0, 12, 1, 2, 3, 4, 5, 6, 7, 8, 9, 10, 11] (by decide) rfl
      refine z_if_eq_b (tgt := 118) hx hb dX6_ofDimension_94 (by decide) (fun c94 => ?_) (fun c94 => ?_)
      · skip
        refine lv_bipush (v := zI (-6)) hx hb dX6_ofDimension_118 (by decide +kernel) ?_
        exact z_iret hx hb hr hlocks w dX6_ofDimension_120 ⟨by unfold qDim; rw [if_pos (by omega), if_pos (by omega)]; show _ = zI (if S 76 = -6 then -6 else sUse S (S 76).toNat 3); first | rw [if_pos (by omega)] | rw [if_neg (by omega), ← fSol_is (S := S) (by omega)], rfl⟩
      · skip
        refine lv_aload_n hx hb dX6_ofDimension_97 rfl (lv_at hl 0 rfl) ?_
        refine z_get hx hb hown hts w inX6 0 0 rfl rfl (by decide) f_10 rfl rfl dX6_ofDimension_98 ?_
        refine z_get hx hb hown hts w inX5 1 0 rfl rfl (by decide) f_81 rfl rfl dX6_ofDimension_101 ?_
        refine lv_aload_n hx hb dX6_ofDimension_104 rfl (lv_at hl 0 rfl) ?_
        refine z_get hx hb hown hts w inX6 0 0 rfl rfl (by decide) f_10 rfl rfl dX6_ofDimension_105 ?_
        refine z_get hx hb hown hts w inX5 1 6 rfl rfl (by decide) f_121 rfl rfl dX6_ofDimension_108 ?_
        refine lv_iload_n hx hb dX6_ofDimension_111 rfl (lv_at hl 1 rfl) ?_
        refine W.eq (g2 := F0 m 112 ls [.int (zI (2)), .int (zI ((((fSol S).toNat : Nat) : Int))), .ref hp]) (by rw [Int.toNat_of_nonneg hso.1]) ?_
        refine z_V_i (As := [.int (zI ((((fSol S).toNat : Nat) : Int))), .int (zI (2))]) (rest := []) (Wr := [(hxo, .inr (6, [.ref ho, .ref hh, .ref hsa, .ref hsv, .ref hpd9, .ref hse, .ref hmt])), (ho, .inr (5, [.ref hp, .ref hbu, .ref hm, .ref hg, .int (zI (S 71)), .int (zI (S 72)), .int (zI (fSol S)), .int (zI (fSw S)), .int (zI (S 73)), .int (zI (S 74)), .long (zL (S 75))])), (hm, .inl (D.2 0, 3, .inl (fMu (mu S)))), (hg, .inl (D.2 0, 3, .inl (G))), (hbu, .inr (0, [.ref hs, .int (zI (S 77))])), (hs, .inl (D.2 0, 8, .inl (fSt S)))]) ⟨hx, hb, hml, hown, hts⟩ (c_X2_use2 l D hp hw hz h0 h1 h2 hl0 S hokp ((fSol S).toNat) (by omega)) (cwV 2 hts gX6_ofDimension_X2_use rfl rfl rfl (by decide +kernel) ⟨Nat.le_of_ble_eq_true rfl, Nat.le_of_ble_eq_true rfl⟩) w (q0 := 6) rfl rfl rfl [6, 7, 8, 9, 10, 11, 12] rfl (by decide) [0, 1, 2, 3, 4, 5] rfl (by decide) (by decide) rfl hl.1 rfl (lv_room (Nat.le_of_ble_eq_true rfl)) dX6_ofDimension_112 ⟨Nat.zero_le _, Nat.zero_le _⟩ (fun r W1 H locs hp w => ?_)
        obtain ⟨rfl, rfl⟩ := hp
        have w : zW D A s.heap s [(hxo, .inr (6, [.ref ho, .ref hh, .ref hsa, .ref hsv, .ref hpd9, .ref hse, .ref hmt])), (ho, .inr (5, [.ref hp, .ref hbu, .ref hm, .ref hg, .int (zI (S 71)), .int (zI (S 72)), .int (zI (fSol S)), .int (zI (fSw S)), .int (zI (S 73)), .int (zI (S 74)), .long (zL (S 75))])), (hm, .inl (D.2 0, 3, .inl (fMu (mu S)))), (hg, .inl (D.2 0, 3, .inl (G))), (hbu, .inr (0, [.ref hs, .int (zI (S 77))])), (hs, .inl (D.2 0, 8, .inl (fSt S))), (hp, .inr (2, [.ref hw, .ref hz, .ref hl0, .int (zI (S 0))])), (hw, .inl (D.2 0, 16, .inl (fC S 0))), (hz, .inl (D.2 5, 3, .inr (.inr (.inr (.inr (f3 h0 h1 h2)))))), (h0, .inl (D.2 0, 16, .inl (fC S 1))), (h1, .inl (D.2 0, 16, .inl (fC S 2))), (h2, .inl (D.2 0, 16, .inl (fC S 3))), (hl0, .inl (D.2 0, 3, .inl (fLm S)))] H locs := w.sub [0, 1, 2, 3, 4, 5, 6, 7, 8, 9, 10, 11, 12] (by decide) rfl
        refine lv_goto (tgt := 120) hx hb dX6_ofDimension_115 (by decide) ?_
        exact z_iret hx hb hr hlocks w dX6_ofDimension_120 ⟨by unfold qDim; rw [if_pos (by omega), if_pos (by omega)]; show _ = zI (if S 76 = -6 then -6 else sUse S (S 76).toNat 3); first | rw [if_pos (by omega)] | rw [if_neg (by omega), ← fSol_is (S := S) (by omega)], rfl⟩
    · skip
      subst csw10
      refine z_tswit (tgt := 121) hx hb (by omega) dX6_ofDimension_10 (by omega) (by omega) (off := 111) (by decide) (by decide) ?_
      refine lv_aload_n hx hb dX6_ofDimension_121 rfl (lv_at hl 0 rfl) ?_
      refine z_get hx hb hown hts w inX6 0 0 rfl rfl (by decide) f_10 rfl rfl dX6_ofDimension_122 ?_
      refine z_V_i (As := []) (rest := []) (Wr := [(hxo, .inr (6, [.ref ho, .ref hh, .ref hsa, .ref hsv, .ref hpd9, .ref hse, .ref hmt])), (hm, .inl (D.2 0, 3, .inl (fMu (mu S)))), (hg, .inl (D.2 0, 3, .inl (G))), (hbu, .inr (0, [.ref hs, .int (zI (S 77))])), (hs, .inl (D.2 0, 8, .inl (fSt S))), (hp, .inr (2, [.ref hw, .ref hz, .ref hl0, .int (zI (S 0))])), (hw, .inl (D.2 0, 16, .inl (fC S 0))), (hz, .inl (D.2 5, 3, .inr (.inr (.inr (.inr (f3 h0 h1 h2)))))), (h0, .inl (D.2 0, 16, .inl (fC S 1))), (h1, .inl (D.2 0, 16, .inl (fC S 2))), (h2, .inl (D.2 0, 16, .inl (fC S 3))), (hl0, .inl (D.2 0, 3, .inl (fLm S)))]) ⟨hx, hb, hml, hown, hts⟩ (c_X5_hasSolution l D ho hp hbu hm hg (S 71) (S 72) (fSol S) (fSw S) (S 73) (S 74) (S 75) (by omega)) (cwV 0 hts gX6_ofDimension_X5_hasSolution rfl rfl rfl (by decide +kernel) ⟨Nat.le_of_ble_eq_true rfl, Nat.le_of_ble_eq_true rfl⟩) w (q0 := 1) rfl rfl rfl [1] rfl (by decide) [0, 2, 3, 4, 5, 6, 7, 8, 9, 10, 11, 12] rfl (by decide) (by decide) rfl hl.1 rfl (lv_room (Nat.le_of_ble_eq_true rfl)) dX6_ofDimension_125 ⟨Nat.zero_le _, Nat.zero_le _⟩ (fun r W1 H locs hp w => ?_)
      obtain ⟨rfl, rfl⟩ := hp
      have w : zW D A s.heap s [(hxo, .inr (6, [.ref ho, .ref hh, .ref hsa, .ref hsv, .ref hpd9, .ref hse, .ref hmt])), (ho, .inr (5, [.ref hp, .ref hbu, .ref hm, .ref hg, .int (zI (S 71)), .int (zI (S 72)), .int (zI (fSol S)), .int (zI (fSw S)), .int (zI (S 73)), .int (zI (S 74)), .long (zL (S 75))])), (hm, .inl (D.2 0, 3, .inl (fMu (mu S)))), (hg, .inl (D.2 0, 3, .inl (G))), (hbu, .inr (0, [.ref hs, .int (zI (S 77))])), (hs, .inl (D.2 0, 8, .inl (fSt S))), (hp, .inr (2, [.ref hw, .ref hz, .ref hl0, .int (zI (S 0))])), (hw, .inl (D.2 0, 16, .inl (fC S 0))), (hz, .inl (D.2 5, 3, .inr (.inr (.inr (.inr (f3 h0 h1 h2)))))), (h0, .inl (D.2 0, 16, .inl (fC S 1))), (h1, .inl (D.2 0, 16, .inl (fC S 2))), (h2, .inl (D.2 0, 16, .inl (fC S 3))), (hl0, .inl (D.2 0, 3, .inl (fLm S)))] H locs := w.sub [0, 12, 1, 2, 3, 4, 5, 6, 7, 8, 9, 10, 11] (by decide) rfl
      refine z_if_eq_b (tgt := 145) hx hb dX6_ofDimension_128 (by decide) (fun c128 => ?_) (fun c128 => ?_)
      · skip
        refine lv_bipush (v := zI (-6)) hx hb dX6_ofDimension_145 (by decide +kernel) ?_
        exact z_iret hx hb hr hlocks w dX6_ofDimension_147 ⟨by unfold qDim; rw [if_pos (by omega), if_pos (by omega)]; show _ = zI (if S 76 = -6 then -6 else zb (sUse S (S 76).toNat 3 = S 67)); first | rw [if_pos (by omega)] | (rw [if_neg (by omega), ← fSol_is (S := S) (by omega)]), rfl⟩
      · skip
        refine lv_aload_n hx hb dX6_ofDimension_131 rfl (lv_at hl 0 rfl) ?_
        refine z_get hx hb hown hts w inX6 0 0 rfl rfl (by decide) f_10 rfl rfl dX6_ofDimension_132 ?_
        refine lv_iload_n hx hb dX6_ofDimension_135 rfl (lv_at hl 1 rfl) ?_
        refine z_V_i (As := [.int (zI (2))]) (rest := []) (Wr := [(hxo, .inr (6, [.ref ho, .ref hh, .ref hsa, .ref hsv, .ref hpd9, .ref hse, .ref hmt]))]) ⟨hx, hb, hml, hown, hts⟩ (c_X5_isTight2 l D ho hm hg hbu hs hp hw hz h0 h1 h2 hl0 S G B (by omega) hok) (cwV 1 hts gX6_ofDimension_X5_isTight rfl rfl rfl (by decide +kernel) ⟨Nat.le_of_ble_eq_true rfl, Nat.le_of_ble_eq_true rfl⟩) w (q0 := 1) rfl rfl rfl [1, 2, 3, 4, 5, 6, 7, 8, 9, 10, 11, 12] rfl (by decide) [0] rfl (by decide) (by decide) rfl hl.1 rfl (lv_room (Nat.le_of_ble_eq_true rfl)) dX6_ofDimension_136 ⟨Nat.zero_le _, Nat.zero_le _⟩ (fun r W1 H locs hp w => ?_)
        obtain ⟨rfl, rfl⟩ := hp
        have w : zW D A s.heap s [(hxo, .inr (6, [.ref ho, .ref hh, .ref hsa, .ref hsv, .ref hpd9, .ref hse, .ref hmt])), (ho, .inr (5, [.ref hp, .ref hbu, .ref hm, .ref hg, .int (zI (S 71)), .int (zI (S 72)), .int (zI (fSol S)), .int (zI (fSw S)), .int (zI (S 73)), .int (zI (S 74)), .long (zL (S 75))])), (hm, .inl (D.2 0, 3, .inl (fMu (mu S)))), (hg, .inl (D.2 0, 3, .inl (G))), (hbu, .inr (0, [.ref hs, .int (zI (S 77))])), (hs, .inl (D.2 0, 8, .inl (fSt S))), (hp, .inr (2, [.ref hw, .ref hz, .ref hl0, .int (zI (S 0))])), (hw, .inl (D.2 0, 16, .inl (fC S 0))), (hz, .inl (D.2 5, 3, .inr (.inr (.inr (.inr (f3 h0 h1 h2)))))), (h0, .inl (D.2 0, 16, .inl (fC S 1))), (h1, .inl (D.2 0, 16, .inl (fC S 2))), (h2, .inl (D.2 0, 16, .inl (fC S 3))), (hl0, .inl (D.2 0, 3, .inl (fLm S)))] H locs := w.sub [0, 1, 2, 3, 4, 5, 6, 7, 8, 9, 10, 11, 12] (by decide) rfl
        refine z_S_i (As := [.int (zI (zb (sUse S (fSol S).toNat 3 = S 67)))]) (rest := []) (Wr := [(hxo, .inr (6, [.ref ho, .ref hh, .ref hsa, .ref hsv, .ref hpd9, .ref hse, .ref hmt])), (ho, .inr (5, [.ref hp, .ref hbu, .ref hm, .ref hg, .int (zI (S 71)), .int (zI (S 72)), .int (zI (fSol S)), .int (zI (fSw S)), .int (zI (S 73)), .int (zI (S 74)), .long (zL (S 75))])), (hm, .inl (D.2 0, 3, .inl (fMu (mu S)))), (hg, .inl (D.2 0, 3, .inl (G))), (hbu, .inr (0, [.ref hs, .int (zI (S 77))])), (hs, .inl (D.2 0, 8, .inl (fSt S))), (hp, .inr (2, [.ref hw, .ref hz, .ref hl0, .int (zI (S 0))])), (hw, .inl (D.2 0, 16, .inl (fC S 0))), (hz, .inl (D.2 5, 3, .inr (.inr (.inr (.inr (f3 h0 h1 h2)))))), (h0, .inl (D.2 0, 16, .inl (fC S 1))), (h1, .inl (D.2 0, 16, .inl (fC S 2))), (h2, .inl (D.2 0, 16, .inl (fC S 3))), (hl0, .inl (D.2 0, 3, .inl (fLm S)))]) ⟨hx, hb, hml, hown, hts⟩ (c_X6_oneIf l D (sUse S (fSol S).toNat 3 = S 67)) (va_cwS 1 hts gX6_ofDimension_X6_oneIf rfl rfl rfl (by decide +kernel) ⟨Nat.le_of_ble_eq_true rfl, Nat.le_of_ble_eq_true rfl⟩) w [] rfl (by decide) [0, 1, 2, 3, 4, 5, 6, 7, 8, 9, 10, 11, 12] rfl (by decide) (by decide) rfl hl.1 rfl (lv_room (Nat.le_of_ble_eq_true rfl)) dX6_ofDimension_139 ⟨Nat.zero_le _, Nat.zero_le _⟩ (fun r W1 H locs hp w => ?_)
        obtain ⟨rfl, rfl⟩ := hp
        have w : zW D A s.heap s [(hxo, .inr (6, [.ref ho, .ref hh, .ref hsa, .ref hsv, .ref hpd9, .ref hse, .ref hmt])), (ho, .inr (5, [.ref hp, .ref hbu, .ref hm, .ref hg, .int (zI (S 71)), .int (zI (S 72)), .int (zI (fSol S)), .int (zI (fSw S)), .int (zI (S 73)), .int (zI (S 74)), .long (zL (S 75))])), (hm, .inl (D.2 0, 3, .inl (fMu (mu S)))), (hg, .inl (D.2 0, 3, .inl (G))), (hbu, .inr (0, [.ref hs, .int (zI (S 77))])), (hs, .inl (D.2 0, 8, .inl (fSt S))), (hp, .inr (2, [.ref hw, .ref hz, .ref hl0, .int (zI (S 0))])), (hw, .inl (D.2 0, 16, .inl (fC S 0))), (hz, .inl (D.2 5, 3, .inr (.inr (.inr (.inr (f3 h0 h1 h2)))))), (h0, .inl (D.2 0, 16, .inl (fC S 1))), (h1, .inl (D.2 0, 16, .inl (fC S 2))), (h2, .inl (D.2 0, 16, .inl (fC S 3))), (hl0, .inl (D.2 0, 3, .inl (fLm S)))] H locs := w.sub [0, 1, 2, 3, 4, 5, 6, 7, 8, 9, 10, 11, 12] (by decide) rfl
        refine lv_goto (tgt := 147) hx hb dX6_ofDimension_142 (by decide) ?_
        exact z_iret hx hb hr hlocks w dX6_ofDimension_147 ⟨by unfold qDim; rw [if_pos (by omega), if_pos (by omega)]; show _ = zI (if S 76 = -6 then -6 else zb (sUse S (S 76).toNat 3 = S 67)); first | rw [if_pos (by omega)] | (rw [if_neg (by omega), ← fSol_is (S := S) (by omega)]), rfl⟩
    · skip
      refine z_tswitD (tgt := 148) hx hb (by omega) dX6_ofDimension_10 (by omega) (by decide) ?_
      refine lv_bipush (v := zI (-2)) hx hb dX6_ofDimension_148 (by decide +kernel) ?_
      exact z_iret hx hb hr hlocks w dX6_ofDimension_150 ⟨by unfold qDim; rw [if_pos (by omega), if_neg (by omega)], rfl⟩
  · skip
    exact absurd (show (0 : Int) ≤ 2 ∧ (2 : Int) ≤ 2 by omega) c4
set_option maxHeartbeats 6000000 in
set_option maxRecDepth 100000 in
theorem c_X6_ofDimensionN (l : Launch) (D : zD) (hxo ho hm hg hbu hs hp hw hz h0 h1 h2 hl0 hh hsa hsv hpd9 hse hmt : Nat) (S : Nat → Int) (G : Nat → Int32) (B : Int) (hB : B ≤ 1900000000) (hok : OkS B S) (d0 what : Int) (hd0 : zB d0) (hw0 : zB what) (hno : ¬ (0 ≤ d0 ∧ d0 ≤ 2)) : zM l yX6_ofDimension wsX6_ofDimension (zR (5)) zE0 D [.ref hxo, .int (zI (d0)), .int (zI (what))] ((hxo, .inr (6, [.ref ho, .ref hh, .ref hsa, .ref hsv, .ref hpd9, .ref hse, .ref hmt])) :: (wSt D ho hm hg hbu hs hp hw hz h0 h1 h2 hl0 S G)) (zQi D (fun r W1 => r = zI (qDim S d0 what) ∧ W1 = ((hxo, .inr (6, [.ref ho, .ref hh, .ref hsa, .ref hsv, .ref hpd9, .ref hse, .ref hmt])) :: (wSt D ho hm hg hbu hs hp hw hz h0 h1 h2 hl0 S G)))) := by
  refine zM.of (cc := cX6_ofDimension) (maxL := 3) (ret := (some .int)) (by decide) rfl (Nat.le_of_ble_eq_true rfl) ?_
  intro p e s m below meth c A hx hb hml hown hts hr hlocks hE hnm w ls hl
  have hown : s.vm.findClass RX6 = some m.cls := hown
  have hl : lv_has ls 3 [(0, .ref hxo), (1, .int (zI (d0))), (2, .int (zI (what)))] := hl
  obtain ⟨hokp, hokm, hokb, hsc, hbe⟩ := id hok
  have hn := zn_eq hokp
  have h16 := zn_le hokp
  have hlim := hokp.2.2
  have hm1 := hokm
  unfold OkM mu at hm1
  have hsw := fSw_b hok
  have hso := fSol_b hok
  have hhu := sHu_b hok
  have hbd := sBd_b hokp hokm
  have hkb := hokb.1
  have hqq := hokp.1
  have hrl := sRel_16 (M := mu S) hokp
  have hbw := sBw_b hokp
  have hfe := fSw_b hok
  have w : zW D A s.heap s [(hxo, .inr (6, [.ref ho, .ref hh, .ref hsa, .ref hsv, .ref hpd9, .ref hse, .ref hmt])), (ho, .inr (5, [.ref hp, .ref hbu, .ref hm, .ref hg, .int (zI (S 71)), .int (zI (S 72)), .int (zI (fSol S)), .int (zI (fSw S)), .int (zI (S 73)), .int (zI (S 74)), .long (zL (S 75))])), (hm, .inl (D.2 0, 3, .inl (fMu (mu S)))), (hg, .inl (D.2 0, 3, .inl (G))), (hbu, .inr (0, [.ref hs, .int (zI (S 77))])), (hs, .inl (D.2 0, 8, .inl (fSt S))), (hp, .inr (2, [.ref hw, .ref hz, .ref hl0, .int (zI (S 0))])), (hw, .inl (D.2 0, 16, .inl (fC S 0))), (hz, .inl (D.2 5, 3, .inr (.inr (.inr (.inr (f3 h0 h1 h2)))))), (h0, .inl (D.2 0, 16, .inl (fC S 1))), (h1, .inl (D.2 0, 16, .inl (fC S 2))), (h2, .inl (D.2 0, 16, .inl (fC S 3))), (hl0, .inl (D.2 0, 3, .inl (fLm S)))] s.heap [] := w
  refine lv_iload_n hx hb dX6_ofDimension_0 rfl (lv_at hl 1 rfl) ?_
  refine z_S_i (As := [.int (zI (d0))]) (rest := []) (Wr := [(hxo, .inr (6, [.ref ho, .ref hh, .ref hsa, .ref hsv, .ref hpd9, .ref hse, .ref hmt])), (ho, .inr (5, [.ref hp, .ref hbu, .ref hm, .ref hg, .int (zI (S 71)), .int (zI (S 72)), .int (zI (fSol S)), .int (zI (fSw S)), .int (zI (S 73)), .int (zI (S 74)), .long (zL (S 75))])), (hm, .inl (D.2 0, 3, .inl (fMu (mu S)))), (hg, .inl (D.2 0, 3, .inl (G))), (hbu, .inr (0, [.ref hs, .int (zI (S 77))])), (hs, .inl (D.2 0, 8, .inl (fSt S))), (hp, .inr (2, [.ref hw, .ref hz, .ref hl0, .int (zI (S 0))])), (hw, .inl (D.2 0, 16, .inl (fC S 0))), (hz, .inl (D.2 5, 3, .inr (.inr (.inr (.inr (f3 h0 h1 h2)))))), (h0, .inl (D.2 0, 16, .inl (fC S 1))), (h1, .inl (D.2 0, 16, .inl (fC S 2))), (h2, .inl (D.2 0, 16, .inl (fC S 3))), (hl0, .inl (D.2 0, 3, .inl (fLm S)))]) ⟨hx, hb, hml, hown, hts⟩ (c_X6_isDimension l D d0 (by omega)) (va_cwS 1 hts gX6_ofDimension_X6_isDimension rfl rfl rfl (by decide +kernel) ⟨Nat.le_of_ble_eq_true rfl, Nat.le_of_ble_eq_true rfl⟩) w [] rfl (by decide) [0, 1, 2, 3, 4, 5, 6, 7, 8, 9, 10, 11, 12] rfl (by decide) (by decide) rfl hl.1 rfl (lv_room (Nat.le_of_ble_eq_true rfl)) dX6_ofDimension_1 ⟨Nat.zero_le _, Nat.zero_le _⟩ (fun r W1 H locs hp w => ?_)
  obtain ⟨rfl, rfl⟩ := hp
  have w : zW D A s.heap s [(hxo, .inr (6, [.ref ho, .ref hh, .ref hsa, .ref hsv, .ref hpd9, .ref hse, .ref hmt])), (ho, .inr (5, [.ref hp, .ref hbu, .ref hm, .ref hg, .int (zI (S 71)), .int (zI (S 72)), .int (zI (fSol S)), .int (zI (fSw S)), .int (zI (S 73)), .int (zI (S 74)), .long (zL (S 75))])), (hm, .inl (D.2 0, 3, .inl (fMu (mu S)))), (hg, .inl (D.2 0, 3, .inl (G))), (hbu, .inr (0, [.ref hs, .int (zI (S 77))])), (hs, .inl (D.2 0, 8, .inl (fSt S))), (hp, .inr (2, [.ref hw, .ref hz, .ref hl0, .int (zI (S 0))])), (hw, .inl (D.2 0, 16, .inl (fC S 0))), (hz, .inl (D.2 5, 3, .inr (.inr (.inr (.inr (f3 h0 h1 h2)))))), (h0, .inl (D.2 0, 16, .inl (fC S 1))), (h1, .inl (D.2 0, 16, .inl (fC S 2))), (h2, .inl (D.2 0, 16, .inl (fC S 3))), (hl0, .inl (D.2 0, 3, .inl (fLm S)))] H locs := w.sub [0, 1, 2, 3, 4, 5, 6, 7, 8, 9, 10, 11, 12] (by decide) rfl
  refine z_if_ne_b (tgt := 9) hx hb dX6_ofDimension_4 (by decide) (fun c4 => ?_) (fun c4 => ?_)
  · skip
    exact absurd c4 hno
  · skip
    refine lv_iconst (v := zI (-1)) hx hb dX6_ofDimension_7 rfl ?_
    exact z_iret hx hb hr hlocks w dX6_ofDimension_8 ⟨by unfold qDim; rw [if_neg hno], rfl⟩
set_option maxHeartbeats 6000000 in
set_option maxRecDepth 100000 in
theorem c_X6_bundle (l : Launch) (D : zD) (hxo ho hm hg hbu hs hp hw hz h0 h1 h2 hl0 hh hsa hsv hpd9 hse hmt : Nat) (S : Nat → Int) (G : Nat → Int32) (B : Int) (hB : B ≤ 1900000000) (hok : OkS B S) (p0 : Int) (hp0 : zB p0) : zM l yX6_bundle wsX6_bundle (zR (3)) zE0 D [.ref hxo, .int (zI (p0))] ((hxo, .inr (6, [.ref ho, .ref hh, .ref hsa, .ref hsv, .ref hpd9, .ref hse, .ref hmt])) :: (wSt D ho hm hg hbu hs hp hw hz h0 h1 h2 hl0 S G)) (zQi D (fun r W1 => r = zI (qBun S p0) ∧ W1 = ((hxo, .inr (6, [.ref ho, .ref hh, .ref hsa, .ref hsv, .ref hpd9, .ref hse, .ref hmt])) :: (wSt D ho hm hg hbu hs hp hw hz h0 h1 h2 hl0 S G)))) := by
  refine zM.of (cc := cX6_bundle) (maxL := 2) (ret := (some .int)) (by decide) rfl (Nat.le_of_ble_eq_true rfl) ?_
  intro p e s m below meth c A hx hb hml hown hts hr hlocks hE hnm w ls hl
  have hown : s.vm.findClass RX6 = some m.cls := hown
  have hl : lv_has ls 2 [(0, .ref hxo), (1, .int (zI (p0)))] := hl
  have f_10 : (Cond.fieldLink RX6 10 "RelaxedSteps" "now" "LRelaxedSteps$State;").before _ s = true := hts _ (by decide +kernel)
  have f_140 : (Cond.fieldLink RX6 140 "RelaxedSteps$State" "bundle" "LRelaxedSteps$Bundle;").before _ s = true := hts _ (by decide +kernel)
  have f_144 : (Cond.fieldLink RX6 144 "RelaxedSteps$Bundle" "count" "I").before _ s = true := hts _ (by decide +kernel)
  have f_153 : (Cond.fieldLink RX6 153 "RelaxedSteps$Bundle" "sets" "[I").before _ s = true := hts _ (by decide +kernel)
  have inX6 : ∀ w ∈ u_ws RX6 TX6 7, w ∈ wsX6_bundle := by decide +kernel
  have inX5 : ∀ w ∈ u_ws RX5 TX5 11, w ∈ wsX6_bundle := by decide +kernel
  have inX0 : ∀ w ∈ u_ws RX0 TX0 2, w ∈ wsX6_bundle := by decide +kernel
  obtain ⟨hokp, hokm, hokb, hsc, hbe⟩ := id hok
  have hn := zn_eq hokp
  have h16 := zn_le hokp
  have hlim := hokp.2.2
  have hm1 := hokm
  unfold OkM mu at hm1
  have hsw := fSw_b hok
  have hso := fSol_b hok
  have hhu := sHu_b hok
  have hbd := sBd_b hokp hokm
  have hkb := hokb.1
  have hqq := hokp.1
  have hrl := sRel_16 (M := mu S) hokp
  have hbw := sBw_b hokp
  have hfe := fSw_b hok
  have w : zW D A s.heap s [(hxo, .inr (6, [.ref ho, .ref hh, .ref hsa, .ref hsv, .ref hpd9, .ref hse, .ref hmt])), (ho, .inr (5, [.ref hp, .ref hbu, .ref hm, .ref hg, .int (zI (S 71)), .int (zI (S 72)), .int (zI (fSol S)), .int (zI (fSw S)), .int (zI (S 73)), .int (zI (S 74)), .long (zL (S 75))])), (hm, .inl (D.2 0, 3, .inl (fMu (mu S)))), (hg, .inl (D.2 0, 3, .inl (G))), (hbu, .inr (0, [.ref hs, .int (zI (S 77))])), (hs, .inl (D.2 0, 8, .inl (fSt S))), (hp, .inr (2, [.ref hw, .ref hz, .ref hl0, .int (zI (S 0))])), (hw, .inl (D.2 0, 16, .inl (fC S 0))), (hz, .inl (D.2 5, 3, .inr (.inr (.inr (.inr (f3 h0 h1 h2)))))), (h0, .inl (D.2 0, 16, .inl (fC S 1))), (h1, .inl (D.2 0, 16, .inl (fC S 2))), (h2, .inl (D.2 0, 16, .inl (fC S 3))), (hl0, .inl (D.2 0, 3, .inl (fLm S)))] s.heap [] := w
  refine lv_iload_n hx hb dX6_bundle_0 rfl (lv_at hl 1 rfl) ?_
  refine lv_iconst (v := zI 0) hx hb dX6_bundle_1 rfl ?_
  refine lv_aload_n hx hb dX6_bundle_2 rfl (lv_at hl 0 rfl) ?_
  refine z_get hx hb hown hts w inX6 0 0 rfl rfl (by decide) f_10 rfl rfl dX6_bundle_3 ?_
  refine z_get hx hb hown hts w inX5 1 1 rfl rfl (by decide) f_140 rfl rfl dX6_bundle_6 ?_
  refine z_get hx hb hown hts w inX0 4 1 rfl rfl (by decide) f_144 rfl rfl dX6_bundle_9 ?_
  refine lv_iconst (v := zI 1) hx hb dX6_bundle_12 rfl ?_
  refine z_isub hx hb dX6_bundle_13 ?_
  refine z_S_i (As := [.int (zI (p0)), .int (zI (0)), .int (zI ((S 77) - 1))]) (rest := []) (Wr := [(hxo, .inr (6, [.ref ho, .ref hh, .ref hsa, .ref hsv, .ref hpd9, .ref hse, .ref hmt])), (ho, .inr (5, [.ref hp, .ref hbu, .ref hm, .ref hg, .int (zI (S 71)), .int (zI (S 72)), .int (zI (fSol S)), .int (zI (fSw S)), .int (zI (S 73)), .int (zI (S 74)), .long (zL (S 75))])), (hm, .inl (D.2 0, 3, .inl (fMu (mu S)))), (hg, .inl (D.2 0, 3, .inl (G))), (hbu, .inr (0, [.ref hs, .int (zI (S 77))])), (hs, .inl (D.2 0, 8, .inl (fSt S))), (hp, .inr (2, [.ref hw, .ref hz, .ref hl0, .int (zI (S 0))])), (hw, .inl (D.2 0, 16, .inl (fC S 0))), (hz, .inl (D.2 5, 3, .inr (.inr (.inr (.inr (f3 h0 h1 h2)))))), (h0, .inl (D.2 0, 16, .inl (fC S 1))), (h1, .inl (D.2 0, 16, .inl (fC S 2))), (h2, .inl (D.2 0, 16, .inl (fC S 3))), (hl0, .inl (D.2 0, 3, .inl (fLm S)))]) ⟨hx, hb, hml, hown, hts⟩ (c_X6_within l D p0 0 ((S 77) - 1) (by omega) (by omega) (by omega)) (va_cwS 3 hts gX6_bundle_X6_within rfl rfl rfl (by decide +kernel) ⟨Nat.le_of_ble_eq_true rfl, Nat.le_of_ble_eq_true rfl⟩) w [] rfl (by decide) [0, 1, 2, 3, 4, 5, 6, 7, 8, 9, 10, 11, 12] rfl (by decide) (by decide) rfl hl.1 rfl (lv_room (Nat.le_of_ble_eq_true rfl)) dX6_bundle_14 ⟨Nat.zero_le _, Nat.zero_le _⟩ (fun r W1 H locs hp w => ?_)
  obtain ⟨rfl, rfl⟩ := hp
  have w : zW D A s.heap s [(hxo, .inr (6, [.ref ho, .ref hh, .ref hsa, .ref hsv, .ref hpd9, .ref hse, .ref hmt])), (ho, .inr (5, [.ref hp, .ref hbu, .ref hm, .ref hg, .int (zI (S 71)), .int (zI (S 72)), .int (zI (fSol S)), .int (zI (fSw S)), .int (zI (S 73)), .int (zI (S 74)), .long (zL (S 75))])), (hm, .inl (D.2 0, 3, .inl (fMu (mu S)))), (hg, .inl (D.2 0, 3, .inl (G))), (hbu, .inr (0, [.ref hs, .int (zI (S 77))])), (hs, .inl (D.2 0, 8, .inl (fSt S))), (hp, .inr (2, [.ref hw, .ref hz, .ref hl0, .int (zI (S 0))])), (hw, .inl (D.2 0, 16, .inl (fC S 0))), (hz, .inl (D.2 5, 3, .inr (.inr (.inr (.inr (f3 h0 h1 h2)))))), (h0, .inl (D.2 0, 16, .inl (fC S 1))), (h1, .inl (D.2 0, 16, .inl (fC S 2))), (h2, .inl (D.2 0, 16, .inl (fC S 3))), (hl0, .inl (D.2 0, 3, .inl (fLm S)))] H locs := w.sub [0, 1, 2, 3, 4, 5, 6, 7, 8, 9, 10, 11, 12] (by decide) rfl
  refine z_if_eq_b (tgt := 35) hx hb dX6_bundle_17 (by decide) (fun c17 => ?_) (fun c17 => ?_)
  · skip
    refine lv_iconst (v := zI (-1)) hx hb dX6_bundle_35 rfl ?_
    exact z_iret hx hb hr hlocks w dX6_bundle_36 ⟨by unfold qBun; first | rw [if_pos c17] | rw [if_neg c17], rfl⟩
  · skip
    refine lv_aload_n hx hb dX6_bundle_20 rfl (lv_at hl 0 rfl) ?_
    refine z_get hx hb hown hts w inX6 0 0 rfl rfl (by decide) f_10 rfl rfl dX6_bundle_21 ?_
    refine z_get hx hb hown hts w inX5 1 1 rfl rfl (by decide) f_140 rfl rfl dX6_bundle_24 ?_
    refine z_get hx hb hown hts w inX0 4 0 rfl rfl (by decide) f_153 rfl rfl dX6_bundle_27 ?_
    refine lv_iload_n hx hb dX6_bundle_30 rfl (lv_at hl 1 rfl) ?_
    refine z_iald hx hb w 5 rfl ((p0).toNat) (by omega) (by decide) (Int.toNat_of_nonneg (by omega)).symm (v := (zI (S (78 + ((p0).toNat))))) (if_pos (by omega)) dX6_bundle_31 ?_
    refine lv_goto (tgt := 36) hx hb dX6_bundle_32 (by decide) ?_
    exact z_iret hx hb hr hlocks w dX6_bundle_36 ⟨by unfold qBun; first | rw [if_pos c17] | rw [if_neg c17], rfl⟩
set_option maxHeartbeats 6000000 in
set_option maxRecDepth 100000 in
theorem c_X6_count (l : Launch) (D : zD) (htx hnu hst hxo ho hm hg hbu hs hp hw hz h0 h1 h2 hl0 hh hsa hsv hpd9 hse hmt : Nat) (S : Nat → Int) (G : Nat → Int32) (nxi kp pl pat pki prd : Int) (B : Int) (hB : B ≤ 1900000000) (hok : OkS B S) (w9 : Int) (hw9 : zB w9) : zM l yX6_count wsX6_count (zR (5)) zE0 D [.ref hxo, .int (zI (w9))] ((hxo, .inr (6, [.ref ho, .ref hh, .ref hsa, .ref hsv, .ref hpd9, .ref hse, .ref hmt])) :: (hh, .inr (1, [.ref hst, .int (zI nxi), .int (zI kp)])) :: (hpd9, .inr (3, [.ref htx, .int (zI (pl)), .int (zI (pat)), .int (zI (pki)), .ref hnu, .int (zI (prd))])) :: (wSt D ho hm hg hbu hs hp hw hz h0 h1 h2 hl0 S G)) (zQi D (fun r W1 => r = zI (qCnt S pl kp w9) ∧ W1 = ((hxo, .inr (6, [.ref ho, .ref hh, .ref hsa, .ref hsv, .ref hpd9, .ref hse, .ref hmt])) :: (hh, .inr (1, [.ref hst, .int (zI nxi), .int (zI kp)])) :: (hpd9, .inr (3, [.ref htx, .int (zI (pl)), .int (zI (pat)), .int (zI (pki)), .ref hnu, .int (zI (prd))])) :: (wSt D ho hm hg hbu hs hp hw hz h0 h1 h2 hl0 S G)))) := by
  refine zM.of (cc := cX6_count) (maxL := 2) (ret := (some .int)) (by decide) rfl (Nat.le_of_ble_eq_true rfl) ?_
  intro p e s m below meth c A hx hb hml hown hts hr hlocks hE hnm w ls hl
  have hown : s.vm.findClass RX6 = some m.cls := hown
  have hl : lv_has ls 2 [(0, .ref hxo), (1, .int (zI (w9)))] := hl
  have f_10 : (Cond.fieldLink RX6 10 "RelaxedSteps" "now" "LRelaxedSteps$State;").before _ s = true := hts _ (by decide +kernel)
  have f_81 : (Cond.fieldLink RX6 81 "RelaxedSteps$State" "packing" "LRelaxedSteps$Packing;").before _ s = true := hts _ (by decide +kernel)
  have f_156 : (Cond.fieldLink RX6 156 "RelaxedSteps$Packing" "items" "I").before _ s = true := hts _ (by decide +kernel)
  have f_159 : (Cond.fieldLink RX6 159 "RelaxedSteps$State" "rule" "I").before _ s = true := hts _ (by decide +kernel)
  have f_162 : (Cond.fieldLink RX6 162 "RelaxedSteps$State" "step" "I").before _ s = true := hts _ (by decide +kernel)
  have f_121 : (Cond.fieldLink RX6 121 "RelaxedSteps$State" "solution" "I").before _ s = true := hts _ (by decide +kernel)
  have f_165 : (Cond.fieldLink RX6 165 "RelaxedSteps$State" "solutionWorth" "I").before _ s = true := hts _ (by decide +kernel)
  have f_140 : (Cond.fieldLink RX6 140 "RelaxedSteps$State" "bundle" "LRelaxedSteps$Bundle;").before _ s = true := hts _ (by decide +kernel)
  have f_144 : (Cond.fieldLink RX6 144 "RelaxedSteps$Bundle" "count" "I").before _ s = true := hts _ (by decide +kernel)
  have f_168 : (Cond.fieldLink RX6 168 "RelaxedSteps$State" "stepsSince" "I").before _ s = true := hts _ (by decide +kernel)
  have f_171 : (Cond.fieldLink RX6 171 "RelaxedSteps$State" "stepsInAll" "I").before _ s = true := hts _ (by decide +kernel)
  have f_34 : (Cond.fieldLink RX6 34 "RelaxedSteps" "pad" "LRelaxedSteps$Pad;").before _ s = true := hts _ (by decide +kernel)
  have f_174 : (Cond.fieldLink RX6 174 "RelaxedSteps$Pad" "length" "I").before _ s = true := hts _ (by decide +kernel)
  have f_19 : (Cond.fieldLink RX6 19 "RelaxedSteps" "history" "LRelaxedSteps$History;").before _ s = true := hts _ (by decide +kernel)
  have f_177 : (Cond.fieldLink RX6 177 "RelaxedSteps$History" "count" "I").before _ s = true := hts _ (by decide +kernel)
  have inX6 : ∀ w ∈ u_ws RX6 TX6 7, w ∈ wsX6_count := by decide +kernel
  have inX5 : ∀ w ∈ u_ws RX5 TX5 11, w ∈ wsX6_count := by decide +kernel
  have inX2 : ∀ w ∈ u_ws RX2 TX2 4, w ∈ wsX6_count := by decide +kernel
  have inX0 : ∀ w ∈ u_ws RX0 TX0 2, w ∈ wsX6_count := by decide +kernel
  have inX3 : ∀ w ∈ u_ws RX3 TX3 6, w ∈ wsX6_count := by decide +kernel
  have inX1 : ∀ w ∈ u_ws RX1 TX1 3, w ∈ wsX6_count := by decide +kernel
  obtain ⟨hokp, hokm, hokb, hsc, hbe⟩ := id hok
  have hn := zn_eq hokp
  have h16 := zn_le hokp
  have hlim := hokp.2.2
  have hm1 := hokm
  unfold OkM mu at hm1
  have hsw := fSw_b hok
  have hso := fSol_b hok
  have hhu := sHu_b hok
  have hbd := sBd_b hokp hokm
  have hkb := hokb.1
  have hqq := hokp.1
  have hrl := sRel_16 (M := mu S) hokp
  have hbw := sBw_b hokp
  have hfe := fSw_b hok
  have w : zW D A s.heap s [(hxo, .inr (6, [.ref ho, .ref hh, .ref hsa, .ref hsv, .ref hpd9, .ref hse, .ref hmt])), (hh, .inr (1, [.ref hst, .int (zI (nxi)), .int (zI (kp))])), (hpd9, .inr (3, [.ref htx, .int (zI (pl)), .int (zI (pat)), .int (zI (pki)), .ref hnu, .int (zI (prd))])), (ho, .inr (5, [.ref hp, .ref hbu, .ref hm, .ref hg, .int (zI (S 71)), .int (zI (S 72)), .int (zI (fSol S)), .int (zI (fSw S)), .int (zI (S 73)), .int (zI (S 74)), .long (zL (S 75))])), (hm, .inl (D.2 0, 3, .inl (fMu (mu S)))), (hg, .inl (D.2 0, 3, .inl (G))), (hbu, .inr (0, [.ref hs, .int (zI (S 77))])), (hs, .inl (D.2 0, 8, .inl (fSt S))), (hp, .inr (2, [.ref hw, .ref hz, .ref hl0, .int (zI (S 0))])), (hw, .inl (D.2 0, 16, .inl (fC S 0))), (hz, .inl (D.2 5, 3, .inr (.inr (.inr (.inr (f3 h0 h1 h2)))))), (h0, .inl (D.2 0, 16, .inl (fC S 1))), (h1, .inl (D.2 0, 16, .inl (fC S 2))), (h2, .inl (D.2 0, 16, .inl (fC S 3))), (hl0, .inl (D.2 0, 3, .inl (fLm S)))] s.heap [] := w
  refine lv_iload_n hx hb dX6_count_0 rfl (lv_at hl 1 rfl) ?_
  rcases (show w9 = 0 ∨ w9 = 1 ∨ w9 = 2 ∨ w9 = 3 ∨ w9 = 4 ∨ w9 = 5 ∨ w9 = 6 ∨ w9 = 7 ∨ w9 = 8 ∨ w9 = 9 ∨ w9 = 10 ∨ (w9 < 0 ∨ 10 < w9) by omega) with csw1 | csw1 | csw1 | csw1 | csw1 | csw1 | csw1 | csw1 | csw1 | csw1 | csw1 | csw1
  · skip
    subst csw1
    refine z_tswit (tgt := 60) hx hb (by omega) dX6_count_1 (by omega) (by omega) (off := 59) (by decide) (by decide) ?_
    refine lv_aload_n hx hb dX6_count_60 rfl (lv_at hl 0 rfl) ?_
    refine z_get hx hb hown hts w inX6 0 0 rfl rfl (by decide) f_10 rfl rfl dX6_count_61 ?_
    refine z_get hx hb hown hts w inX5 3 0 rfl rfl (by decide) f_81 rfl rfl dX6_count_64 ?_
    refine z_get hx hb hown hts w inX2 8 3 rfl rfl (by decide) f_156 rfl rfl dX6_count_67 ?_
    exact z_iret hx hb hr hlocks w dX6_count_70 ⟨rfl, rfl⟩
  · skip
    subst csw1
    refine z_tswit (tgt := 71) hx hb (by omega) dX6_count_1 (by omega) (by omega) (off := 70) (by decide) (by decide) ?_
    refine lv_aload_n hx hb dX6_count_71 rfl (lv_at hl 0 rfl) ?_
    refine z_get hx hb hown hts w inX6 0 0 rfl rfl (by decide) f_10 rfl rfl dX6_count_72 ?_
    refine z_get hx hb hown hts w inX5 3 4 rfl rfl (by decide) f_159 rfl rfl dX6_count_75 ?_
    exact z_iret hx hb hr hlocks w dX6_count_78 ⟨rfl, rfl⟩
  · skip
    subst csw1
    refine z_tswit (tgt := 79) hx hb (by omega) dX6_count_1 (by omega) (by omega) (off := 78) (by decide) (by decide) ?_
    refine lv_aload_n hx hb dX6_count_79 rfl (lv_at hl 0 rfl) ?_
    refine z_get hx hb hown hts w inX6 0 0 rfl rfl (by decide) f_10 rfl rfl dX6_count_80 ?_
    refine z_get hx hb hown hts w inX5 3 5 rfl rfl (by decide) f_162 rfl rfl dX6_count_83 ?_
    exact z_iret hx hb hr hlocks w dX6_count_86 ⟨rfl, rfl⟩
  · skip
    subst csw1
    refine z_tswit (tgt := 87) hx hb (by omega) dX6_count_1 (by omega) (by omega) (off := 86) (by decide) (by decide) ?_
    refine lv_aload_n hx hb dX6_count_87 rfl (lv_at hl 0 rfl) ?_
    refine z_get hx hb hown hts w inX6 0 0 rfl rfl (by decide) f_10 rfl rfl dX6_count_88 ?_
    refine z_V_i (As := []) (rest := []) (Wr := [(hxo, .inr (6, [.ref ho, .ref hh, .ref hsa, .ref hsv, .ref hpd9, .ref hse, .ref hmt])), (hh, .inr (1, [.ref hst, .int (zI (nxi)), .int (zI (kp))])), (hpd9, .inr (3, [.ref htx, .int (zI (pl)), .int (zI (pat)), .int (zI (pki)), .ref hnu, .int (zI (prd))])), (hg, .inl (D.2 0, 3, .inl (G))), (hbu, .inr (0, [.ref hs, .int (zI (S 77))])), (hs, .inl (D.2 0, 8, .inl (fSt S)))]) ⟨hx, hb, hml, hown, hts⟩ (c_X5_relaxedSet l D ho hm hp hw hz h0 h1 h2 hl0 hbu hg S (mu S) (S 71) (S 72) (fSol S) (fSw S) (S 73) (S 74) (S 75) hokp hokm) (cwV 0 hts gX6_count_X5_relaxedSet rfl rfl rfl (by decide +kernel) ⟨Nat.le_of_ble_eq_true rfl, Nat.le_of_ble_eq_true rfl⟩) w (q0 := 3) rfl rfl rfl [3, 4, 8, 9, 10, 11, 12, 13, 14] rfl (by decide) [0, 1, 2, 5, 6, 7] rfl (by decide) (by decide) rfl hl.1 rfl (lv_room (Nat.le_of_ble_eq_true rfl)) dX6_count_91 ⟨Nat.zero_le _, Nat.zero_le _⟩ (fun r W1 H locs hp w => ?_)
    obtain ⟨rfl, rfl⟩ := hp
    have w : zW D A s.heap s [(hxo, .inr (6, [.ref ho, .ref hh, .ref hsa, .ref hsv, .ref hpd9, .ref hse, .ref hmt])), (hh, .inr (1, [.ref hst, .int (zI (nxi)), .int (zI (kp))])), (hpd9, .inr (3, [.ref htx, .int (zI (pl)), .int (zI (pat)), .int (zI (pki)), .ref hnu, .int (zI (prd))])), (ho, .inr (5, [.ref hp, .ref hbu, .ref hm, .ref hg, .int (zI (S 71)), .int (zI (S 72)), .int (zI (fSol S)), .int (zI (fSw S)), .int (zI (S 73)), .int (zI (S 74)), .long (zL (S 75))])), (hm, .inl (D.2 0, 3, .inl (fMu (mu S)))), (hg, .inl (D.2 0, 3, .inl (G))), (hbu, .inr (0, [.ref hs, .int (zI (S 77))])), (hs, .inl (D.2 0, 8, .inl (fSt S))), (hp, .inr (2, [.ref hw, .ref hz, .ref hl0, .int (zI (S 0))])), (hw, .inl (D.2 0, 16, .inl (fC S 0))), (hz, .inl (D.2 5, 3, .inr (.inr (.inr (.inr (f3 h0 h1 h2)))))), (h0, .inl (D.2 0, 16, .inl (fC S 1))), (h1, .inl (D.2 0, 16, .inl (fC S 2))), (h2, .inl (D.2 0, 16, .inl (fC S 3))), (hl0, .inl (D.2 0, 3, .inl (fLm S)))] H locs := w.sub [0, 1, 2, 6, 7, 3, 4, 5, 8, 9, 10, 11, 12, 13, 14] (by decide) rfl
    exact z_iret hx hb hr hlocks w dX6_count_94 ⟨rfl, rfl⟩
  · skip
    subst csw1
    refine z_tswit (tgt := 95) hx hb (by omega) dX6_count_1 (by omega) (by omega) (off := 94) (by decide) (by decide) ?_
    refine lv_aload_n hx hb dX6_count_95 rfl (lv_at hl 0 rfl) ?_
    refine z_get hx hb hown hts w inX6 0 0 rfl rfl (by decide) f_10 rfl rfl dX6_count_96 ?_
    refine z_V_i (As := []) (rest := []) (Wr := [(hxo, .inr (6, [.ref ho, .ref hh, .ref hsa, .ref hsv, .ref hpd9, .ref hse, .ref hmt])), (hh, .inr (1, [.ref hst, .int (zI (nxi)), .int (zI (kp))])), (hpd9, .inr (3, [.ref htx, .int (zI (pl)), .int (zI (pat)), .int (zI (pki)), .ref hnu, .int (zI (prd))])), (hm, .inl (D.2 0, 3, .inl (fMu (mu S)))), (hg, .inl (D.2 0, 3, .inl (G))), (hbu, .inr (0, [.ref hs, .int (zI (S 77))])), (hs, .inl (D.2 0, 8, .inl (fSt S))), (hp, .inr (2, [.ref hw, .ref hz, .ref hl0, .int (zI (S 0))])), (hw, .inl (D.2 0, 16, .inl (fC S 0))), (hz, .inl (D.2 5, 3, .inr (.inr (.inr (.inr (f3 h0 h1 h2)))))), (h0, .inl (D.2 0, 16, .inl (fC S 1))), (h1, .inl (D.2 0, 16, .inl (fC S 2))), (h2, .inl (D.2 0, 16, .inl (fC S 3))), (hl0, .inl (D.2 0, 3, .inl (fLm S)))]) ⟨hx, hb, hml, hown, hts⟩ (c_X5_hasSolution l D ho hp hbu hm hg (S 71) (S 72) (fSol S) (fSw S) (S 73) (S 74) (S 75) (by omega)) (cwV 0 hts gX6_count_X5_hasSolution rfl rfl rfl (by decide +kernel) ⟨Nat.le_of_ble_eq_true rfl, Nat.le_of_ble_eq_true rfl⟩) w (q0 := 3) rfl rfl rfl [3] rfl (by decide) [0, 1, 2, 4, 5, 6, 7, 8, 9, 10, 11, 12, 13, 14] rfl (by decide) (by decide) rfl hl.1 rfl (lv_room (Nat.le_of_ble_eq_true rfl)) dX6_count_99 ⟨Nat.zero_le _, Nat.zero_le _⟩ (fun r W1 H locs hp w => ?_)
    obtain ⟨rfl, rfl⟩ := hp
    have w : zW D A s.heap s [(hxo, .inr (6, [.ref ho, .ref hh, .ref hsa, .ref hsv, .ref hpd9, .ref hse, .ref hmt])), (hh, .inr (1, [.ref hst, .int (zI (nxi)), .int (zI (kp))])), (hpd9, .inr (3, [.ref htx, .int (zI (pl)), .int (zI (pat)), .int (zI (pki)), .ref hnu, .int (zI (prd))])), (ho, .inr (5, [.ref hp, .ref hbu, .ref hm, .ref hg, .int (zI (S 71)), .int (zI (S 72)), .int (zI (fSol S)), .int (zI (fSw S)), .int (zI (S 73)), .int (zI (S 74)), .long (zL (S 75))])), (hm, .inl (D.2 0, 3, .inl (fMu (mu S)))), (hg, .inl (D.2 0, 3, .inl (G))), (hbu, .inr (0, [.ref hs, .int (zI (S 77))])), (hs, .inl (D.2 0, 8, .inl (fSt S))), (hp, .inr (2, [.ref hw, .ref hz, .ref hl0, .int (zI (S 0))])), (hw, .inl (D.2 0, 16, .inl (fC S 0))), (hz, .inl (D.2 5, 3, .inr (.inr (.inr (.inr (f3 h0 h1 h2)))))), (h0, .inl (D.2 0, 16, .inl (fC S 1))), (h1, .inl (D.2 0, 16, .inl (fC S 2))), (h2, .inl (D.2 0, 16, .inl (fC S 3))), (hl0, .inl (D.2 0, 3, .inl (fLm S)))] H locs := w.sub [0, 1, 2, 14, 3, 4, 5, 6, 7, 8, 9, 10, 11, 12, 13] (by decide) rfl
    refine z_if_eq_b (tgt := 115) hx hb dX6_count_102 (by decide) (fun c102 => ?_) (fun c102 => ?_)
    · skip
      refine lv_bipush (v := zI (-6)) hx hb dX6_count_115 (by decide +kernel) ?_
      exact z_iret hx hb hr hlocks w dX6_count_117 (by refine ⟨?_, rfl⟩; show _ = zI (S 76); first | rw [fSol_is (S := S) (by omega)] | (congr 1; omega))
    · skip
      refine lv_aload_n hx hb dX6_count_105 rfl (lv_at hl 0 rfl) ?_
      refine z_get hx hb hown hts w inX6 0 0 rfl rfl (by decide) f_10 rfl rfl dX6_count_106 ?_
      refine z_get hx hb hown hts w inX5 3 6 rfl rfl (by decide) f_121 rfl rfl dX6_count_109 ?_
      refine lv_goto (tgt := 117) hx hb dX6_count_112 (by decide) ?_
      exact z_iret hx hb hr hlocks w dX6_count_117 (by refine ⟨?_, rfl⟩; show _ = zI (S 76); first | rw [fSol_is (S := S) (by omega)] | (congr 1; omega))
  · skip
    subst csw1
    refine z_tswit (tgt := 118) hx hb (by omega) dX6_count_1 (by omega) (by omega) (off := 117) (by decide) (by decide) ?_
    refine lv_aload_n hx hb dX6_count_118 rfl (lv_at hl 0 rfl) ?_
    refine z_get hx hb hown hts w inX6 0 0 rfl rfl (by decide) f_10 rfl rfl dX6_count_119 ?_
    refine z_V_i (As := []) (rest := []) (Wr := [(hxo, .inr (6, [.ref ho, .ref hh, .ref hsa, .ref hsv, .ref hpd9, .ref hse, .ref hmt])), (hh, .inr (1, [.ref hst, .int (zI (nxi)), .int (zI (kp))])), (hpd9, .inr (3, [.ref htx, .int (zI (pl)), .int (zI (pat)), .int (zI (pki)), .ref hnu, .int (zI (prd))])), (hm, .inl (D.2 0, 3, .inl (fMu (mu S)))), (hg, .inl (D.2 0, 3, .inl (G))), (hbu, .inr (0, [.ref hs, .int (zI (S 77))])), (hs, .inl (D.2 0, 8, .inl (fSt S))), (hp, .inr (2, [.ref hw, .ref hz, .ref hl0, .int (zI (S 0))])), (hw, .inl (D.2 0, 16, .inl (fC S 0))), (hz, .inl (D.2 5, 3, .inr (.inr (.inr (.inr (f3 h0 h1 h2)))))), (h0, .inl (D.2 0, 16, .inl (fC S 1))), (h1, .inl (D.2 0, 16, .inl (fC S 2))), (h2, .inl (D.2 0, 16, .inl (fC S 3))), (hl0, .inl (D.2 0, 3, .inl (fLm S)))]) ⟨hx, hb, hml, hown, hts⟩ (c_X5_hasSolution l D ho hp hbu hm hg (S 71) (S 72) (fSol S) (fSw S) (S 73) (S 74) (S 75) (by omega)) (cwV 0 hts gX6_count_X5_hasSolution rfl rfl rfl (by decide +kernel) ⟨Nat.le_of_ble_eq_true rfl, Nat.le_of_ble_eq_true rfl⟩) w (q0 := 3) rfl rfl rfl [3] rfl (by decide) [0, 1, 2, 4, 5, 6, 7, 8, 9, 10, 11, 12, 13, 14] rfl (by decide) (by decide) rfl hl.1 rfl (lv_room (Nat.le_of_ble_eq_true rfl)) dX6_count_122 ⟨Nat.zero_le _, Nat.zero_le _⟩ (fun r W1 H locs hp w => ?_)
    obtain ⟨rfl, rfl⟩ := hp
    have w : zW D A s.heap s [(hxo, .inr (6, [.ref ho, .ref hh, .ref hsa, .ref hsv, .ref hpd9, .ref hse, .ref hmt])), (hh, .inr (1, [.ref hst, .int (zI (nxi)), .int (zI (kp))])), (hpd9, .inr (3, [.ref htx, .int (zI (pl)), .int (zI (pat)), .int (zI (pki)), .ref hnu, .int (zI (prd))])), (ho, .inr (5, [.ref hp, .ref hbu, .ref hm, .ref hg, .int (zI (S 71)), .int (zI (S 72)), .int (zI (fSol S)), .int (zI (fSw S)), .int (zI (S 73)), .int (zI (S 74)), .long (zL (S 75))])), (hm, .inl (D.2 0, 3, .inl (fMu (mu S)))), (hg, .inl (D.2 0, 3, .inl (G))), (hbu, .inr (0, [.ref hs, .int (zI (S 77))])), (hs, .inl (D.2 0, 8, .inl (fSt S))), (hp, .inr (2, [.ref hw, .ref hz, .ref hl0, .int (zI (S 0))])), (hw, .inl (D.2 0, 16, .inl (fC S 0))), (hz, .inl (D.2 5, 3, .inr (.inr (.inr (.inr (f3 h0 h1 h2)))))), (h0, .inl (D.2 0, 16, .inl (fC S 1))), (h1, .inl (D.2 0, 16, .inl (fC S 2))), (h2, .inl (D.2 0, 16, .inl (fC S 3))), (hl0, .inl (D.2 0, 3, .inl (fLm S)))] H locs := w.sub [0, 1, 2, 14, 3, 4, 5, 6, 7, 8, 9, 10, 11, 12, 13] (by decide) rfl
    refine z_if_eq_b (tgt := 138) hx hb dX6_count_125 (by decide) (fun c125 => ?_) (fun c125 => ?_)
    · skip
      refine lv_bipush (v := zI (-6)) hx hb dX6_count_138 (by decide +kernel) ?_
      exact z_iret hx hb hr hlocks w dX6_count_140 (by refine ⟨?_, rfl⟩; show _ = zI (if S 76 = -6 then -6 else sBw S); first | rw [if_pos (by omega)] | rw [if_neg (by omega), fSw_is (S := S) (by omega)])
    · skip
      refine lv_aload_n hx hb dX6_count_128 rfl (lv_at hl 0 rfl) ?_
      refine z_get hx hb hown hts w inX6 0 0 rfl rfl (by decide) f_10 rfl rfl dX6_count_129 ?_
      refine z_get hx hb hown hts w inX5 3 7 rfl rfl (by decide) f_165 rfl rfl dX6_count_132 ?_
      refine lv_goto (tgt := 140) hx hb dX6_count_135 (by decide) ?_
      exact z_iret hx hb hr hlocks w dX6_count_140 (by refine ⟨?_, rfl⟩; show _ = zI (if S 76 = -6 then -6 else sBw S); first | rw [if_pos (by omega)] | rw [if_neg (by omega), fSw_is (S := S) (by omega)])
  · skip
    subst csw1
    refine z_tswit (tgt := 141) hx hb (by omega) dX6_count_1 (by omega) (by omega) (off := 140) (by decide) (by decide) ?_
    refine lv_aload_n hx hb dX6_count_141 rfl (lv_at hl 0 rfl) ?_
    refine z_get hx hb hown hts w inX6 0 0 rfl rfl (by decide) f_10 rfl rfl dX6_count_142 ?_
    refine z_get hx hb hown hts w inX5 3 1 rfl rfl (by decide) f_140 rfl rfl dX6_count_145 ?_
    refine z_get hx hb hown hts w inX0 6 1 rfl rfl (by decide) f_144 rfl rfl dX6_count_148 ?_
    exact z_iret hx hb hr hlocks w dX6_count_151 ⟨rfl, rfl⟩
  · skip
    subst csw1
    refine z_tswit (tgt := 152) hx hb (by omega) dX6_count_1 (by omega) (by omega) (off := 151) (by decide) (by decide) ?_
    refine lv_aload_n hx hb dX6_count_152 rfl (lv_at hl 0 rfl) ?_
    refine z_get hx hb hown hts w inX6 0 0 rfl rfl (by decide) f_10 rfl rfl dX6_count_153 ?_
    refine z_get hx hb hown hts w inX5 3 8 rfl rfl (by decide) f_168 rfl rfl dX6_count_156 ?_
    exact z_iret hx hb hr hlocks w dX6_count_159 ⟨rfl, rfl⟩
  · skip
    subst csw1
    refine z_tswit (tgt := 160) hx hb (by omega) dX6_count_1 (by omega) (by omega) (off := 159) (by decide) (by decide) ?_
    refine lv_aload_n hx hb dX6_count_160 rfl (lv_at hl 0 rfl) ?_
    refine z_get hx hb hown hts w inX6 0 0 rfl rfl (by decide) f_10 rfl rfl dX6_count_161 ?_
    refine z_get hx hb hown hts w inX5 3 9 rfl rfl (by decide) f_171 rfl rfl dX6_count_164 ?_
    exact z_iret hx hb hr hlocks w dX6_count_167 ⟨rfl, rfl⟩
  · skip
    subst csw1
    refine z_tswit (tgt := 168) hx hb (by omega) dX6_count_1 (by omega) (by omega) (off := 167) (by decide) (by decide) ?_
    refine lv_aload_n hx hb dX6_count_168 rfl (lv_at hl 0 rfl) ?_
    refine z_get hx hb hown hts w inX6 0 4 rfl rfl (by decide) f_34 rfl rfl dX6_count_169 ?_
    refine z_get hx hb hown hts w inX3 2 1 rfl rfl (by decide) f_174 rfl rfl dX6_count_172 ?_
    exact z_iret hx hb hr hlocks w dX6_count_175 ⟨rfl, rfl⟩
  · skip
    subst csw1
    refine z_tswit (tgt := 176) hx hb (by omega) dX6_count_1 (by omega) (by omega) (off := 175) (by decide) (by decide) ?_
    refine lv_aload_n hx hb dX6_count_176 rfl (lv_at hl 0 rfl) ?_
    refine z_get hx hb hown hts w inX6 0 1 rfl rfl (by decide) f_19 rfl rfl dX6_count_177 ?_
    refine z_get hx hb hown hts w inX1 1 2 rfl rfl (by decide) f_177 rfl rfl dX6_count_180 ?_
    exact z_iret hx hb hr hlocks w dX6_count_183 ⟨rfl, rfl⟩
  · skip
    refine z_tswitD (tgt := 184) hx hb (by omega) dX6_count_1 (by omega) (by decide) ?_
    refine lv_bipush (v := zI (-2)) hx hb dX6_count_184 (by decide +kernel) ?_
    exact z_iret hx hb hr hlocks w dX6_count_186 ⟨by unfold qCnt; rw [if_neg (by omega), if_neg (by omega), if_neg (by omega), if_neg (by omega), if_neg (by omega), if_neg (by omega), if_neg (by omega), if_neg (by omega), if_neg (by omega), if_neg (by omega), if_neg (by omega)], rfl⟩
set_option maxHeartbeats 6000000 in
set_option maxRecDepth 100000 in
theorem c_X6_bound (l : Launch) (D : zD) (hxo ho hm hg hbu hs hp hw hz h0 h1 h2 hl0 hh hsa hsv hpd9 hse hmt : Nat) (S : Nat → Int) (G : Nat → Int32) (B : Int) (hB : B ≤ 1900000000) (hok : OkS B S) (w9 : Int) (hw9 : zB w9) : zM l yX6_bound wsX6_bound (zR (3)) zE0 D [.ref hxo, .int (zI (w9))] ((hxo, .inr (6, [.ref ho, .ref hh, .ref hsa, .ref hsv, .ref hpd9, .ref hse, .ref hmt])) :: (wSt D ho hm hg hbu hs hp hw hz h0 h1 h2 hl0 S G)) (zQl D (fun r W1 => r = zL (qBnd S w9) ∧ W1 = ((hxo, .inr (6, [.ref ho, .ref hh, .ref hsa, .ref hsv, .ref hpd9, .ref hse, .ref hmt])) :: (wSt D ho hm hg hbu hs hp hw hz h0 h1 h2 hl0 S G)))) := by
  refine zM.of (cc := cX6_bound) (maxL := 2) (ret := (some .long)) (by decide) rfl (Nat.le_of_ble_eq_true rfl) ?_
  intro p e s m below meth c A hx hb hml hown hts hr hlocks hE hnm w ls hl
  have hown : s.vm.findClass RX6 = some m.cls := hown
  have hl : lv_has ls 2 [(0, .ref hxo), (1, .int (zI (w9)))] := hl
  have f_10 : (Cond.fieldLink RX6 10 "RelaxedSteps" "now" "LRelaxedSteps$State;").before _ s = true := hts _ (by decide +kernel)
  have f_81 : (Cond.fieldLink RX6 81 "RelaxedSteps$State" "packing" "LRelaxedSteps$Packing;").before _ s = true := hts _ (by decide +kernel)
  have f_98 : (Cond.fieldLink RX6 98 "RelaxedSteps$State" "multipliers" "[I").before _ s = true := hts _ (by decide +kernel)
  have f_182 : (Cond.fieldLink RX6 182 "RelaxedSteps$State" "bestBound" "J").before _ s = true := hts _ (by decide +kernel)
  have inX6 : ∀ w ∈ u_ws RX6 TX6 7, w ∈ wsX6_bound := by decide +kernel
  have inX5 : ∀ w ∈ u_ws RX5 TX5 11, w ∈ wsX6_bound := by decide +kernel
  obtain ⟨hokp, hokm, hokb, hsc, hbe⟩ := id hok
  have hn := zn_eq hokp
  have h16 := zn_le hokp
  have hlim := hokp.2.2
  have hm1 := hokm
  unfold OkM mu at hm1
  have hsw := fSw_b hok
  have hso := fSol_b hok
  have hhu := sHu_b hok
  have hbd := sBd_b hokp hokm
  have hkb := hokb.1
  have hqq := hokp.1
  have hrl := sRel_16 (M := mu S) hokp
  have hbw := sBw_b hokp
  have hfe := fSw_b hok
  have hhe := sBw_hu hokp
  have w : zW D A s.heap s [(hxo, .inr (6, [.ref ho, .ref hh, .ref hsa, .ref hsv, .ref hpd9, .ref hse, .ref hmt])), (ho, .inr (5, [.ref hp, .ref hbu, .ref hm, .ref hg, .int (zI (S 71)), .int (zI (S 72)), .int (zI (fSol S)), .int (zI (fSw S)), .int (zI (S 73)), .int (zI (S 74)), .long (zL (S 75))])), (hm, .inl (D.2 0, 3, .inl (fMu (mu S)))), (hg, .inl (D.2 0, 3, .inl (G))), (hbu, .inr (0, [.ref hs, .int (zI (S 77))])), (hs, .inl (D.2 0, 8, .inl (fSt S))), (hp, .inr (2, [.ref hw, .ref hz, .ref hl0, .int (zI (S 0))])), (hw, .inl (D.2 0, 16, .inl (fC S 0))), (hz, .inl (D.2 5, 3, .inr (.inr (.inr (.inr (f3 h0 h1 h2)))))), (h0, .inl (D.2 0, 16, .inl (fC S 1))), (h1, .inl (D.2 0, 16, .inl (fC S 2))), (h2, .inl (D.2 0, 16, .inl (fC S 3))), (hl0, .inl (D.2 0, 3, .inl (fLm S)))] s.heap [] := w
  refine lv_iload_n hx hb dX6_bound_0 rfl (lv_at hl 1 rfl) ?_
  rcases (show w9 = 0 ∨ w9 = 1 ∨ w9 = 2 ∨ (w9 < 0 ∨ 2 < w9) by omega) with csw1 | csw1 | csw1 | csw1
  · skip
    subst csw1
    refine z_tswit (tgt := 28) hx hb (by omega) dX6_bound_1 (by omega) (by omega) (off := 27) (by decide) (by decide) ?_
    refine lv_aload_n hx hb dX6_bound_28 rfl (lv_at hl 0 rfl) ?_
    refine z_get hx hb hown hts w inX6 0 0 rfl rfl (by decide) f_10 rfl rfl dX6_bound_29 ?_
    refine z_get hx hb hown hts w inX5 1 0 rfl rfl (by decide) f_81 rfl rfl dX6_bound_32 ?_
    refine lv_aload_n hx hb dX6_bound_35 rfl (lv_at hl 0 rfl) ?_
    refine z_get hx hb hown hts w inX6 0 0 rfl rfl (by decide) f_10 rfl rfl dX6_bound_36 ?_
    refine z_get hx hb hown hts w inX5 1 2 rfl rfl (by decide) f_98 rfl rfl dX6_bound_39 ?_
    refine z_V_l (As := [.ref hm]) (rest := []) (Wr := [(hxo, .inr (6, [.ref ho, .ref hh, .ref hsa, .ref hsv, .ref hpd9, .ref hse, .ref hmt])), (ho, .inr (5, [.ref hp, .ref hbu, .ref hm, .ref hg, .int (zI (S 71)), .int (zI (S 72)), .int (zI (fSol S)), .int (zI (fSw S)), .int (zI (S 73)), .int (zI (S 74)), .long (zL (S 75))])), (hg, .inl (D.2 0, 3, .inl (G))), (hbu, .inr (0, [.ref hs, .int (zI (S 77))])), (hs, .inl (D.2 0, 8, .inl (fSt S)))]) ⟨hx, hb, hml, hown, hts⟩ (c_X2_boundAt l D hp hw hz h0 h1 h2 hl0 hm S (mu S) hokp hokm) (cwV 1 hts gX6_bound_X2_boundAt rfl rfl rfl (by decide +kernel) ⟨Nat.le_of_ble_eq_true rfl, Nat.le_of_ble_eq_true rfl⟩) w (q0 := 6) rfl rfl rfl [6, 7, 8, 9, 10, 11, 12, 2] rfl (by decide) [0, 1, 3, 4, 5] rfl (by decide) (by decide) rfl hl.1 rfl (lv_room (Nat.le_of_ble_eq_true rfl)) dX6_bound_42 ⟨Nat.zero_le _, Nat.zero_le _⟩ (fun r W1 H locs hp w => ?_)
    obtain ⟨rfl, rfl⟩ := hp
    have w : zW D A s.heap s [(hxo, .inr (6, [.ref ho, .ref hh, .ref hsa, .ref hsv, .ref hpd9, .ref hse, .ref hmt])), (ho, .inr (5, [.ref hp, .ref hbu, .ref hm, .ref hg, .int (zI (S 71)), .int (zI (S 72)), .int (zI (fSol S)), .int (zI (fSw S)), .int (zI (S 73)), .int (zI (S 74)), .long (zL (S 75))])), (hm, .inl (D.2 0, 3, .inl (fMu (mu S)))), (hg, .inl (D.2 0, 3, .inl (G))), (hbu, .inr (0, [.ref hs, .int (zI (S 77))])), (hs, .inl (D.2 0, 8, .inl (fSt S))), (hp, .inr (2, [.ref hw, .ref hz, .ref hl0, .int (zI (S 0))])), (hw, .inl (D.2 0, 16, .inl (fC S 0))), (hz, .inl (D.2 5, 3, .inr (.inr (.inr (.inr (f3 h0 h1 h2)))))), (h0, .inl (D.2 0, 16, .inl (fC S 1))), (h1, .inl (D.2 0, 16, .inl (fC S 2))), (h2, .inl (D.2 0, 16, .inl (fC S 3))), (hl0, .inl (D.2 0, 3, .inl (fLm S)))] H locs := w.sub [0, 1, 12, 2, 3, 4, 5, 6, 7, 8, 9, 10, 11] (by decide) rfl
    exact z_lret hx hb hr hlocks w dX6_bound_45 ⟨rfl, rfl⟩
  · skip
    subst csw1
    refine z_tswit (tgt := 46) hx hb (by omega) dX6_bound_1 (by omega) (by omega) (off := 45) (by decide) (by decide) ?_
    refine lv_aload_n hx hb dX6_bound_46 rfl (lv_at hl 0 rfl) ?_
    refine z_get hx hb hown hts w inX6 0 0 rfl rfl (by decide) f_10 rfl rfl dX6_bound_47 ?_
    refine z_get hx hb hown hts w inX5 1 10 rfl rfl (by decide) f_182 rfl rfl dX6_bound_50 ?_
    exact z_lret hx hb hr hlocks w dX6_bound_53 ⟨rfl, rfl⟩
  · skip
    subst csw1
    refine z_tswit (tgt := 54) hx hb (by omega) dX6_bound_1 (by omega) (by omega) (off := 53) (by decide) (by decide) ?_
    refine lv_aload_n hx hb dX6_bound_54 rfl (lv_at hl 0 rfl) ?_
    refine z_get hx hb hown hts w inX6 0 0 rfl rfl (by decide) f_10 rfl rfl dX6_bound_55 ?_
    refine z_get hx hb hown hts w inX5 1 10 rfl rfl (by decide) f_182 rfl rfl dX6_bound_58 ?_
    refine lv_aload_n hx hb dX6_bound_61 rfl (lv_at hl 0 rfl) ?_
    refine z_get hx hb hown hts w inX6 0 0 rfl rfl (by decide) f_10 rfl rfl dX6_bound_62 ?_
    refine z_V_i (As := []) (rest := [.long (zL (S 75))]) (Wr := [(hxo, .inr (6, [.ref ho, .ref hh, .ref hsa, .ref hsv, .ref hpd9, .ref hse, .ref hmt])), (hm, .inl (D.2 0, 3, .inl (fMu (mu S)))), (hg, .inl (D.2 0, 3, .inl (G))), (hbu, .inr (0, [.ref hs, .int (zI (S 77))])), (hs, .inl (D.2 0, 8, .inl (fSt S))), (hp, .inr (2, [.ref hw, .ref hz, .ref hl0, .int (zI (S 0))])), (hw, .inl (D.2 0, 16, .inl (fC S 0))), (hz, .inl (D.2 5, 3, .inr (.inr (.inr (.inr (f3 h0 h1 h2)))))), (h0, .inl (D.2 0, 16, .inl (fC S 1))), (h1, .inl (D.2 0, 16, .inl (fC S 2))), (h2, .inl (D.2 0, 16, .inl (fC S 3))), (hl0, .inl (D.2 0, 3, .inl (fLm S)))]) ⟨hx, hb, hml, hown, hts⟩ (c_X5_solutionHundredths l D ho hp hbu hm hg (S 71) (S 72) (fSol S) (fSw S) (S 73) (S 74) (S 75) (by omega)) (cwV 0 hts gX6_bound_X5_solutionHundredths rfl rfl rfl (by decide +kernel) ⟨Nat.le_of_ble_eq_true rfl, Nat.le_of_ble_eq_true rfl⟩) w (q0 := 1) rfl rfl rfl [1] rfl (by decide) [0, 2, 3, 4, 5, 6, 7, 8, 9, 10, 11, 12] rfl (by decide) (by decide) rfl hl.1 rfl (lv_room (Nat.le_of_ble_eq_true rfl)) dX6_bound_65 ⟨Nat.zero_le _, Nat.zero_le _⟩ (fun r W1 H locs hp w => ?_)
    obtain ⟨rfl, rfl⟩ := hp
    have w : zW D A s.heap s [(hxo, .inr (6, [.ref ho, .ref hh, .ref hsa, .ref hsv, .ref hpd9, .ref hse, .ref hmt])), (ho, .inr (5, [.ref hp, .ref hbu, .ref hm, .ref hg, .int (zI (S 71)), .int (zI (S 72)), .int (zI (fSol S)), .int (zI (fSw S)), .int (zI (S 73)), .int (zI (S 74)), .long (zL (S 75))])), (hm, .inl (D.2 0, 3, .inl (fMu (mu S)))), (hg, .inl (D.2 0, 3, .inl (G))), (hbu, .inr (0, [.ref hs, .int (zI (S 77))])), (hs, .inl (D.2 0, 8, .inl (fSt S))), (hp, .inr (2, [.ref hw, .ref hz, .ref hl0, .int (zI (S 0))])), (hw, .inl (D.2 0, 16, .inl (fC S 0))), (hz, .inl (D.2 5, 3, .inr (.inr (.inr (.inr (f3 h0 h1 h2)))))), (h0, .inl (D.2 0, 16, .inl (fC S 1))), (h1, .inl (D.2 0, 16, .inl (fC S 2))), (h2, .inl (D.2 0, 16, .inl (fC S 3))), (hl0, .inl (D.2 0, 3, .inl (fLm S)))] H locs := w.sub [0, 12, 1, 2, 3, 4, 5, 6, 7, 8, 9, 10, 11] (by decide) rfl
    refine z_i2l hx hb (by omega) dX6_bound_68 ?_
    refine z_lsub hx hb dX6_bound_69 ?_
    exact z_lret hx hb hr hlocks w dX6_bound_70 (by refine ⟨?_, rfl⟩; show _ = zL (S 75 - 100 * sBw S); rw [hhe])
  · skip
    refine z_tswitD (tgt := 71) hx hb (by omega) dX6_bound_1 (by omega) (by decide) ?_
    refine lv_ldc2 (v := zL (-2)) hx hb hown (hts (.constantLong RX6 189 (zL (-2))) (by decide +kernel)) dX6_bound_71 ?_
    exact z_lret hx hb hr hlocks w dX6_bound_74 ⟨by unfold qBnd; rw [if_neg (by omega), if_neg (by omega), if_neg (by omega)], rfl⟩
set_option maxHeartbeats 6000000 in
set_option maxRecDepth 100000 in
theorem c_X6_boundThen (l : Launch) (D : zD) (hxo ho hm hg hbu hs hp hw hz h0 h1 h2 hl0 hh hsa hsv hpd9 hse hmt : Nat) (S : Nat → Int) (G : Nat → Int32) (TT : Nat → Int32) (B : Int) (hB : B ≤ 1900000000) (hok : OkS B S) : zM l yX6_boundThen wsX6_boundThen (zR (5)) zE0 D [.ref hxo] ((hxo, .inr (6, [.ref ho, .ref hh, .ref hsa, .ref hsv, .ref hpd9, .ref hse, .ref hmt])) :: (hmt, .inl (D.2 0, 3, .inl (TT))) :: (wSt D ho hm hg hbu hs hp hw hz h0 h1 h2 hl0 S G)) (zQl D (fun r W1 => r = zL (sBd S (sMv S)) ∧ ∃ G2 T2, W1 = ((hxo, .inr (6, [.ref ho, .ref hh, .ref hsa, .ref hsv, .ref hpd9, .ref hse, .ref hmt])) :: (hmt, .inl (D.2 0, 3, .inl (T2))) :: (wSt D ho hm hg hbu hs hp hw hz h0 h1 h2 hl0 S G2)))) := by
  refine zM.of (cc := cX6_boundThen) (maxL := 1) (ret := (some .long)) (by decide) rfl (Nat.le_of_ble_eq_true rfl) ?_
  intro p e s m below meth c A hx hb hml hown hts hr hlocks hE hnm w ls hl
  have hown : s.vm.findClass RX6 = some m.cls := hown
  have hl : lv_has ls 1 [(0, .ref hxo)] := hl
  have f_10 : (Cond.fieldLink RX6 10 "RelaxedSteps" "now" "LRelaxedSteps$State;").before _ s = true := hts _ (by decide +kernel)
  have f_45 : (Cond.fieldLink RX6 45 "RelaxedSteps" "multipliersThen" "[I").before _ s = true := hts _ (by decide +kernel)
  have f_81 : (Cond.fieldLink RX6 81 "RelaxedSteps$State" "packing" "LRelaxedSteps$Packing;").before _ s = true := hts _ (by decide +kernel)
  have inX6 : ∀ w ∈ u_ws RX6 TX6 7, w ∈ wsX6_boundThen := by decide +kernel
  have inX5 : ∀ w ∈ u_ws RX5 TX5 11, w ∈ wsX6_boundThen := by decide +kernel
  obtain ⟨hokp, hokm, hokb, hsc, hbe⟩ := id hok
  have hn := zn_eq hokp
  have h16 := zn_le hokp
  have hlim := hokp.2.2
  have hm1 := hokm
  unfold OkM mu at hm1
  have hsw := fSw_b hok
  have hso := fSol_b hok
  have hhu := sHu_b hok
  have hbd := sBd_b hokp hokm
  have hkb := hokb.1
  have hqq := hokp.1
  have hrl := sRel_16 (M := mu S) hokp
  have hbw := sBw_b hokp
  have hfe := fSw_b hok
  have hokm9 := OkM_mo (mu S) (sLn S) (sSlo S (mu S))
  have w : zW D A s.heap s [(hxo, .inr (6, [.ref ho, .ref hh, .ref hsa, .ref hsv, .ref hpd9, .ref hse, .ref hmt])), (hmt, .inl (D.2 0, 3, .inl (TT))), (ho, .inr (5, [.ref hp, .ref hbu, .ref hm, .ref hg, .int (zI (S 71)), .int (zI (S 72)), .int (zI (fSol S)), .int (zI (fSw S)), .int (zI (S 73)), .int (zI (S 74)), .long (zL (S 75))])), (hm, .inl (D.2 0, 3, .inl (fMu (mu S)))), (hg, .inl (D.2 0, 3, .inl (G))), (hbu, .inr (0, [.ref hs, .int (zI (S 77))])), (hs, .inl (D.2 0, 8, .inl (fSt S))), (hp, .inr (2, [.ref hw, .ref hz, .ref hl0, .int (zI (S 0))])), (hw, .inl (D.2 0, 16, .inl (fC S 0))), (hz, .inl (D.2 5, 3, .inr (.inr (.inr (.inr (f3 h0 h1 h2)))))), (h0, .inl (D.2 0, 16, .inl (fC S 1))), (h1, .inl (D.2 0, 16, .inl (fC S 2))), (h2, .inl (D.2 0, 16, .inl (fC S 3))), (hl0, .inl (D.2 0, 3, .inl (fLm S)))] s.heap [] := w
  refine lv_aload_n hx hb dX6_boundThen_0 rfl (lv_at hl 0 rfl) ?_
  refine z_get hx hb hown hts w inX6 0 0 rfl rfl (by decide) f_10 rfl rfl dX6_boundThen_1 ?_
  refine lv_aload_n hx hb dX6_boundThen_4 rfl (lv_at hl 0 rfl) ?_
  refine z_get hx hb hown hts w inX6 0 6 rfl rfl (by decide) f_45 rfl rfl dX6_boundThen_5 ?_
  refine z_V_v (As := [.ref hmt]) (rest := []) (Wr := [(hxo, .inr (6, [.ref ho, .ref hh, .ref hsa, .ref hsv, .ref hpd9, .ref hse, .ref hmt])), (hbu, .inr (0, [.ref hs, .int (zI (S 77))])), (hs, .inl (D.2 0, 8, .inl (fSt S)))]) ⟨hx, hb, hml, hown, hts⟩ (c_X5_stepIntoB l D ho hm hp hw hz h0 h1 h2 hl0 hbu hg hmt S (mu S) (S 71) (S 72) (fSol S) (fSw S) (S 73) (S 74) (S 75) G TT hokp hokm (by omega) (by omega) (by omega) (by omega) (by omega) (by omega)) (cwV 1 hts gX6_boundThen_X5_stepInto rfl rfl rfl (by decide +kernel) ⟨Nat.le_of_ble_eq_true rfl, Nat.le_of_ble_eq_true rfl⟩) w (q0 := 2) rfl rfl rfl [2, 3, 4, 1, 7, 8, 9, 10, 11, 12, 13] rfl (by decide) [0, 5, 6] rfl (by decide) (by decide) rfl hl.1 rfl (lv_room (Nat.le_of_ble_eq_true rfl)) dX6_boundThen_8 ⟨Nat.zero_le _, Nat.zero_le _⟩ (fun W1 H locs hp w => ?_)
  subst hp
  have w : zW D A s.heap s [(hxo, .inr (6, [.ref ho, .ref hh, .ref hsa, .ref hsv, .ref hpd9, .ref hse, .ref hmt])), (hmt, .inl (D.2 0, 3, .inl (fMu (sMo (mu S) (sLen (S 71) (S 72) (S 73) (sHu (fSw S)) (sBd S (mu S)) (sSq S (mu S))) (sSlo S (mu S)))))), (ho, .inr (5, [.ref hp, .ref hbu, .ref hm, .ref hg, .int (zI (S 71)), .int (zI (S 72)), .int (zI (fSol S)), .int (zI (fSw S)), .int (zI (S 73)), .int (zI (S 74)), .long (zL (S 75))])), (hm, .inl (D.2 0, 3, .inl (fMu (mu S)))), (hg, .inl (D.2 0, 3, .inl (fMu (sSlo S (mu S))))), (hbu, .inr (0, [.ref hs, .int (zI (S 77))])), (hs, .inl (D.2 0, 8, .inl (fSt S))), (hp, .inr (2, [.ref hw, .ref hz, .ref hl0, .int (zI (S 0))])), (hw, .inl (D.2 0, 16, .inl (fC S 0))), (hz, .inl (D.2 5, 3, .inr (.inr (.inr (.inr (f3 h0 h1 h2)))))), (h0, .inl (D.2 0, 16, .inl (fC S 1))), (h1, .inl (D.2 0, 16, .inl (fC S 2))), (h2, .inl (D.2 0, 16, .inl (fC S 3))), (hl0, .inl (D.2 0, 3, .inl (fLm S)))] H locs := w.sub [0, 6, 3, 4, 5, 1, 2, 7, 8, 9, 10, 11, 12, 13] (by decide) rfl
  refine lv_aload_n hx hb dX6_boundThen_11 rfl (lv_at hl 0 rfl) ?_
  refine z_get hx hb hown hts w inX6 0 0 rfl rfl (by decide) f_10 rfl rfl dX6_boundThen_12 ?_
  refine z_get hx hb hown hts w inX5 2 0 rfl rfl (by decide) f_81 rfl rfl dX6_boundThen_15 ?_
  refine lv_aload_n hx hb dX6_boundThen_18 rfl (lv_at hl 0 rfl) ?_
  refine z_get hx hb hown hts w inX6 0 6 rfl rfl (by decide) f_45 rfl rfl dX6_boundThen_19 ?_
  refine z_V_l (As := [.ref hmt]) (rest := []) (Wr := [(hxo, .inr (6, [.ref ho, .ref hh, .ref hsa, .ref hsv, .ref hpd9, .ref hse, .ref hmt])), (ho, .inr (5, [.ref hp, .ref hbu, .ref hm, .ref hg, .int (zI (S 71)), .int (zI (S 72)), .int (zI (fSol S)), .int (zI (fSw S)), .int (zI (S 73)), .int (zI (S 74)), .long (zL (S 75))])), (hm, .inl (D.2 0, 3, .inl (fMu (mu S)))), (hg, .inl (D.2 0, 3, .inl (fMu (sSlo S (mu S))))), (hbu, .inr (0, [.ref hs, .int (zI (S 77))])), (hs, .inl (D.2 0, 8, .inl (fSt S)))]) ⟨hx, hb, hml, hown, hts⟩ (c_X2_boundAt l D hp hw hz h0 h1 h2 hl0 hmt S (sMo (mu S) (sLen (S 71) (S 72) (S 73) (sHu (fSw S)) (sBd S (mu S)) (sSq S (mu S))) (sSlo S (mu S))) hokp hokm9) (cwV 1 hts gX6_boundThen_X2_boundAt rfl rfl rfl (by decide +kernel) ⟨Nat.le_of_ble_eq_true rfl, Nat.le_of_ble_eq_true rfl⟩) w (q0 := 7) rfl rfl rfl [7, 8, 9, 10, 11, 12, 13, 1] rfl (by decide) [0, 2, 3, 4, 5, 6] rfl (by decide) (by decide) rfl hl.1 rfl (lv_room (Nat.le_of_ble_eq_true rfl)) dX6_boundThen_22 ⟨Nat.zero_le _, Nat.zero_le _⟩ (fun r W1 H locs hp w => ?_)
  obtain ⟨rfl, rfl⟩ := hp
  have w : zW D A s.heap s [(hxo, .inr (6, [.ref ho, .ref hh, .ref hsa, .ref hsv, .ref hpd9, .ref hse, .ref hmt])), (hmt, .inl (D.2 0, 3, .inl (fMu (sMo (mu S) (sLen (S 71) (S 72) (S 73) (sHu (fSw S)) (sBd S (mu S)) (sSq S (mu S))) (sSlo S (mu S)))))), (ho, .inr (5, [.ref hp, .ref hbu, .ref hm, .ref hg, .int (zI (S 71)), .int (zI (S 72)), .int (zI (fSol S)), .int (zI (fSw S)), .int (zI (S 73)), .int (zI (S 74)), .long (zL (S 75))])), (hm, .inl (D.2 0, 3, .inl (fMu (mu S)))), (hg, .inl (D.2 0, 3, .inl (fMu (sSlo S (mu S))))), (hbu, .inr (0, [.ref hs, .int (zI (S 77))])), (hs, .inl (D.2 0, 8, .inl (fSt S))), (hp, .inr (2, [.ref hw, .ref hz, .ref hl0, .int (zI (S 0))])), (hw, .inl (D.2 0, 16, .inl (fC S 0))), (hz, .inl (D.2 5, 3, .inr (.inr (.inr (.inr (f3 h0 h1 h2)))))), (h0, .inl (D.2 0, 16, .inl (fC S 1))), (h1, .inl (D.2 0, 16, .inl (fC S 2))), (h2, .inl (D.2 0, 16, .inl (fC S 3))), (hl0, .inl (D.2 0, 3, .inl (fLm S)))] H locs := w.sub [0, 13, 1, 2, 3, 4, 5, 6, 7, 8, 9, 10, 11, 12] (by decide) rfl
  exact z_lret hx hb hr hlocks w dX6_boundThen_25 ⟨rfl, _, _, rfl⟩
set_option maxHeartbeats 6000000 in
set_option maxRecDepth 100000 in
theorem c_X6_best (l : Launch) (D : zD) (hlf hwb hxo ho hm hg hbu hs hp hw hz h0 h1 h2 hl0 hh hsa hsv hpd9 hse hmt : Nat) (S : Nat → Int) (G : Nat → Int32) (L Wb : Nat → Int32) (B : Int) (hB : B ≤ 1900000000) (hok : OkS B S) (w9 : Int) (hw9 : zB w9) : zM l yX6_best wsX6_best (zR (26)) zE0 D [.ref hxo, .int (zI (w9))] ((hxo, .inr (6, [.ref ho, .ref hh, .ref hsa, .ref hsv, .ref hpd9, .ref hse, .ref hmt])) :: (wSe D hse hlf hwb L Wb ++ (wSt D ho hm hg hbu hs hp hw hz h0 h1 h2 hl0 S G))) (zQi D (fun r W1 => r = zI ((if w9 = 0 then sGr S (zn S) (sLim S 0 0) 0 0 else if w9 = 1 then sLe S (zn S) (sLim S 0 0) (sGr S (zn S) (sLim S 0 0) 0 0) 0 else -2)) ∧ ∃ L2 W2 : Nat → Int32, W1 = ((hxo, .inr (6, [.ref ho, .ref hh, .ref hsa, .ref hsv, .ref hpd9, .ref hse, .ref hmt])) :: (wSe D hse hlf hwb L2 W2 ++ (wSt D ho hm hg hbu hs hp hw hz h0 h1 h2 hl0 S G))))) := by
  refine zM.of (cc := cX6_best) (maxL := 2) (ret := (some .int)) (by decide) rfl (Nat.le_of_ble_eq_true rfl) ?_
  intro p e s m below meth c A hx hb hml hown hts hr hlocks hE hnm w ls hl
  have hown : s.vm.findClass RX6 = some m.cls := hown
  have hl : lv_has ls 2 [(0, .ref hxo), (1, .int (zI (w9)))] := hl
  have f_41 : (Cond.fieldLink RX6 41 "RelaxedSteps" "search" "LRelaxedSteps$Search;").before _ s = true := hts _ (by decide +kernel)
  have f_10 : (Cond.fieldLink RX6 10 "RelaxedSteps" "now" "LRelaxedSteps$State;").before _ s = true := hts _ (by decide +kernel)
  have f_81 : (Cond.fieldLink RX6 81 "RelaxedSteps$State" "packing" "LRelaxedSteps$Packing;").before _ s = true := hts _ (by decide +kernel)
  have inX6 : ∀ w ∈ u_ws RX6 TX6 7, w ∈ wsX6_best := by decide +kernel
  have inX5 : ∀ w ∈ u_ws RX5 TX5 11, w ∈ wsX6_best := by decide +kernel
  obtain ⟨hokp, hokm, hokb, hsc, hbe⟩ := id hok
  have hn := zn_eq hokp
  have h16 := zn_le hokp
  have hlim := hokp.2.2
  have hm1 := hokm
  unfold OkM mu at hm1
  have hsw := fSw_b hok
  have hso := fSol_b hok
  have hhu := sHu_b hok
  have hbd := sBd_b hokp hokm
  have hkb := hokb.1
  have hqq := hokp.1
  have hrl := sRel_16 (M := mu S) hokp
  have hbw := sBw_b hokp
  have hfe := fSw_b hok
  have w : zW D A s.heap s [(hxo, .inr (6, [.ref ho, .ref hh, .ref hsa, .ref hsv, .ref hpd9, .ref hse, .ref hmt])), (hse, .inr (4, [.ref hlf, .ref hwb])), (hlf, .inl (D.2 0, 3, .inl (L))), (hwb, .inl (D.2 0, 17, .inl (Wb))), (ho, .inr (5, [.ref hp, .ref hbu, .ref hm, .ref hg, .int (zI (S 71)), .int (zI (S 72)), .int (zI (fSol S)), .int (zI (fSw S)), .int (zI (S 73)), .int (zI (S 74)), .long (zL (S 75))])), (hm, .inl (D.2 0, 3, .inl (fMu (mu S)))), (hg, .inl (D.2 0, 3, .inl (G))), (hbu, .inr (0, [.ref hs, .int (zI (S 77))])), (hs, .inl (D.2 0, 8, .inl (fSt S))), (hp, .inr (2, [.ref hw, .ref hz, .ref hl0, .int (zI (S 0))])), (hw, .inl (D.2 0, 16, .inl (fC S 0))), (hz, .inl (D.2 5, 3, .inr (.inr (.inr (.inr (f3 h0 h1 h2)))))), (h0, .inl (D.2 0, 16, .inl (fC S 1))), (h1, .inl (D.2 0, 16, .inl (fC S 2))), (h2, .inl (D.2 0, 16, .inl (fC S 3))), (hl0, .inl (D.2 0, 3, .inl (fLm S)))] s.heap [] := w
  refine lv_iload_n hx hb dX6_best_0 rfl (lv_at hl 1 rfl) ?_
  rcases (show w9 = 0 ∨ w9 = 1 ∨ (¬ w9 = 0 ∧ ¬ w9 = 1) by omega) with csw1 | csw1 | csw1
  · skip
    subst csw1
    refine z_lswit (tgt := 28) hx hb (by omega) dX6_best_1 (by decide) (off := 27) (by decide) (by decide) ?_
    refine lv_aload_n hx hb dX6_best_28 rfl (lv_at hl 0 rfl) ?_
    refine z_get hx hb hown hts w inX6 0 5 rfl rfl (by decide) f_41 rfl rfl dX6_best_29 ?_
    refine lv_aload_n hx hb dX6_best_32 rfl (lv_at hl 0 rfl) ?_
    refine z_get hx hb hown hts w inX6 0 0 rfl rfl (by decide) f_10 rfl rfl dX6_best_33 ?_
    refine z_get hx hb hown hts w inX5 4 0 rfl rfl (by decide) f_81 rfl rfl dX6_best_36 ?_
    refine lv_iconst (v := zI 0) hx hb dX6_best_39 rfl ?_
    refine lv_iconst (v := zI 0) hx hb dX6_best_40 rfl ?_
    refine z_V_i (As := [.ref hp, .int (zI (0)), .int (zI (0))]) (rest := []) (Wr := [(hxo, .inr (6, [.ref ho, .ref hh, .ref hsa, .ref hsv, .ref hpd9, .ref hse, .ref hmt])), (ho, .inr (5, [.ref hp, .ref hbu, .ref hm, .ref hg, .int (zI (S 71)), .int (zI (S 72)), .int (zI (fSol S)), .int (zI (fSw S)), .int (zI (S 73)), .int (zI (S 74)), .long (zL (S 75))])), (hm, .inl (D.2 0, 3, .inl (fMu (mu S)))), (hg, .inl (D.2 0, 3, .inl (G))), (hbu, .inr (0, [.ref hs, .int (zI (S 77))])), (hs, .inl (D.2 0, 8, .inl (fSt S)))]) ⟨hx, hb, hml, hown, hts⟩ (c_X4_greatestWorth0 l D hse hlf hwb hp hw hz h0 h1 h2 hl0 S L Wb hokp 0 (by omega)) (cwV 3 hts gX6_best_X4_greatestWorth rfl rfl rfl (by decide +kernel) ⟨by simp only [zR]; omega, by simp only [zR]; omega⟩) w (q0 := 1) rfl rfl rfl [1, 2, 3, 9, 10, 11, 12, 13, 14, 15] rfl (by decide) [0, 4, 5, 6, 7, 8] rfl (by decide) (by decide) rfl hl.1 rfl (lv_room (Nat.le_of_ble_eq_true rfl)) dX6_best_41 ⟨Nat.zero_le _, Nat.zero_le _⟩ (fun r W1 H locs hp w => ?_)
    obtain ⟨rfl, L2, W2, rfl⟩ := hp
    have w : zW D A s.heap s [(hxo, .inr (6, [.ref ho, .ref hh, .ref hsa, .ref hsv, .ref hpd9, .ref hse, .ref hmt])), (hse, .inr (4, [.ref hlf, .ref hwb])), (hlf, .inl (D.2 0, 3, .inl (L2))), (hwb, .inl (D.2 0, 17, .inl (W2))), (ho, .inr (5, [.ref hp, .ref hbu, .ref hm, .ref hg, .int (zI (S 71)), .int (zI (S 72)), .int (zI (fSol S)), .int (zI (fSw S)), .int (zI (S 73)), .int (zI (S 74)), .long (zL (S 75))])), (hm, .inl (D.2 0, 3, .inl (fMu (mu S)))), (hg, .inl (D.2 0, 3, .inl (G))), (hbu, .inr (0, [.ref hs, .int (zI (S 77))])), (hs, .inl (D.2 0, 8, .inl (fSt S))), (hp, .inr (2, [.ref hw, .ref hz, .ref hl0, .int (zI (S 0))])), (hw, .inl (D.2 0, 16, .inl (fC S 0))), (hz, .inl (D.2 5, 3, .inr (.inr (.inr (.inr (f3 h0 h1 h2)))))), (h0, .inl (D.2 0, 16, .inl (fC S 1))), (h1, .inl (D.2 0, 16, .inl (fC S 2))), (h2, .inl (D.2 0, 16, .inl (fC S 3))), (hl0, .inl (D.2 0, 3, .inl (fLm S)))] H locs := w.sub [0, 6, 7, 8, 1, 2, 3, 4, 5, 9, 10, 11, 12, 13, 14, 15] (by decide) rfl
    exact z_iret hx hb hr hlocks w dX6_best_44 ⟨rfl, _, _, rfl⟩
  · skip
    subst csw1
    refine z_lswit (tgt := 45) hx hb (by omega) dX6_best_1 (by decide) (off := 44) (by decide) (by decide) ?_
    refine lv_aload_n hx hb dX6_best_45 rfl (lv_at hl 0 rfl) ?_
    refine z_get hx hb hown hts w inX6 0 5 rfl rfl (by decide) f_41 rfl rfl dX6_best_46 ?_
    refine lv_aload_n hx hb dX6_best_49 rfl (lv_at hl 0 rfl) ?_
    refine z_get hx hb hown hts w inX6 0 0 rfl rfl (by decide) f_10 rfl rfl dX6_best_50 ?_
    refine z_get hx hb hown hts w inX5 4 0 rfl rfl (by decide) f_81 rfl rfl dX6_best_53 ?_
    refine z_V_i (As := [.ref hp]) (rest := []) (Wr := [(hxo, .inr (6, [.ref ho, .ref hh, .ref hsa, .ref hsv, .ref hpd9, .ref hse, .ref hmt])), (ho, .inr (5, [.ref hp, .ref hbu, .ref hm, .ref hg, .int (zI (S 71)), .int (zI (S 72)), .int (zI (fSol S)), .int (zI (fSw S)), .int (zI (S 73)), .int (zI (S 74)), .long (zL (S 75))])), (hm, .inl (D.2 0, 3, .inl (fMu (mu S)))), (hg, .inl (D.2 0, 3, .inl (G))), (hbu, .inr (0, [.ref hs, .int (zI (S 77))])), (hs, .inl (D.2 0, 8, .inl (fSt S)))]) ⟨hx, hb, hml, hown, hts⟩ (c_X4_leastBestSet l D hse hlf hwb hp hw hz h0 h1 h2 hl0 S L Wb hokp) (cwV 1 hts gX6_best_X4_leastBestSet rfl rfl rfl (by decide +kernel) ⟨by simp only [zR]; omega, by simp only [zR]; omega⟩) w (q0 := 1) rfl rfl rfl [1, 2, 3, 9, 10, 11, 12, 13, 14, 15] rfl (by decide) [0, 4, 5, 6, 7, 8] rfl (by decide) (by decide) rfl hl.1 rfl (lv_room (Nat.le_of_ble_eq_true rfl)) dX6_best_56 ⟨Nat.zero_le _, Nat.zero_le _⟩ (fun r W1 H locs hp w => ?_)
    obtain ⟨rfl, L2, W2, rfl⟩ := hp
    have w : zW D A s.heap s [(hxo, .inr (6, [.ref ho, .ref hh, .ref hsa, .ref hsv, .ref hpd9, .ref hse, .ref hmt])), (hse, .inr (4, [.ref hlf, .ref hwb])), (hlf, .inl (D.2 0, 3, .inl (L2))), (hwb, .inl (D.2 0, 17, .inl (W2))), (ho, .inr (5, [.ref hp, .ref hbu, .ref hm, .ref hg, .int (zI (S 71)), .int (zI (S 72)), .int (zI (fSol S)), .int (zI (fSw S)), .int (zI (S 73)), .int (zI (S 74)), .long (zL (S 75))])), (hm, .inl (D.2 0, 3, .inl (fMu (mu S)))), (hg, .inl (D.2 0, 3, .inl (G))), (hbu, .inr (0, [.ref hs, .int (zI (S 77))])), (hs, .inl (D.2 0, 8, .inl (fSt S))), (hp, .inr (2, [.ref hw, .ref hz, .ref hl0, .int (zI (S 0))])), (hw, .inl (D.2 0, 16, .inl (fC S 0))), (hz, .inl (D.2 5, 3, .inr (.inr (.inr (.inr (f3 h0 h1 h2)))))), (h0, .inl (D.2 0, 16, .inl (fC S 1))), (h1, .inl (D.2 0, 16, .inl (fC S 2))), (h2, .inl (D.2 0, 16, .inl (fC S 3))), (hl0, .inl (D.2 0, 3, .inl (fLm S)))] H locs := w.sub [0, 6, 7, 8, 1, 2, 3, 4, 5, 9, 10, 11, 12, 13, 14, 15] (by decide) rfl
    exact z_iret hx hb hr hlocks w dX6_best_59 ⟨rfl, _, _, rfl⟩
  · skip
    obtain ⟨nk1_0, nk1_1⟩ := csw1
    refine z_lswit (tgt := 60) hx hb (by omega) dX6_best_1 (by decide) (off := 59) (by simp [Op.lookupswitch.offset, nk1_0, Ne.symm nk1_0, nk1_1, Ne.symm nk1_1]) (by decide) ?_
    refine lv_bipush (v := zI (-2)) hx hb dX6_best_60 (by decide +kernel) ?_
    exact z_iret hx hb hr hlocks w dX6_best_62 ⟨by rw [if_neg (by omega), if_neg (by omega)], _, _, rfl⟩
set_option maxHeartbeats 6000000 in
set_option maxRecDepth 100000 in
theorem c_X6_worthOf0 (l : Launch) (D : zD) (hlf hwb hxo ho hm hg hbu hs hp hw hz h0 h1 h2 hl0 hh hsa hsv hpd9 hse hmt : Nat) (S : Nat → Int) (G : Nat → Int32) (L Wb : Nat → Int32) (B : Int) (hB : B ≤ 1900000000) (hok : OkS B S) (u : Int) (hu : zB u) : zM l yX6_worthOf wsX6_worthOf (zR (26)) zE0 D [.ref hxo, .int (zI (0)), .int (zI (u))] ((hxo, .inr (6, [.ref ho, .ref hh, .ref hsa, .ref hsv, .ref hpd9, .ref hse, .ref hmt])) :: (wSe D hse hlf hwb L Wb ++ (wSt D ho hm hg hbu hs hp hw hz h0 h1 h2 hl0 S G))) (zQi D (fun r W1 => r = zI (if 1 ≤ u ∧ u ≤ 99 then sGr S (zn S) (sLim S 0 u) 0 0 - sGr S (zn S) (sLim S 0 0) 0 0 else -2) ∧ ∃ L2 W2 : Nat → Int32, W1 = ((hxo, .inr (6, [.ref ho, .ref hh, .ref hsa, .ref hsv, .ref hpd9, .ref hse, .ref hmt])) :: (wSe D hse hlf hwb L2 W2 ++ (wSt D ho hm hg hbu hs hp hw hz h0 h1 h2 hl0 S G))))) := by
  refine zM.of (cc := cX6_worthOf) (maxL := 4) (ret := (some .int)) (by decide) rfl (Nat.le_of_ble_eq_true rfl) ?_
  intro p e s m below meth c A hx hb hml hown hts hr hlocks hE hnm w ls hl
  have hown : s.vm.findClass RX6 = some m.cls := hown
  have hl : lv_has ls 4 [(0, .ref hxo), (1, .int (zI (0))), (2, .int (zI (u)))] := hl
  have f_41 : (Cond.fieldLink RX6 41 "RelaxedSteps" "search" "LRelaxedSteps$Search;").before _ s = true := hts _ (by decide +kernel)
  have f_10 : (Cond.fieldLink RX6 10 "RelaxedSteps" "now" "LRelaxedSteps$State;").before _ s = true := hts _ (by decide +kernel)
  have f_81 : (Cond.fieldLink RX6 81 "RelaxedSteps$State" "packing" "LRelaxedSteps$Packing;").before _ s = true := hts _ (by decide +kernel)
  have inX6 : ∀ w ∈ u_ws RX6 TX6 7, w ∈ wsX6_worthOf := by decide +kernel
  have inX5 : ∀ w ∈ u_ws RX5 TX5 11, w ∈ wsX6_worthOf := by decide +kernel
  obtain ⟨hokp, hokm, hokb, hsc, hbe⟩ := id hok
  have hn := zn_eq hokp
  have h16 := zn_le hokp
  have hlim := hokp.2.2
  have hm1 := hokm
  unfold OkM mu at hm1
  have hsw := fSw_b hok
  have hso := fSol_b hok
  have hhu := sHu_b hok
  have hbd := sBd_b hokp hokm
  have hkb := hokb.1
  have hqq := hokp.1
  have hrl := sRel_16 (M := mu S) hokp
  have hbw := sBw_b hokp
  have hfe := fSw_b hok
  have w : zW D A s.heap s [(hxo, .inr (6, [.ref ho, .ref hh, .ref hsa, .ref hsv, .ref hpd9, .ref hse, .ref hmt])), (hse, .inr (4, [.ref hlf, .ref hwb])), (hlf, .inl (D.2 0, 3, .inl (L))), (hwb, .inl (D.2 0, 17, .inl (Wb))), (ho, .inr (5, [.ref hp, .ref hbu, .ref hm, .ref hg, .int (zI (S 71)), .int (zI (S 72)), .int (zI (fSol S)), .int (zI (fSw S)), .int (zI (S 73)), .int (zI (S 74)), .long (zL (S 75))])), (hm, .inl (D.2 0, 3, .inl (fMu (mu S)))), (hg, .inl (D.2 0, 3, .inl (G))), (hbu, .inr (0, [.ref hs, .int (zI (S 77))])), (hs, .inl (D.2 0, 8, .inl (fSt S))), (hp, .inr (2, [.ref hw, .ref hz, .ref hl0, .int (zI (S 0))])), (hw, .inl (D.2 0, 16, .inl (fC S 0))), (hz, .inl (D.2 5, 3, .inr (.inr (.inr (.inr (f3 h0 h1 h2)))))), (h0, .inl (D.2 0, 16, .inl (fC S 1))), (h1, .inl (D.2 0, 16, .inl (fC S 2))), (h2, .inl (D.2 0, 16, .inl (fC S 3))), (hl0, .inl (D.2 0, 3, .inl (fLm S)))] s.heap [] := w
  refine lv_iload_n hx hb dX6_worthOf_0 rfl (lv_at hl 1 rfl) ?_
  refine z_S_i (As := [.int (zI (0))]) (rest := []) (Wr := [(hxo, .inr (6, [.ref ho, .ref hh, .ref hsa, .ref hsv, .ref hpd9, .ref hse, .ref hmt])), (hse, .inr (4, [.ref hlf, .ref hwb])), (hlf, .inl (D.2 0, 3, .inl (L))), (hwb, .inl (D.2 0, 17, .inl (Wb))), (ho, .inr (5, [.ref hp, .ref hbu, .ref hm, .ref hg, .int (zI (S 71)), .int (zI (S 72)), .int (zI (fSol S)), .int (zI (fSw S)), .int (zI (S 73)), .int (zI (S 74)), .long (zL (S 75))])), (hm, .inl (D.2 0, 3, .inl (fMu (mu S)))), (hg, .inl (D.2 0, 3, .inl (G))), (hbu, .inr (0, [.ref hs, .int (zI (S 77))])), (hs, .inl (D.2 0, 8, .inl (fSt S))), (hp, .inr (2, [.ref hw, .ref hz, .ref hl0, .int (zI (S 0))])), (hw, .inl (D.2 0, 16, .inl (fC S 0))), (hz, .inl (D.2 5, 3, .inr (.inr (.inr (.inr (f3 h0 h1 h2)))))), (h0, .inl (D.2 0, 16, .inl (fC S 1))), (h1, .inl (D.2 0, 16, .inl (fC S 2))), (h2, .inl (D.2 0, 16, .inl (fC S 3))), (hl0, .inl (D.2 0, 3, .inl (fLm S)))]) ⟨hx, hb, hml, hown, hts⟩ (c_X6_isDimension l D 0 (by omega)) (va_cwS 1 hts gX6_worthOf_X6_isDimension rfl rfl rfl (by decide +kernel) ⟨by simp only [zR]; omega, by simp only [zR]; omega⟩) w [] rfl (by decide) [0, 1, 2, 3, 4, 5, 6, 7, 8, 9, 10, 11, 12, 13, 14, 15] rfl (by decide) (by decide) rfl hl.1 rfl (lv_room (Nat.le_of_ble_eq_true rfl)) dX6_worthOf_1 ⟨Nat.zero_le _, Nat.zero_le _⟩ (fun r W1 H locs hp w => ?_)
  obtain ⟨rfl, rfl⟩ := hp
  have w : zW D A s.heap s [(hxo, .inr (6, [.ref ho, .ref hh, .ref hsa, .ref hsv, .ref hpd9, .ref hse, .ref hmt])), (hse, .inr (4, [.ref hlf, .ref hwb])), (hlf, .inl (D.2 0, 3, .inl (L))), (hwb, .inl (D.2 0, 17, .inl (Wb))), (ho, .inr (5, [.ref hp, .ref hbu, .ref hm, .ref hg, .int (zI (S 71)), .int (zI (S 72)), .int (zI (fSol S)), .int (zI (fSw S)), .int (zI (S 73)), .int (zI (S 74)), .long (zL (S 75))])), (hm, .inl (D.2 0, 3, .inl (fMu (mu S)))), (hg, .inl (D.2 0, 3, .inl (G))), (hbu, .inr (0, [.ref hs, .int (zI (S 77))])), (hs, .inl (D.2 0, 8, .inl (fSt S))), (hp, .inr (2, [.ref hw, .ref hz, .ref hl0, .int (zI (S 0))])), (hw, .inl (D.2 0, 16, .inl (fC S 0))), (hz, .inl (D.2 5, 3, .inr (.inr (.inr (.inr (f3 h0 h1 h2)))))), (h0, .inl (D.2 0, 16, .inl (fC S 1))), (h1, .inl (D.2 0, 16, .inl (fC S 2))), (h2, .inl (D.2 0, 16, .inl (fC S 3))), (hl0, .inl (D.2 0, 3, .inl (fLm S)))] H locs := w.sub [0, 1, 2, 3, 4, 5, 6, 7, 8, 9, 10, 11, 12, 13, 14, 15] (by decide) rfl
  refine z_if_ne_b (tgt := 9) hx hb dX6_worthOf_4 (by decide) (fun c4 => ?_) (fun c4 => ?_)
  · skip
    refine lv_iload_n hx hb dX6_worthOf_9 rfl (lv_at hl 2 rfl) ?_
    refine lv_iconst (v := zI 1) hx hb dX6_worthOf_10 rfl ?_
    refine lv_bipush (v := zI 99) hx hb dX6_worthOf_11 (by decide +kernel) ?_
    refine z_S_i (As := [.int (zI (u)), .int (zI (1)), .int (zI (99))]) (rest := []) (Wr := [(hxo, .inr (6, [.ref ho, .ref hh, .ref hsa, .ref hsv, .ref hpd9, .ref hse, .ref hmt])), (hse, .inr (4, [.ref hlf, .ref hwb])), (hlf, .inl (D.2 0, 3, .inl (L))), (hwb, .inl (D.2 0, 17, .inl (Wb))), (ho, .inr (5, [.ref hp, .ref hbu, .ref hm, .ref hg, .int (zI (S 71)), .int (zI (S 72)), .int (zI (fSol S)), .int (zI (fSw S)), .int (zI (S 73)), .int (zI (S 74)), .long (zL (S 75))])), (hm, .inl (D.2 0, 3, .inl (fMu (mu S)))), (hg, .inl (D.2 0, 3, .inl (G))), (hbu, .inr (0, [.ref hs, .int (zI (S 77))])), (hs, .inl (D.2 0, 8, .inl (fSt S))), (hp, .inr (2, [.ref hw, .ref hz, .ref hl0, .int (zI (S 0))])), (hw, .inl (D.2 0, 16, .inl (fC S 0))), (hz, .inl (D.2 5, 3, .inr (.inr (.inr (.inr (f3 h0 h1 h2)))))), (h0, .inl (D.2 0, 16, .inl (fC S 1))), (h1, .inl (D.2 0, 16, .inl (fC S 2))), (h2, .inl (D.2 0, 16, .inl (fC S 3))), (hl0, .inl (D.2 0, 3, .inl (fLm S)))]) ⟨hx, hb, hml, hown, hts⟩ (c_X6_within l D u 1 99 (by omega) (by omega) (by omega)) (va_cwS 3 hts gX6_worthOf_X6_within rfl rfl rfl (by decide +kernel) ⟨by simp only [zR]; omega, by simp only [zR]; omega⟩) w [] rfl (by decide) [0, 1, 2, 3, 4, 5, 6, 7, 8, 9, 10, 11, 12, 13, 14, 15] rfl (by decide) (by decide) rfl hl.1 rfl (lv_room (Nat.le_of_ble_eq_true rfl)) dX6_worthOf_13 ⟨Nat.zero_le _, Nat.zero_le _⟩ (fun r W1 H locs hp w => ?_)
    obtain ⟨rfl, rfl⟩ := hp
    have w : zW D A s.heap s [(hxo, .inr (6, [.ref ho, .ref hh, .ref hsa, .ref hsv, .ref hpd9, .ref hse, .ref hmt])), (hse, .inr (4, [.ref hlf, .ref hwb])), (hlf, .inl (D.2 0, 3, .inl (L))), (hwb, .inl (D.2 0, 17, .inl (Wb))), (ho, .inr (5, [.ref hp, .ref hbu, .ref hm, .ref hg, .int (zI (S 71)), .int (zI (S 72)), .int (zI (fSol S)), .int (zI (fSw S)), .int (zI (S 73)), .int (zI (S 74)), .long (zL (S 75))])), (hm, .inl (D.2 0, 3, .inl (fMu (mu S)))), (hg, .inl (D.2 0, 3, .inl (G))), (hbu, .inr (0, [.ref hs, .int (zI (S 77))])), (hs, .inl (D.2 0, 8, .inl (fSt S))), (hp, .inr (2, [.ref hw, .ref hz, .ref hl0, .int (zI (S 0))])), (hw, .inl (D.2 0, 16, .inl (fC S 0))), (hz, .inl (D.2 5, 3, .inr (.inr (.inr (.inr (f3 h0 h1 h2)))))), (h0, .inl (D.2 0, 16, .inl (fC S 1))), (h1, .inl (D.2 0, 16, .inl (fC S 2))), (h2, .inl (D.2 0, 16, .inl (fC S 3))), (hl0, .inl (D.2 0, 3, .inl (fLm S)))] H locs := w.sub [0, 1, 2, 3, 4, 5, 6, 7, 8, 9, 10, 11, 12, 13, 14, 15] (by decide) rfl
    refine z_if_ne_b (tgt := 22) hx hb dX6_worthOf_16 (by decide) (fun c16 => ?_) (fun c16 => ?_)
    · skip
      refine lv_aload_n hx hb dX6_worthOf_22 rfl (lv_at hl 0 rfl) ?_
      refine z_get hx hb hown hts w inX6 0 5 rfl rfl (by decide) f_41 rfl rfl dX6_worthOf_23 ?_
      refine lv_aload_n hx hb dX6_worthOf_26 rfl (lv_at hl 0 rfl) ?_
      refine z_get hx hb hown hts w inX6 0 0 rfl rfl (by decide) f_10 rfl rfl dX6_worthOf_27 ?_
      refine z_get hx hb hown hts w inX5 4 0 rfl rfl (by decide) f_81 rfl rfl dX6_worthOf_30 ?_
      refine lv_iload_n hx hb dX6_worthOf_33 rfl (lv_at hl 1 rfl) ?_
      refine lv_iconst (v := zI 0) hx hb dX6_worthOf_34 rfl ?_
      refine z_V_i (As := [.ref hp, .int (zI (0)), .int (zI (0))]) (rest := []) (Wr := [(hxo, .inr (6, [.ref ho, .ref hh, .ref hsa, .ref hsv, .ref hpd9, .ref hse, .ref hmt])), (ho, .inr (5, [.ref hp, .ref hbu, .ref hm, .ref hg, .int (zI (S 71)), .int (zI (S 72)), .int (zI (fSol S)), .int (zI (fSw S)), .int (zI (S 73)), .int (zI (S 74)), .long (zL (S 75))])), (hm, .inl (D.2 0, 3, .inl (fMu (mu S)))), (hg, .inl (D.2 0, 3, .inl (G))), (hbu, .inr (0, [.ref hs, .int (zI (S 77))])), (hs, .inl (D.2 0, 8, .inl (fSt S)))]) ⟨hx, hb, hml, hown, hts⟩ (c_X4_greatestWorth0 l D hse hlf hwb hp hw hz h0 h1 h2 hl0 S L Wb hokp 0 (by omega)) (cwV 3 hts gX6_worthOf_X4_greatestWorth rfl rfl rfl (by decide +kernel) ⟨by simp only [zR]; omega, by simp only [zR]; omega⟩) w (q0 := 1) rfl rfl rfl [1, 2, 3, 9, 10, 11, 12, 13, 14, 15] rfl (by decide) [0, 4, 5, 6, 7, 8] rfl (by decide) (by decide) rfl hl.1 rfl (lv_room (Nat.le_of_ble_eq_true rfl)) dX6_worthOf_35 ⟨Nat.zero_le _, Nat.zero_le _⟩ (fun r W1 H locs hp w => ?_)
      obtain ⟨rfl, L2, W2, rfl⟩ := hp
      have w : zW D A s.heap s [(hxo, .inr (6, [.ref ho, .ref hh, .ref hsa, .ref hsv, .ref hpd9, .ref hse, .ref hmt])), (hse, .inr (4, [.ref hlf, .ref hwb])), (hlf, .inl (D.2 0, 3, .inl (L2))), (hwb, .inl (D.2 0, 17, .inl (W2))), (ho, .inr (5, [.ref hp, .ref hbu, .ref hm, .ref hg, .int (zI (S 71)), .int (zI (S 72)), .int (zI (fSol S)), .int (zI (fSw S)), .int (zI (S 73)), .int (zI (S 74)), .long (zL (S 75))])), (hm, .inl (D.2 0, 3, .inl (fMu (mu S)))), (hg, .inl (D.2 0, 3, .inl (G))), (hbu, .inr (0, [.ref hs, .int (zI (S 77))])), (hs, .inl (D.2 0, 8, .inl (fSt S))), (hp, .inr (2, [.ref hw, .ref hz, .ref hl0, .int (zI (S 0))])), (hw, .inl (D.2 0, 16, .inl (fC S 0))), (hz, .inl (D.2 5, 3, .inr (.inr (.inr (.inr (f3 h0 h1 h2)))))), (h0, .inl (D.2 0, 16, .inl (fC S 1))), (h1, .inl (D.2 0, 16, .inl (fC S 2))), (h2, .inl (D.2 0, 16, .inl (fC S 3))), (hl0, .inl (D.2 0, 3, .inl (fLm S)))] H locs := w.sub [0, 6, 7, 8, 1, 2, 3, 4, 5, 9, 10, 11, 12, 13, 14, 15] (by decide) rfl
      refine lv_istore_n (lv' := [(3, .int (zI (sGr S (zn S) (sLim S 0 0) 0 0))), (0, .ref hxo), (1, .int (zI (0))), (2, .int (zI (u)))]) hx hb dX6_worthOf_38 rfl hl (by decide) rfl (fun ls hl => ?_)
      refine lv_aload_n hx hb dX6_worthOf_39 rfl (lv_at hl 1 rfl) ?_
      refine z_get hx hb hown hts w inX6 0 5 rfl rfl (by decide) f_41 rfl rfl dX6_worthOf_40 ?_
      refine lv_aload_n hx hb dX6_worthOf_43 rfl (lv_at hl 1 rfl) ?_
      refine z_get hx hb hown hts w inX6 0 0 rfl rfl (by decide) f_10 rfl rfl dX6_worthOf_44 ?_
      refine z_get hx hb hown hts w inX5 4 0 rfl rfl (by decide) f_81 rfl rfl dX6_worthOf_47 ?_
      refine lv_iload_n hx hb dX6_worthOf_50 rfl (lv_at hl 2 rfl) ?_
      refine lv_iload_n hx hb dX6_worthOf_51 rfl (lv_at hl 3 rfl) ?_
      refine z_V_i (As := [.ref hp, .int (zI (0)), .int (zI (u))]) (rest := []) (Wr := [(hxo, .inr (6, [.ref ho, .ref hh, .ref hsa, .ref hsv, .ref hpd9, .ref hse, .ref hmt])), (ho, .inr (5, [.ref hp, .ref hbu, .ref hm, .ref hg, .int (zI (S 71)), .int (zI (S 72)), .int (zI (fSol S)), .int (zI (fSw S)), .int (zI (S 73)), .int (zI (S 74)), .long (zL (S 75))])), (hm, .inl (D.2 0, 3, .inl (fMu (mu S)))), (hg, .inl (D.2 0, 3, .inl (G))), (hbu, .inr (0, [.ref hs, .int (zI (S 77))])), (hs, .inl (D.2 0, 8, .inl (fSt S)))]) ⟨hx, hb, hml, hown, hts⟩ (c_X4_greatestWorth0 l D hse hlf hwb hp hw hz h0 h1 h2 hl0 S L2 W2 hokp u (by omega)) (cwV 3 hts gX6_worthOf_X4_greatestWorth rfl rfl rfl (by decide +kernel) ⟨by simp only [zR]; omega, by simp only [zR]; omega⟩) w (q0 := 1) rfl rfl rfl [1, 2, 3, 9, 10, 11, 12, 13, 14, 15] rfl (by decide) [0, 4, 5, 6, 7, 8] rfl (by decide) (by decide) rfl hl.1 rfl (lv_room (Nat.le_of_ble_eq_true rfl)) dX6_worthOf_52 ⟨Nat.zero_le _, Nat.zero_le _⟩ (fun r W1 H locs hp w => ?_)
      obtain ⟨rfl, L2, W2, rfl⟩ := hp
      have w : zW D A s.heap s [(hxo, .inr (6, [.ref ho, .ref hh, .ref hsa, .ref hsv, .ref hpd9, .ref hse, .ref hmt])), (hse, .inr (4, [.ref hlf, .ref hwb])), (hlf, .inl (D.2 0, 3, .inl (L2))), (hwb, .inl (D.2 0, 17, .inl (W2))), (ho, .inr (5, [.ref hp, .ref hbu, .ref hm, .ref hg, .int (zI (S 71)), .int (zI (S 72)), .int (zI (fSol S)), .int (zI (fSw S)), .int (zI (S 73)), .int (zI (S 74)), .long (zL (S 75))])), (hm, .inl (D.2 0, 3, .inl (fMu (mu S)))), (hg, .inl (D.2 0, 3, .inl (G))), (hbu, .inr (0, [.ref hs, .int (zI (S 77))])), (hs, .inl (D.2 0, 8, .inl (fSt S))), (hp, .inr (2, [.ref hw, .ref hz, .ref hl0, .int (zI (S 0))])), (hw, .inl (D.2 0, 16, .inl (fC S 0))), (hz, .inl (D.2 5, 3, .inr (.inr (.inr (.inr (f3 h0 h1 h2)))))), (h0, .inl (D.2 0, 16, .inl (fC S 1))), (h1, .inl (D.2 0, 16, .inl (fC S 2))), (h2, .inl (D.2 0, 16, .inl (fC S 3))), (hl0, .inl (D.2 0, 3, .inl (fLm S)))] H locs := w.sub [0, 6, 7, 8, 1, 2, 3, 4, 5, 9, 10, 11, 12, 13, 14, 15] (by decide) rfl
      refine lv_iload_n hx hb dX6_worthOf_55 rfl (lv_at hl 0 rfl) ?_
      refine z_isub hx hb dX6_worthOf_56 ?_
      exact z_iret hx hb hr hlocks w dX6_worthOf_57 ⟨by rw [if_pos c16], _, _, rfl⟩
    · skip
      refine lv_bipush (v := zI (-2)) hx hb dX6_worthOf_19 (by decide +kernel) ?_
      exact z_iret hx hb hr hlocks w dX6_worthOf_21 ⟨by rw [if_neg c16], _, _, rfl⟩
  · skip
    exact absurd (show (0 : Int) ≤ 0 ∧ (0 : Int) ≤ 2 by omega) c4
set_option maxHeartbeats 6000000 in
set_option maxRecDepth 100000 in
theorem c_X6_worthOf1 (l : Launch) (D : zD) (hlf hwb hxo ho hm hg hbu hs hp hw hz h0 h1 h2 hl0 hh hsa hsv hpd9 hse hmt : Nat) (S : Nat → Int) (G : Nat → Int32) (L Wb : Nat → Int32) (B : Int) (hB : B ≤ 1900000000) (hok : OkS B S) (u : Int) (hu : zB u) : zM l yX6_worthOf wsX6_worthOf (zR (26)) zE0 D [.ref hxo, .int (zI (1)), .int (zI (u))] ((hxo, .inr (6, [.ref ho, .ref hh, .ref hsa, .ref hsv, .ref hpd9, .ref hse, .ref hmt])) :: (wSe D hse hlf hwb L Wb ++ (wSt D ho hm hg hbu hs hp hw hz h0 h1 h2 hl0 S G))) (zQi D (fun r W1 => r = zI (if 1 ≤ u ∧ u ≤ 99 then sGr S (zn S) (sLim S 1 u) 0 0 - sGr S (zn S) (sLim S 1 0) 0 0 else -2) ∧ ∃ L2 W2 : Nat → Int32, W1 = ((hxo, .inr (6, [.ref ho, .ref hh, .ref hsa, .ref hsv, .ref hpd9, .ref hse, .ref hmt])) :: (wSe D hse hlf hwb L2 W2 ++ (wSt D ho hm hg hbu hs hp hw hz h0 h1 h2 hl0 S G))))) := by
  refine zM.of (cc := cX6_worthOf) (maxL := 4) (ret := (some .int)) (by decide) rfl (Nat.le_of_ble_eq_true rfl) ?_
  intro p e s m below meth c A hx hb hml hown hts hr hlocks hE hnm w ls hl
  have hown : s.vm.findClass RX6 = some m.cls := hown
  have hl : lv_has ls 4 [(0, .ref hxo), (1, .int (zI (1))), (2, .int (zI (u)))] := hl
  have f_41 : (Cond.fieldLink RX6 41 "RelaxedSteps" "search" "LRelaxedSteps$Search;").before _ s = true := hts _ (by decide +kernel)
  have f_10 : (Cond.fieldLink RX6 10 "RelaxedSteps" "now" "LRelaxedSteps$State;").before _ s = true := hts _ (by decide +kernel)
  have f_81 : (Cond.fieldLink RX6 81 "RelaxedSteps$State" "packing" "LRelaxedSteps$Packing;").before _ s = true := hts _ (by decide +kernel)
  have inX6 : ∀ w ∈ u_ws RX6 TX6 7, w ∈ wsX6_worthOf := by decide +kernel
  have inX5 : ∀ w ∈ u_ws RX5 TX5 11, w ∈ wsX6_worthOf := by decide +kernel
  obtain ⟨hokp, hokm, hokb, hsc, hbe⟩ := id hok
  have hn := zn_eq hokp
  have h16 := zn_le hokp
  have hlim := hokp.2.2
  have hm1 := hokm
  unfold OkM mu at hm1
  have hsw := fSw_b hok
  have hso := fSol_b hok
  have hhu := sHu_b hok
  have hbd := sBd_b hokp hokm
  have hkb := hokb.1
  have hqq := hokp.1
  have hrl := sRel_16 (M := mu S) hokp
  have hbw := sBw_b hokp
  have hfe := fSw_b hok
  have w : zW D A s.heap s [(hxo, .inr (6, [.ref ho, .ref hh, .ref hsa, .ref hsv, .ref hpd9, .ref hse, .ref hmt])), (hse, .inr (4, [.ref hlf, .ref hwb])), (hlf, .inl (D.2 0, 3, .inl (L))), (hwb, .inl (D.2 0, 17, .inl (Wb))), (ho, .inr (5, [.ref hp, .ref hbu, .ref hm, .ref hg, .int (zI (S 71)), .int (zI (S 72)), .int (zI (fSol S)), .int (zI (fSw S)), .int (zI (S 73)), .int (zI (S 74)), .long (zL (S 75))])), (hm, .inl (D.2 0, 3, .inl (fMu (mu S)))), (hg, .inl (D.2 0, 3, .inl (G))), (hbu, .inr (0, [.ref hs, .int (zI (S 77))])), (hs, .inl (D.2 0, 8, .inl (fSt S))), (hp, .inr (2, [.ref hw, .ref hz, .ref hl0, .int (zI (S 0))])), (hw, .inl (D.2 0, 16, .inl (fC S 0))), (hz, .inl (D.2 5, 3, .inr (.inr (.inr (.inr (f3 h0 h1 h2)))))), (h0, .inl (D.2 0, 16, .inl (fC S 1))), (h1, .inl (D.2 0, 16, .inl (fC S 2))), (h2, .inl (D.2 0, 16, .inl (fC S 3))), (hl0, .inl (D.2 0, 3, .inl (fLm S)))] s.heap [] := w
  refine lv_iload_n hx hb dX6_worthOf_0 rfl (lv_at hl 1 rfl) ?_
  refine z_S_i (As := [.int (zI (1))]) (rest := []) (Wr := [(hxo, .inr (6, [.ref ho, .ref hh, .ref hsa, .ref hsv, .ref hpd9, .ref hse, .ref hmt])), (hse, .inr (4, [.ref hlf, .ref hwb])), (hlf, .inl (D.2 0, 3, .inl (L))), (hwb, .inl (D.2 0, 17, .inl (Wb))), (ho, .inr (5, [.ref hp, .ref hbu, .ref hm, .ref hg, .int (zI (S 71)), .int (zI (S 72)), .int (zI (fSol S)), .int (zI (fSw S)), .int (zI (S 73)), .int (zI (S 74)), .long (zL (S 75))])), (hm, .inl (D.2 0, 3, .inl (fMu (mu S)))), (hg, .inl (D.2 0, 3, .inl (G))), (hbu, .inr (0, [.ref hs, .int (zI (S 77))])), (hs, .inl (D.2 0, 8, .inl (fSt S))), (hp, .inr (2, [.ref hw, .ref hz, .ref hl0, .int (zI (S 0))])), (hw, .inl (D.2 0, 16, .inl (fC S 0))), (hz, .inl (D.2 5, 3, .inr (.inr (.inr (.inr (f3 h0 h1 h2)))))), (h0, .inl (D.2 0, 16, .inl (fC S 1))), (h1, .inl (D.2 0, 16, .inl (fC S 2))), (h2, .inl (D.2 0, 16, .inl (fC S 3))), (hl0, .inl (D.2 0, 3, .inl (fLm S)))]) ⟨hx, hb, hml, hown, hts⟩ (c_X6_isDimension l D 1 (by omega)) (va_cwS 1 hts gX6_worthOf_X6_isDimension rfl rfl rfl (by decide +kernel) ⟨by simp only [zR]; omega, by simp only [zR]; omega⟩) w [] rfl (by decide) [0, 1, 2, 3, 4, 5, 6, 7, 8, 9, 10, 11, 12, 13, 14, 15] rfl (by decide) (by decide) rfl hl.1 rfl (lv_room (Nat.le_of_ble_eq_true rfl)) dX6_worthOf_1 ⟨Nat.zero_le _, Nat.zero_le _⟩ (fun r W1 H locs hp w => ?_)
  obtain ⟨rfl, rfl⟩ := hp
  have w : zW D A s.heap s [(hxo, .inr (6, [.ref ho, .ref hh, .ref hsa, .ref hsv, .ref hpd9, .ref hse, .ref hmt])), (hse, .inr (4, [.ref hlf, .ref hwb])), (hlf, .inl (D.2 0, 3, .inl (L))), (hwb, .inl (D.2 0, 17, .inl (Wb))), (ho, .inr (5, [.ref hp, .ref hbu, .ref hm, .ref hg, .int (zI (S 71)), .int (zI (S 72)), .int (zI (fSol S)), .int (zI (fSw S)), .int (zI (S 73)), .int (zI (S 74)), .long (zL (S 75))])), (hm, .inl (D.2 0, 3, .inl (fMu (mu S)))), (hg, .inl (D.2 0, 3, .inl (G))), (hbu, .inr (0, [.ref hs, .int (zI (S 77))])), (hs, .inl (D.2 0, 8, .inl (fSt S))), (hp, .inr (2, [.ref hw, .ref hz, .ref hl0, .int (zI (S 0))])), (hw, .inl (D.2 0, 16, .inl (fC S 0))), (hz, .inl (D.2 5, 3, .inr (.inr (.inr (.inr (f3 h0 h1 h2)))))), (h0, .inl (D.2 0, 16, .inl (fC S 1))), (h1, .inl (D.2 0, 16, .inl (fC S 2))), (h2, .inl (D.2 0, 16, .inl (fC S 3))), (hl0, .inl (D.2 0, 3, .inl (fLm S)))] H locs := w.sub [0, 1, 2, 3, 4, 5, 6, 7, 8, 9, 10, 11, 12, 13, 14, 15] (by decide) rfl
  refine z_if_ne_b (tgt := 9) hx hb dX6_worthOf_4 (by decide) (fun c4 => ?_) (fun c4 => ?_)
  · skip
    refine lv_iload_n hx hb dX6_worthOf_9 rfl (lv_at hl 2 rfl) ?_
    refine lv_iconst (v := zI 1) hx hb dX6_worthOf_10 rfl ?_
    refine lv_bipush (v := zI 99) hx hb dX6_worthOf_11 (by decide +kernel) ?_
    refine z_S_i (As := [.int (zI (u)), .int (zI (1)), .int (zI (99))]) (rest := []) (Wr := [(hxo, .inr (6, [.ref ho, .ref hh, .ref hsa, .ref hsv, .ref hpd9, .ref hse, .ref hmt])), (hse, .inr (4, [.ref hlf, .ref hwb])), (hlf, .inl (D.2 0, 3, .inl (L))), (hwb, .inl (D.2 0, 17, .inl (Wb))), (ho, .inr (5, [.ref hp, .ref hbu, .ref hm, .ref hg, .int (zI (S 71)), .int (zI (S 72)), .int (zI (fSol S)), .int (zI (fSw S)), .int (zI (S 73)), .int (zI (S 74)), .long (zL (S 75))])), (hm, .inl (D.2 0, 3, .inl (fMu (mu S)))), (hg, .inl (D.2 0, 3, .inl (G))), (hbu, .inr (0, [.ref hs, .int (zI (S 77))])), (hs, .inl (D.2 0, 8, .inl (fSt S))), (hp, .inr (2, [.ref hw, .ref hz, .ref hl0, .int (zI (S 0))])), (hw, .inl (D.2 0, 16, .inl (fC S 0))), (hz, .inl (D.2 5, 3, .inr (.inr (.inr (.inr (f3 h0 h1 h2)))))), (h0, .inl (D.2 0, 16, .inl (fC S 1))), (h1, .inl (D.2 0, 16, .inl (fC S 2))), (h2, .inl (D.2 0, 16, .inl (fC S 3))), (hl0, .inl (D.2 0, 3, .inl (fLm S)))]) ⟨hx, hb, hml, hown, hts⟩ (c_X6_within l D u 1 99 (by omega) (by omega) (by omega)) (va_cwS 3 hts gX6_worthOf_X6_within rfl rfl rfl (by decide +kernel) ⟨by simp only [zR]; omega, by simp only [zR]; omega⟩) w [] rfl (by decide) [0, 1, 2, 3, 4, 5, 6, 7, 8, 9, 10, 11, 12, 13, 14, 15] rfl (by decide) (by decide) rfl hl.1 rfl (lv_room (Nat.le_of_ble_eq_true rfl)) dX6_worthOf_13 ⟨Nat.zero_le _, Nat.zero_le _⟩ (fun r W1 H locs hp w => ?_)
    obtain ⟨rfl, rfl⟩ := hp
    have w : zW D A s.heap s [(hxo, .inr (6, [.ref ho, .ref hh, .ref hsa, .ref hsv, .ref hpd9, .ref hse, .ref hmt])), (hse, .inr (4, [.ref hlf, .ref hwb])), (hlf, .inl (D.2 0, 3, .inl (L))), (hwb, .inl (D.2 0, 17, .inl (Wb))), (ho, .inr (5, [.ref hp, .ref hbu, .ref hm, .ref hg, .int (zI (S 71)), .int (zI (S 72)), .int (zI (fSol S)), .int (zI (fSw S)), .int (zI (S 73)), .int (zI (S 74)), .long (zL (S 75))])), (hm, .inl (D.2 0, 3, .inl (fMu (mu S)))), (hg, .inl (D.2 0, 3, .inl (G))), (hbu, .inr (0, [.ref hs, .int (zI (S 77))])), (hs, .inl (D.2 0, 8, .inl (fSt S))), (hp, .inr (2, [.ref hw, .ref hz, .ref hl0, .int (zI (S 0))])), (hw, .inl (D.2 0, 16, .inl (fC S 0))), (hz, .inl (D.2 5, 3, .inr (.inr (.inr (.inr (f3 h0 h1 h2)))))), (h0, .inl (D.2 0, 16, .inl (fC S 1))), (h1, .inl (D.2 0, 16, .inl (fC S 2))), (h2, .inl (D.2 0, 16, .inl (fC S 3))), (hl0, .inl (D.2 0, 3, .inl (fLm S)))] H locs := w.sub [0, 1, 2, 3, 4, 5, 6, 7, 8, 9, 10, 11, 12, 13, 14, 15] (by decide) rfl
    refine z_if_ne_b (tgt := 22) hx hb dX6_worthOf_16 (by decide) (fun c16 => ?_) (fun c16 => ?_)
    · skip
      refine lv_aload_n hx hb dX6_worthOf_22 rfl (lv_at hl 0 rfl) ?_
      refine z_get hx hb hown hts w inX6 0 5 rfl rfl (by decide) f_41 rfl rfl dX6_worthOf_23 ?_
      refine lv_aload_n hx hb dX6_worthOf_26 rfl (lv_at hl 0 rfl) ?_
      refine z_get hx hb hown hts w inX6 0 0 rfl rfl (by decide) f_10 rfl rfl dX6_worthOf_27 ?_
      refine z_get hx hb hown hts w inX5 4 0 rfl rfl (by decide) f_81 rfl rfl dX6_worthOf_30 ?_
      refine lv_iload_n hx hb dX6_worthOf_33 rfl (lv_at hl 1 rfl) ?_
      refine lv_iconst (v := zI 0) hx hb dX6_worthOf_34 rfl ?_
      refine z_V_i (As := [.ref hp, .int (zI (1)), .int (zI (0))]) (rest := []) (Wr := [(hxo, .inr (6, [.ref ho, .ref hh, .ref hsa, .ref hsv, .ref hpd9, .ref hse, .ref hmt])), (ho, .inr (5, [.ref hp, .ref hbu, .ref hm, .ref hg, .int (zI (S 71)), .int (zI (S 72)), .int (zI (fSol S)), .int (zI (fSw S)), .int (zI (S 73)), .int (zI (S 74)), .long (zL (S 75))])), (hm, .inl (D.2 0, 3, .inl (fMu (mu S)))), (hg, .inl (D.2 0, 3, .inl (G))), (hbu, .inr (0, [.ref hs, .int (zI (S 77))])), (hs, .inl (D.2 0, 8, .inl (fSt S)))]) ⟨hx, hb, hml, hown, hts⟩ (c_X4_greatestWorth1 l D hse hlf hwb hp hw hz h0 h1 h2 hl0 S L Wb hokp 0 (by omega)) (cwV 3 hts gX6_worthOf_X4_greatestWorth rfl rfl rfl (by decide +kernel) ⟨by simp only [zR]; omega, by simp only [zR]; omega⟩) w (q0 := 1) rfl rfl rfl [1, 2, 3, 9, 10, 11, 12, 13, 14, 15] rfl (by decide) [0, 4, 5, 6, 7, 8] rfl (by decide) (by decide) rfl hl.1 rfl (lv_room (Nat.le_of_ble_eq_true rfl)) dX6_worthOf_35 ⟨Nat.zero_le _, Nat.zero_le _⟩ (fun r W1 H locs hp w => ?_)
      obtain ⟨rfl, L2, W2, rfl⟩ := hp
      have w : zW D A s.heap s [(hxo, .inr (6, [.ref ho, .ref hh, .ref hsa, .ref hsv, .ref hpd9, .ref hse, .ref hmt])), (hse, .inr (4, [.ref hlf, .ref hwb])), (hlf, .inl (D.2 0, 3, .inl (L2))), (hwb, .inl (D.2 0, 17, .inl (W2))), (ho, .inr (5, [.ref hp, .ref hbu, .ref hm, .ref hg, .int (zI (S 71)), .int (zI (S 72)), .int (zI (fSol S)), .int (zI (fSw S)), .int (zI (S 73)), .int (zI (S 74)), .long (zL (S 75))])), (hm, .inl (D.2 0, 3, .inl (fMu (mu S)))), (hg, .inl (D.2 0, 3, .inl (G))), (hbu, .inr (0, [.ref hs, .int (zI (S 77))])), (hs, .inl (D.2 0, 8, .inl (fSt S))), (hp, .inr (2, [.ref hw, .ref hz, .ref hl0, .int (zI (S 0))])), (hw, .inl (D.2 0, 16, .inl (fC S 0))), (hz, .inl (D.2 5, 3, .inr (.inr (.inr (.inr (f3 h0 h1 h2)))))), (h0, .inl (D.2 0, 16, .inl (fC S 1))), (h1, .inl (D.2 0, 16, .inl (fC S 2))), (h2, .inl (D.2 0, 16, .inl (fC S 3))), (hl0, .inl (D.2 0, 3, .inl (fLm S)))] H locs := w.sub [0, 6, 7, 8, 1, 2, 3, 4, 5, 9, 10, 11, 12, 13, 14, 15] (by decide) rfl
      refine lv_istore_n (lv' := [(3, .int (zI (sGr S (zn S) (sLim S 1 0) 0 0))), (0, .ref hxo), (1, .int (zI (1))), (2, .int (zI (u)))]) hx hb dX6_worthOf_38 rfl hl (by decide) rfl (fun ls hl => ?_)
      refine lv_aload_n hx hb dX6_worthOf_39 rfl (lv_at hl 1 rfl) ?_
      refine z_get hx hb hown hts w inX6 0 5 rfl rfl (by decide) f_41 rfl rfl dX6_worthOf_40 ?_
      refine lv_aload_n hx hb dX6_worthOf_43 rfl (lv_at hl 1 rfl) ?_
      refine z_get hx hb hown hts w inX6 0 0 rfl rfl (by decide) f_10 rfl rfl dX6_worthOf_44 ?_
      refine z_get hx hb hown hts w inX5 4 0 rfl rfl (by decide) f_81 rfl rfl dX6_worthOf_47 ?_
      refine lv_iload_n hx hb dX6_worthOf_50 rfl (lv_at hl 2 rfl) ?_
      refine lv_iload_n hx hb dX6_worthOf_51 rfl (lv_at hl 3 rfl) ?_
      refine z_V_i (As := [.ref hp, .int (zI (1)), .int (zI (u))]) (rest := []) (Wr := [(hxo, .inr (6, [.ref ho, .ref hh, .ref hsa, .ref hsv, .ref hpd9, .ref hse, .ref hmt])), (ho, .inr (5, [.ref hp, .ref hbu, .ref hm, .ref hg, .int (zI (S 71)), .int (zI (S 72)), .int (zI (fSol S)), .int (zI (fSw S)), .int (zI (S 73)), .int (zI (S 74)), .long (zL (S 75))])), (hm, .inl (D.2 0, 3, .inl (fMu (mu S)))), (hg, .inl (D.2 0, 3, .inl (G))), (hbu, .inr (0, [.ref hs, .int (zI (S 77))])), (hs, .inl (D.2 0, 8, .inl (fSt S)))]) ⟨hx, hb, hml, hown, hts⟩ (c_X4_greatestWorth1 l D hse hlf hwb hp hw hz h0 h1 h2 hl0 S L2 W2 hokp u (by omega)) (cwV 3 hts gX6_worthOf_X4_greatestWorth rfl rfl rfl (by decide +kernel) ⟨by simp only [zR]; omega, by simp only [zR]; omega⟩) w (q0 := 1) rfl rfl rfl [1, 2, 3, 9, 10, 11, 12, 13, 14, 15] rfl (by decide) [0, 4, 5, 6, 7, 8] rfl (by decide) (by decide) rfl hl.1 rfl (lv_room (Nat.le_of_ble_eq_true rfl)) dX6_worthOf_52 ⟨Nat.zero_le _, Nat.zero_le _⟩ (fun r W1 H locs hp w => ?_)
      obtain ⟨rfl, L2, W2, rfl⟩ := hp
      have w : zW D A s.heap s [(hxo, .inr (6, [.ref ho, .ref hh, .ref hsa, .ref hsv, .ref hpd9, .ref hse, .ref hmt])), (hse, .inr (4, [.ref hlf, .ref hwb])), (hlf, .inl (D.2 0, 3, .inl (L2))), (hwb, .inl (D.2 0, 17, .inl (W2))), (ho, .inr (5, [.ref hp, .ref hbu, .ref hm, .ref hg, .int (zI (S 71)), .int (zI (S 72)), .int (zI (fSol S)), .int (zI (fSw S)), .int (zI (S 73)), .int (zI (S 74)), .long (zL (S 75))])), (hm, .inl (D.2 0, 3, .inl (fMu (mu S)))), (hg, .inl (D.2 0, 3, .inl (G))), (hbu, .inr (0, [.ref hs, .int (zI (S 77))])), (hs, .inl (D.2 0, 8, .inl (fSt S))), (hp, .inr (2, [.ref hw, .ref hz, .ref hl0, .int (zI (S 0))])), (hw, .inl (D.2 0, 16, .inl (fC S 0))), (hz, .inl (D.2 5, 3, .inr (.inr (.inr (.inr (f3 h0 h1 h2)))))), (h0, .inl (D.2 0, 16, .inl (fC S 1))), (h1, .inl (D.2 0, 16, .inl (fC S 2))), (h2, .inl (D.2 0, 16, .inl (fC S 3))), (hl0, .inl (D.2 0, 3, .inl (fLm S)))] H locs := w.sub [0, 6, 7, 8, 1, 2, 3, 4, 5, 9, 10, 11, 12, 13, 14, 15] (by decide) rfl
      refine lv_iload_n hx hb dX6_worthOf_55 rfl (lv_at hl 0 rfl) ?_
      refine z_isub hx hb dX6_worthOf_56 ?_
      exact z_iret hx hb hr hlocks w dX6_worthOf_57 ⟨by rw [if_pos c16], _, _, rfl⟩
    · skip
      refine lv_bipush (v := zI (-2)) hx hb dX6_worthOf_19 (by decide +kernel) ?_
      exact z_iret hx hb hr hlocks w dX6_worthOf_21 ⟨by rw [if_neg c16], _, _, rfl⟩
  · skip
    exact absurd (show (0 : Int) ≤ 1 ∧ (1 : Int) ≤ 2 by omega) c4
set_option maxHeartbeats 6000000 in
set_option maxRecDepth 100000 in
theorem c_X6_worthOf2 (l : Launch) (D : zD) (hlf hwb hxo ho hm hg hbu hs hp hw hz h0 h1 h2 hl0 hh hsa hsv hpd9 hse hmt : Nat) (S : Nat → Int) (G : Nat → Int32) (L Wb : Nat → Int32) (B : Int) (hB : B ≤ 1900000000) (hok : OkS B S) (u : Int) (hu : zB u) : zM l yX6_worthOf wsX6_worthOf (zR (26)) zE0 D [.ref hxo, .int (zI (2)), .int (zI (u))] ((hxo, .inr (6, [.ref ho, .ref hh, .ref hsa, .ref hsv, .ref hpd9, .ref hse, .ref hmt])) :: (wSe D hse hlf hwb L Wb ++ (wSt D ho hm hg hbu hs hp hw hz h0 h1 h2 hl0 S G))) (zQi D (fun r W1 => r = zI (if 1 ≤ u ∧ u ≤ 99 then sGr S (zn S) (sLim S 2 u) 0 0 - sGr S (zn S) (sLim S 2 0) 0 0 else -2) ∧ ∃ L2 W2 : Nat → Int32, W1 = ((hxo, .inr (6, [.ref ho, .ref hh, .ref hsa, .ref hsv, .ref hpd9, .ref hse, .ref hmt])) :: (wSe D hse hlf hwb L2 W2 ++ (wSt D ho hm hg hbu hs hp hw hz h0 h1 h2 hl0 S G))))) := by
  refine zM.of (cc := cX6_worthOf) (maxL := 4) (ret := (some .int)) (by decide) rfl (Nat.le_of_ble_eq_true rfl) ?_
  intro p e s m below meth c A hx hb hml hown hts hr hlocks hE hnm w ls hl
  have hown : s.vm.findClass RX6 = some m.cls := hown
  have hl : lv_has ls 4 [(0, .ref hxo), (1, .int (zI (2))), (2, .int (zI (u)))] := hl
  have f_41 : (Cond.fieldLink RX6 41 "RelaxedSteps" "search" "LRelaxedSteps$Search;").before _ s = true := hts _ (by decide +kernel)
  have f_10 : (Cond.fieldLink RX6 10 "RelaxedSteps" "now" "LRelaxedSteps$State;").before _ s = true := hts _ (by decide +kernel)
  have f_81 : (Cond.fieldLink RX6 81 "RelaxedSteps$State" "packing" "LRelaxedSteps$Packing;").before _ s = true := hts _ (by decide +kernel)
  have inX6 : ∀ w ∈ u_ws RX6 TX6 7, w ∈ wsX6_worthOf := by decide +kernel
  have inX5 : ∀ w ∈ u_ws RX5 TX5 11, w ∈ wsX6_worthOf := by decide +kernel
  obtain ⟨hokp, hokm, hokb, hsc, hbe⟩ := id hok
  have hn := zn_eq hokp
  have h16 := zn_le hokp
  have hlim := hokp.2.2
  have hm1 := hokm
  unfold OkM mu at hm1
  have hsw := fSw_b hok
  have hso := fSol_b hok
  have hhu := sHu_b hok
  have hbd := sBd_b hokp hokm
  have hkb := hokb.1
  have hqq := hokp.1
  have hrl := sRel_16 (M := mu S) hokp
  have hbw := sBw_b hokp
  have hfe := fSw_b hok
  have w : zW D A s.heap s [(hxo, .inr (6, [.ref ho, .ref hh, .ref hsa, .ref hsv, .ref hpd9, .ref hse, .ref hmt])), (hse, .inr (4, [.ref hlf, .ref hwb])), (hlf, .inl (D.2 0, 3, .inl (L))), (hwb, .inl (D.2 0, 17, .inl (Wb))), (ho, .inr (5, [.ref hp, .ref hbu, .ref hm, .ref hg, .int (zI (S 71)), .int (zI (S 72)), .int (zI (fSol S)), .int (zI (fSw S)), .int (zI (S 73)), .int (zI (S 74)), .long (zL (S 75))])), (hm, .inl (D.2 0, 3, .inl (fMu (mu S)))), (hg, .inl (D.2 0, 3, .inl (G))), (hbu, .inr (0, [.ref hs, .int (zI (S 77))])), (hs, .inl (D.2 0, 8, .inl (fSt S))), (hp, .inr (2, [.ref hw, .ref hz, .ref hl0, .int (zI (S 0))])), (hw, .inl (D.2 0, 16, .inl (fC S 0))), (hz, .inl (D.2 5, 3, .inr (.inr (.inr (.inr (f3 h0 h1 h2)))))), (h0, .inl (D.2 0, 16, .inl (fC S 1))), (h1, .inl (D.2 0, 16, .inl (fC S 2))), (h2, .inl (D.2 0, 16, .inl (fC S 3))), (hl0, .inl (D.2 0, 3, .inl (fLm S)))] s.heap [] := w
  refine lv_iload_n hx hb dX6_worthOf_0 rfl (lv_at hl 1 rfl) ?_
  refine z_S_i (As := [.int (zI (2))]) (rest := []) (Wr := [(hxo, .inr (6, [.ref ho, .ref hh, .ref hsa, .ref hsv, .ref hpd9, .ref hse, .ref hmt])), (hse, .inr (4, [.ref hlf, .ref hwb])), (hlf, .inl (D.2 0, 3, .inl (L))), (hwb, .inl (D.2 0, 17, .inl (Wb))), (ho, .inr (5, [.ref hp, .ref hbu, .ref hm, .ref hg, .int (zI (S 71)), .int (zI (S 72)), .int (zI (fSol S)), .int (zI (fSw S)), .int (zI (S 73)), .int (zI (S 74)), .long (zL (S 75))])), (hm, .inl (D.2 0, 3, .inl (fMu (mu S)))), (hg, .inl (D.2 0, 3, .inl (G))), (hbu, .inr (0, [.ref hs, .int (zI (S 77))])), (hs, .inl (D.2 0, 8, .inl (fSt S))), (hp, .inr (2, [.ref hw, .ref hz, .ref hl0, .int (zI (S 0))])), (hw, .inl (D.2 0, 16, .inl (fC S 0))), (hz, .inl (D.2 5, 3, .inr (.inr (.inr (.inr (f3 h0 h1 h2)))))), (h0, .inl (D.2 0, 16, .inl (fC S 1))), (h1, .inl (D.2 0, 16, .inl (fC S 2))), (h2, .inl (D.2 0, 16, .inl (fC S 3))), (hl0, .inl (D.2 0, 3, .inl (fLm S)))]) ⟨hx, hb, hml, hown, hts⟩ (c_X6_isDimension l D 2 (by omega)) (va_cwS 1 hts gX6_worthOf_X6_isDimension rfl rfl rfl (by decide +kernel) ⟨by simp only [zR]; omega, by simp only [zR]; omega⟩) w [] rfl (by decide) [0, 1, 2, 3, 4, 5, 6, 7, 8, 9, 10, 11, 12, 13, 14, 15] rfl (by decide) (by decide) rfl hl.1 rfl (lv_room (Nat.le_of_ble_eq_true rfl)) dX6_worthOf_1 ⟨Nat.zero_le _, Nat.zero_le _⟩ (fun r W1 H locs hp w => ?_)
  obtain ⟨rfl, rfl⟩ := hp
  have w : zW D A s.heap s [(hxo, .inr (6, [.ref ho, .ref hh, .ref hsa, .ref hsv, .ref hpd9, .ref hse, .ref hmt])), (hse, .inr (4, [.ref hlf, .ref hwb])), (hlf, .inl (D.2 0, 3, .inl (L))), (hwb, .inl (D.2 0, 17, .inl (Wb))), (ho, .inr (5, [.ref hp, .ref hbu, .ref hm, .ref hg, .int (zI (S 71)), .int (zI (S 72)), .int (zI (fSol S)), .int (zI (fSw S)), .int (zI (S 73)), .int (zI (S 74)), .long (zL (S 75))])), (hm, .inl (D.2 0, 3, .inl (fMu (mu S)))), (hg, .inl (D.2 0, 3, .inl (G))), (hbu, .inr (0, [.ref hs, .int (zI (S 77))])), (hs, .inl (D.2 0, 8, .inl (fSt S))), (hp, .inr (2, [.ref hw, .ref hz, .ref hl0, .int (zI (S 0))])), (hw, .inl (D.2 0, 16, .inl (fC S 0))), (hz, .inl (D.2 5, 3, .inr (.inr (.inr (.inr (f3 h0 h1 h2)))))), (h0, .inl (D.2 0, 16, .inl (fC S 1))), (h1, .inl (D.2 0, 16, .inl (fC S 2))), (h2, .inl (D.2 0, 16, .inl (fC S 3))), (hl0, .inl (D.2 0, 3, .inl (fLm S)))] H locs := w.sub [0, 1, 2, 3, 4, 5, 6, 7, 8, 9, 10, 11, 12, 13, 14, 15] (by decide) rfl
  refine z_if_ne_b (tgt := 9) hx hb dX6_worthOf_4 (by decide) (fun c4 => ?_) (fun c4 => ?_)
  · skip
    refine lv_iload_n hx hb dX6_worthOf_9 rfl (lv_at hl 2 rfl) ?_
    refine lv_iconst (v := zI 1) hx hb dX6_worthOf_10 rfl ?_
    refine lv_bipush (v := zI 99) hx hb dX6_worthOf_11 (by decide +kernel) ?_
    refine z_S_i (As := [.int (zI (u)), .int (zI (1)), .int (zI (99))]) (rest := []) (Wr := [(hxo, .inr (6, [.ref ho, .ref hh, .ref hsa, .ref hsv, .ref hpd9, .ref hse, .ref hmt])), (hse, .inr (4, [.ref hlf, .ref hwb])), (hlf, .inl (D.2 0, 3, .inl (L))), (hwb, .inl (D.2 0, 17, .inl (Wb))), (ho, .inr (5, [.ref hp, .ref hbu, .ref hm, .ref hg, .int (zI (S 71)), .int (zI (S 72)), .int (zI (fSol S)), .int (zI (fSw S)), .int (zI (S 73)), .int (zI (S 74)), .long (zL (S 75))])), (hm, .inl (D.2 0, 3, .inl (fMu (mu S)))), (hg, .inl (D.2 0, 3, .inl (G))), (hbu, .inr (0, [.ref hs, .int (zI (S 77))])), (hs, .inl (D.2 0, 8, .inl (fSt S))), (hp, .inr (2, [.ref hw, .ref hz, .ref hl0, .int (zI (S 0))])), (hw, .inl (D.2 0, 16, .inl (fC S 0))), (hz, .inl (D.2 5, 3, .inr (.inr (.inr (.inr (f3 h0 h1 h2)))))), (h0, .inl (D.2 0, 16, .inl (fC S 1))), (h1, .inl (D.2 0, 16, .inl (fC S 2))), (h2, .inl (D.2 0, 16, .inl (fC S 3))), (hl0, .inl (D.2 0, 3, .inl (fLm S)))]) ⟨hx, hb, hml, hown, hts⟩ (c_X6_within l D u 1 99 (by omega) (by omega) (by omega)) (va_cwS 3 hts gX6_worthOf_X6_within rfl rfl rfl (by decide +kernel) ⟨by simp only [zR]; omega, by simp only [zR]; omega⟩) w [] rfl (by decide) [0, 1, 2, 3, 4, 5, 6, 7, 8, 9, 10, 11, 12, 13, 14, 15] rfl (by decide) (by decide) rfl hl.1 rfl (lv_room (Nat.le_of_ble_eq_true rfl)) dX6_worthOf_13 ⟨Nat.zero_le _, Nat.zero_le _⟩ (fun r W1 H locs hp w => ?_)
    obtain ⟨rfl, rfl⟩ := hp
    have w : zW D A s.heap s [(hxo, .inr (6, [.ref ho, .ref hh, .ref hsa, .ref hsv, .ref hpd9, .ref hse, .ref hmt])), (hse, .inr (4, [.ref hlf, .ref hwb])), (hlf, .inl (D.2 0, 3, .inl (L))), (hwb, .inl (D.2 0, 17, .inl (Wb))), (ho, .inr (5, [.ref hp, .ref hbu, .ref hm, .ref hg, .int (zI (S 71)), .int (zI (S 72)), .int (zI (fSol S)), .int (zI (fSw S)), .int (zI (S 73)), .int (zI (S 74)), .long (zL (S 75))])), (hm, .inl (D.2 0, 3, .inl (fMu (mu S)))), (hg, .inl (D.2 0, 3, .inl (G))), (hbu, .inr (0, [.ref hs, .int (zI (S 77))])), (hs, .inl (D.2 0, 8, .inl (fSt S))), (hp, .inr (2, [.ref hw, .ref hz, .ref hl0, .int (zI (S 0))])), (hw, .inl (D.2 0, 16, .inl (fC S 0))), (hz, .inl (D.2 5, 3, .inr (.inr (.inr (.inr (f3 h0 h1 h2)))))), (h0, .inl (D.2 0, 16, .inl (fC S 1))), (h1, .inl (D.2 0, 16, .inl (fC S 2))), (h2, .inl (D.2 0, 16, .inl (fC S 3))), (hl0, .inl (D.2 0, 3, .inl (fLm S)))] H locs := w.sub [0, 1, 2, 3, 4, 5, 6, 7, 8, 9, 10, 11, 12, 13, 14, 15] (by decide) rfl
    refine z_if_ne_b (tgt := 22) hx hb dX6_worthOf_16 (by decide) (fun c16 => ?_) (fun c16 => ?_)
    · skip
      refine lv_aload_n hx hb dX6_worthOf_22 rfl (lv_at hl 0 rfl) ?_
      refine z_get hx hb hown hts w inX6 0 5 rfl rfl (by decide) f_41 rfl rfl dX6_worthOf_23 ?_
      refine lv_aload_n hx hb dX6_worthOf_26 rfl (lv_at hl 0 rfl) ?_
      refine z_get hx hb hown hts w inX6 0 0 rfl rfl (by decide) f_10 rfl rfl dX6_worthOf_27 ?_
      refine z_get hx hb hown hts w inX5 4 0 rfl rfl (by decide) f_81 rfl rfl dX6_worthOf_30 ?_
      refine lv_iload_n hx hb dX6_worthOf_33 rfl (lv_at hl 1 rfl) ?_
      refine lv_iconst (v := zI 0) hx hb dX6_worthOf_34 rfl ?_
      refine z_V_i (As := [.ref hp, .int (zI (2)), .int (zI (0))]) (rest := []) (Wr := [(hxo, .inr (6, [.ref ho, .ref hh, .ref hsa, .ref hsv, .ref hpd9, .ref hse, .ref hmt])), (ho, .inr (5, [.ref hp, .ref hbu, .ref hm, .ref hg, .int (zI (S 71)), .int (zI (S 72)), .int (zI (fSol S)), .int (zI (fSw S)), .int (zI (S 73)), .int (zI (S 74)), .long (zL (S 75))])), (hm, .inl (D.2 0, 3, .inl (fMu (mu S)))), (hg, .inl (D.2 0, 3, .inl (G))), (hbu, .inr (0, [.ref hs, .int (zI (S 77))])), (hs, .inl (D.2 0, 8, .inl (fSt S)))]) ⟨hx, hb, hml, hown, hts⟩ (c_X4_greatestWorth2 l D hse hlf hwb hp hw hz h0 h1 h2 hl0 S L Wb hokp 0 (by omega)) (cwV 3 hts gX6_worthOf_X4_greatestWorth rfl rfl rfl (by decide +kernel) ⟨by simp only [zR]; omega, by simp only [zR]; omega⟩) w (q0 := 1) rfl rfl rfl [1, 2, 3, 9, 10, 11, 12, 13, 14, 15] rfl (by decide) [0, 4, 5, 6, 7, 8] rfl (by decide) (by decide) rfl hl.1 rfl (lv_room (Nat.le_of_ble_eq_true rfl)) dX6_worthOf_35 ⟨Nat.zero_le _, Nat.zero_le _⟩ (fun r W1 H locs hp w => ?_)
      obtain ⟨rfl, L2, W2, rfl⟩ := hp
      have w : zW D A s.heap s [(hxo, .inr (6, [.ref ho, .ref hh, .ref hsa, .ref hsv, .ref hpd9, .ref hse, .ref hmt])), (hse, .inr (4, [.ref hlf, .ref hwb])), (hlf, .inl (D.2 0, 3, .inl (L2))), (hwb, .inl (D.2 0, 17, .inl (W2))), (ho, .inr (5, [.ref hp, .ref hbu, .ref hm, .ref hg, .int (zI (S 71)), .int (zI (S 72)), .int (zI (fSol S)), .int (zI (fSw S)), .int (zI (S 73)), .int (zI (S 74)), .long (zL (S 75))])), (hm, .inl (D.2 0, 3, .inl (fMu (mu S)))), (hg, .inl (D.2 0, 3, .inl (G))), (hbu, .inr (0, [.ref hs, .int (zI (S 77))])), (hs, .inl (D.2 0, 8, .inl (fSt S))), (hp, .inr (2, [.ref hw, .ref hz, .ref hl0, .int (zI (S 0))])), (hw, .inl (D.2 0, 16, .inl (fC S 0))), (hz, .inl (D.2 5, 3, .inr (.inr (.inr (.inr (f3 h0 h1 h2)))))), (h0, .inl (D.2 0, 16, .inl (fC S 1))), (h1, .inl (D.2 0, 16, .inl (fC S 2))), (h2, .inl (D.2 0, 16, .inl (fC S 3))), (hl0, .inl (D.2 0, 3, .inl (fLm S)))] H locs := w.sub [0, 6, 7, 8, 1, 2, 3, 4, 5, 9, 10, 11, 12, 13, 14, 15] (by decide) rfl
      refine lv_istore_n (lv' := [(3, .int (zI (sGr S (zn S) (sLim S 2 0) 0 0))), (0, .ref hxo), (1, .int (zI (2))), (2, .int (zI (u)))]) hx hb dX6_worthOf_38 rfl hl (by decide) rfl (fun ls hl => ?_)
      refine lv_aload_n hx hb dX6_worthOf_39 rfl (lv_at hl 1 rfl) ?_
      refine z_get hx hb hown hts w inX6 0 5 rfl rfl (by decide) f_41 rfl rfl dX6_worthOf_40 ?_
      refine lv_aload_n hx hb dX6_worthOf_43 rfl (lv_at hl 1 rfl) ?_
      refine z_get hx hb hown hts w inX6 0 0 rfl rfl (by decide) f_10 rfl rfl dX6_worthOf_44 ?_
      refine z_get hx hb hown hts w inX5 4 0 rfl rfl (by decide) f_81 rfl rfl dX6_worthOf_47 ?_
      refine lv_iload_n hx hb dX6_worthOf_50 rfl (lv_at hl 2 rfl) ?_
      refine lv_iload_n hx hb dX6_worthOf_51 rfl (lv_at hl 3 rfl) ?_
      refine z_V_i (As := [.ref hp, .int (zI (2)), .int (zI (u))]) (rest := []) (Wr := [(hxo, .inr (6, [.ref ho, .ref hh, .ref hsa, .ref hsv, .ref hpd9, .ref hse, .ref hmt])), (ho, .inr (5, [.ref hp, .ref hbu, .ref hm, .ref hg, .int (zI (S 71)), .int (zI (S 72)), .int (zI (fSol S)), .int (zI (fSw S)), .int (zI (S 73)), .int (zI (S 74)), .long (zL (S 75))])), (hm, .inl (D.2 0, 3, .inl (fMu (mu S)))), (hg, .inl (D.2 0, 3, .inl (G))), (hbu, .inr (0, [.ref hs, .int (zI (S 77))])), (hs, .inl (D.2 0, 8, .inl (fSt S)))]) ⟨hx, hb, hml, hown, hts⟩ (c_X4_greatestWorth2 l D hse hlf hwb hp hw hz h0 h1 h2 hl0 S L2 W2 hokp u (by omega)) (cwV 3 hts gX6_worthOf_X4_greatestWorth rfl rfl rfl (by decide +kernel) ⟨by simp only [zR]; omega, by simp only [zR]; omega⟩) w (q0 := 1) rfl rfl rfl [1, 2, 3, 9, 10, 11, 12, 13, 14, 15] rfl (by decide) [0, 4, 5, 6, 7, 8] rfl (by decide) (by decide) rfl hl.1 rfl (lv_room (Nat.le_of_ble_eq_true rfl)) dX6_worthOf_52 ⟨Nat.zero_le _, Nat.zero_le _⟩ (fun r W1 H locs hp w => ?_)
      obtain ⟨rfl, L2, W2, rfl⟩ := hp
      have w : zW D A s.heap s [(hxo, .inr (6, [.ref ho, .ref hh, .ref hsa, .ref hsv, .ref hpd9, .ref hse, .ref hmt])), (hse, .inr (4, [.ref hlf, .ref hwb])), (hlf, .inl (D.2 0, 3, .inl (L2))), (hwb, .inl (D.2 0, 17, .inl (W2))), (ho, .inr (5, [.ref hp, .ref hbu, .ref hm, .ref hg, .int (zI (S 71)), .int (zI (S 72)), .int (zI (fSol S)), .int (zI (fSw S)), .int (zI (S 73)), .int (zI (S 74)), .long (zL (S 75))])), (hm, .inl (D.2 0, 3, .inl (fMu (mu S)))), (hg, .inl (D.2 0, 3, .inl (G))), (hbu, .inr (0, [.ref hs, .int (zI (S 77))])), (hs, .inl (D.2 0, 8, .inl (fSt S))), (hp, .inr (2, [.ref hw, .ref hz, .ref hl0, .int (zI (S 0))])), (hw, .inl (D.2 0, 16, .inl (fC S 0))), (hz, .inl (D.2 5, 3, .inr (.inr (.inr (.inr (f3 h0 h1 h2)))))), (h0, .inl (D.2 0, 16, .inl (fC S 1))), (h1, .inl (D.2 0, 16, .inl (fC S 2))), (h2, .inl (D.2 0, 16, .inl (fC S 3))), (hl0, .inl (D.2 0, 3, .inl (fLm S)))] H locs := w.sub [0, 6, 7, 8, 1, 2, 3, 4, 5, 9, 10, 11, 12, 13, 14, 15] (by decide) rfl
      refine lv_iload_n hx hb dX6_worthOf_55 rfl (lv_at hl 0 rfl) ?_
      refine z_isub hx hb dX6_worthOf_56 ?_
      exact z_iret hx hb hr hlocks w dX6_worthOf_57 ⟨by rw [if_pos c16], _, _, rfl⟩
    · skip
      refine lv_bipush (v := zI (-2)) hx hb dX6_worthOf_19 (by decide +kernel) ?_
      exact z_iret hx hb hr hlocks w dX6_worthOf_21 ⟨by rw [if_neg c16], _, _, rfl⟩
  · skip
    exact absurd (show (0 : Int) ≤ 2 ∧ (2 : Int) ≤ 2 by omega) c4
set_option maxHeartbeats 6000000 in
set_option maxRecDepth 100000 in
theorem c_X6_worthOfN (l : Launch) (D : zD) (hlf hwb hxo ho hm hg hbu hs hp hw hz h0 h1 h2 hl0 hh hsa hsv hpd9 hse hmt : Nat) (S : Nat → Int) (G : Nat → Int32) (L Wb : Nat → Int32) (B : Int) (hB : B ≤ 1900000000) (hok : OkS B S) (d0 u : Int) (hd0 : zB d0) (hno : ¬ (0 ≤ d0 ∧ d0 ≤ 2)) : zM l yX6_worthOf wsX6_worthOf (zR (26)) zE0 D [.ref hxo, .int (zI (d0)), .int (zI (u))] ((hxo, .inr (6, [.ref ho, .ref hh, .ref hsa, .ref hsv, .ref hpd9, .ref hse, .ref hmt])) :: (wSe D hse hlf hwb L Wb ++ (wSt D ho hm hg hbu hs hp hw hz h0 h1 h2 hl0 S G))) (zQi D (fun r W1 => r = zI (-1) ∧ ∃ L2 W2 : Nat → Int32, W1 = ((hxo, .inr (6, [.ref ho, .ref hh, .ref hsa, .ref hsv, .ref hpd9, .ref hse, .ref hmt])) :: (wSe D hse hlf hwb L2 W2 ++ (wSt D ho hm hg hbu hs hp hw hz h0 h1 h2 hl0 S G))))) := by
  refine zM.of (cc := cX6_worthOf) (maxL := 4) (ret := (some .int)) (by decide) rfl (Nat.le_of_ble_eq_true rfl) ?_
  intro p e s m below meth c A hx hb hml hown hts hr hlocks hE hnm w ls hl
  have hown : s.vm.findClass RX6 = some m.cls := hown
  have hl : lv_has ls 4 [(0, .ref hxo), (1, .int (zI (d0))), (2, .int (zI (u)))] := hl
  obtain ⟨hokp, hokm, hokb, hsc, hbe⟩ := id hok
  have hn := zn_eq hokp
  have h16 := zn_le hokp
  have hlim := hokp.2.2
  have hm1 := hokm
  unfold OkM mu at hm1
  have hsw := fSw_b hok
  have hso := fSol_b hok
  have hhu := sHu_b hok
  have hbd := sBd_b hokp hokm
  have hkb := hokb.1
  have hqq := hokp.1
  have hrl := sRel_16 (M := mu S) hokp
  have hbw := sBw_b hokp
  have hfe := fSw_b hok
  have w : zW D A s.heap s [(hxo, .inr (6, [.ref ho, .ref hh, .ref hsa, .ref hsv, .ref hpd9, .ref hse, .ref hmt])), (hse, .inr (4, [.ref hlf, .ref hwb])), (hlf, .inl (D.2 0, 3, .inl (L))), (hwb, .inl (D.2 0, 17, .inl (Wb))), (ho, .inr (5, [.ref hp, .ref hbu, .ref hm, .ref hg, .int (zI (S 71)), .int (zI (S 72)), .int (zI (fSol S)), .int (zI (fSw S)), .int (zI (S 73)), .int (zI (S 74)), .long (zL (S 75))])), (hm, .inl (D.2 0, 3, .inl (fMu (mu S)))), (hg, .inl (D.2 0, 3, .inl (G))), (hbu, .inr (0, [.ref hs, .int (zI (S 77))])), (hs, .inl (D.2 0, 8, .inl (fSt S))), (hp, .inr (2, [.ref hw, .ref hz, .ref hl0, .int (zI (S 0))])), (hw, .inl (D.2 0, 16, .inl (fC S 0))), (hz, .inl (D.2 5, 3, .inr (.inr (.inr (.inr (f3 h0 h1 h2)))))), (h0, .inl (D.2 0, 16, .inl (fC S 1))), (h1, .inl (D.2 0, 16, .inl (fC S 2))), (h2, .inl (D.2 0, 16, .inl (fC S 3))), (hl0, .inl (D.2 0, 3, .inl (fLm S)))] s.heap [] := w
  refine lv_iload_n hx hb dX6_worthOf_0 rfl (lv_at hl 1 rfl) ?_
  refine z_S_i (As := [.int (zI (d0))]) (rest := []) (Wr := [(hxo, .inr (6, [.ref ho, .ref hh, .ref hsa, .ref hsv, .ref hpd9, .ref hse, .ref hmt])), (hse, .inr (4, [.ref hlf, .ref hwb])), (hlf, .inl (D.2 0, 3, .inl (L))), (hwb, .inl (D.2 0, 17, .inl (Wb))), (ho, .inr (5, [.ref hp, .ref hbu, .ref hm, .ref hg, .int (zI (S 71)), .int (zI (S 72)), .int (zI (fSol S)), .int (zI (fSw S)), .int (zI (S 73)), .int (zI (S 74)), .long (zL (S 75))])), (hm, .inl (D.2 0, 3, .inl (fMu (mu S)))), (hg, .inl (D.2 0, 3, .inl (G))), (hbu, .inr (0, [.ref hs, .int (zI (S 77))])), (hs, .inl (D.2 0, 8, .inl (fSt S))), (hp, .inr (2, [.ref hw, .ref hz, .ref hl0, .int (zI (S 0))])), (hw, .inl (D.2 0, 16, .inl (fC S 0))), (hz, .inl (D.2 5, 3, .inr (.inr (.inr (.inr (f3 h0 h1 h2)))))), (h0, .inl (D.2 0, 16, .inl (fC S 1))), (h1, .inl (D.2 0, 16, .inl (fC S 2))), (h2, .inl (D.2 0, 16, .inl (fC S 3))), (hl0, .inl (D.2 0, 3, .inl (fLm S)))]) ⟨hx, hb, hml, hown, hts⟩ (c_X6_isDimension l D d0 (by omega)) (va_cwS 1 hts gX6_worthOf_X6_isDimension rfl rfl rfl (by decide +kernel) ⟨by simp only [zR]; omega, by simp only [zR]; omega⟩) w [] rfl (by decide) [0, 1, 2, 3, 4, 5, 6, 7, 8, 9, 10, 11, 12, 13, 14, 15] rfl (by decide) (by decide) rfl hl.1 rfl (lv_room (Nat.le_of_ble_eq_true rfl)) dX6_worthOf_1 ⟨Nat.zero_le _, Nat.zero_le _⟩ (fun r W1 H locs hp w => ?_)
  obtain ⟨rfl, rfl⟩ := hp
  have w : zW D A s.heap s [(hxo, .inr (6, [.ref ho, .ref hh, .ref hsa, .ref hsv, .ref hpd9, .ref hse, .ref hmt])), (hse, .inr (4, [.ref hlf, .ref hwb])), (hlf, .inl (D.2 0, 3, .inl (L))), (hwb, .inl (D.2 0, 17, .inl (Wb))), (ho, .inr (5, [.ref hp, .ref hbu, .ref hm, .ref hg, .int (zI (S 71)), .int (zI (S 72)), .int (zI (fSol S)), .int (zI (fSw S)), .int (zI (S 73)), .int (zI (S 74)), .long (zL (S 75))])), (hm, .inl (D.2 0, 3, .inl (fMu (mu S)))), (hg, .inl (D.2 0, 3, .inl (G))), (hbu, .inr (0, [.ref hs, .int (zI (S 77))])), (hs, .inl (D.2 0, 8, .inl (fSt S))), (hp, .inr (2, [.ref hw, .ref hz, .ref hl0, .int (zI (S 0))])), (hw, .inl (D.2 0, 16, .inl (fC S 0))), (hz, .inl (D.2 5, 3, .inr (.inr (.inr (.inr (f3 h0 h1 h2)))))), (h0, .inl (D.2 0, 16, .inl (fC S 1))), (h1, .inl (D.2 0, 16, .inl (fC S 2))), (h2, .inl (D.2 0, 16, .inl (fC S 3))), (hl0, .inl (D.2 0, 3, .inl (fLm S)))] H locs := w.sub [0, 1, 2, 3, 4, 5, 6, 7, 8, 9, 10, 11, 12, 13, 14, 15] (by decide) rfl
  refine z_if_ne_b (tgt := 9) hx hb dX6_worthOf_4 (by decide) (fun c4 => ?_) (fun c4 => ?_)
  · skip
    exact absurd c4 hno
  · skip
    refine lv_iconst (v := zI (-1)) hx hb dX6_worthOf_7 rfl ?_
    exact z_iret hx hb hr hlocks w dX6_worthOf_8 ⟨rfl, _, _, rfl⟩
set_option maxHeartbeats 6000000 in
set_option maxRecDepth 100000 in
theorem c_X6_repaired (l : Launch) (D : zD) (hxo ho hm hg hbu hs hp hw hz h0 h1 h2 hl0 hh hsa hsv hpd9 hse hmt : Nat) (S : Nat → Int) (G : Nat → Int32) (B : Int) (hB : B ≤ 1900000000) (hok : OkS B S) (s0 : Int) (hs0 : zB s0) : zM l yX6_repaired wsX6_repaired (zR (5)) zE0 D [.ref hxo, .int (zI (s0))] ((hxo, .inr (6, [.ref ho, .ref hh, .ref hsa, .ref hsv, .ref hpd9, .ref hse, .ref hmt])) :: (wSt D ho hm hg hbu hs hp hw hz h0 h1 h2 hl0 S G)) (zQi D (fun r W1 => r = zI (qRep S s0) ∧ W1 = ((hxo, .inr (6, [.ref ho, .ref hh, .ref hsa, .ref hsv, .ref hpd9, .ref hse, .ref hmt])) :: (wSt D ho hm hg hbu hs hp hw hz h0 h1 h2 hl0 S G)))) := by
  refine zM.of (cc := cX6_repaired) (maxL := 2) (ret := (some .int)) (by decide) rfl (Nat.le_of_ble_eq_true rfl) ?_
  intro p e s m below meth c A hx hb hml hown hts hr hlocks hE hnm w ls hl
  have hown : s.vm.findClass RX6 = some m.cls := hown
  have hl : lv_has ls 2 [(0, .ref hxo), (1, .int (zI (s0)))] := hl
  have f_10 : (Cond.fieldLink RX6 10 "RelaxedSteps" "now" "LRelaxedSteps$State;").before _ s = true := hts _ (by decide +kernel)
  have f_81 : (Cond.fieldLink RX6 81 "RelaxedSteps$State" "packing" "LRelaxedSteps$Packing;").before _ s = true := hts _ (by decide +kernel)
  have inX6 : ∀ w ∈ u_ws RX6 TX6 7, w ∈ wsX6_repaired := by decide +kernel
  have inX5 : ∀ w ∈ u_ws RX5 TX5 11, w ∈ wsX6_repaired := by decide +kernel
  obtain ⟨hokp, hokm, hokb, hsc, hbe⟩ := id hok
  have hn := zn_eq hokp
  have h16 := zn_le hokp
  have hlim := hokp.2.2
  have hm1 := hokm
  unfold OkM mu at hm1
  have hsw := fSw_b hok
  have hso := fSol_b hok
  have hhu := sHu_b hok
  have hbd := sBd_b hokp hokm
  have hkb := hokb.1
  have hqq := hokp.1
  have hrl := sRel_16 (M := mu S) hokp
  have hbw := sBw_b hokp
  have hfe := fSw_b hok
  have w : zW D A s.heap s [(hxo, .inr (6, [.ref ho, .ref hh, .ref hsa, .ref hsv, .ref hpd9, .ref hse, .ref hmt])), (ho, .inr (5, [.ref hp, .ref hbu, .ref hm, .ref hg, .int (zI (S 71)), .int (zI (S 72)), .int (zI (fSol S)), .int (zI (fSw S)), .int (zI (S 73)), .int (zI (S 74)), .long (zL (S 75))])), (hm, .inl (D.2 0, 3, .inl (fMu (mu S)))), (hg, .inl (D.2 0, 3, .inl (G))), (hbu, .inr (0, [.ref hs, .int (zI (S 77))])), (hs, .inl (D.2 0, 8, .inl (fSt S))), (hp, .inr (2, [.ref hw, .ref hz, .ref hl0, .int (zI (S 0))])), (hw, .inl (D.2 0, 16, .inl (fC S 0))), (hz, .inl (D.2 5, 3, .inr (.inr (.inr (.inr (f3 h0 h1 h2)))))), (h0, .inl (D.2 0, 16, .inl (fC S 1))), (h1, .inl (D.2 0, 16, .inl (fC S 2))), (h2, .inl (D.2 0, 16, .inl (fC S 3))), (hl0, .inl (D.2 0, 3, .inl (fLm S)))] s.heap [] := w
  refine lv_iload_n hx hb dX6_repaired_0 rfl (lv_at hl 1 rfl) ?_
  refine z_if_ge (tgt := 9) hx hb (by omega) dX6_repaired_1 (by decide) (fun c1 => ?_) (fun c1 => ?_)
  · skip
    refine lv_aload_n hx hb dX6_repaired_9 rfl (lv_at hl 0 rfl) ?_
    refine z_get hx hb hown hts w inX6 0 0 rfl rfl (by decide) f_10 rfl rfl dX6_repaired_10 ?_
    refine z_get hx hb hown hts w inX5 1 0 rfl rfl (by decide) f_81 rfl rfl dX6_repaired_13 ?_
    refine lv_iload_n hx hb dX6_repaired_16 rfl (lv_at hl 1 rfl) ?_
    have hs9 : 0 ≤ s0 := (by omega)
    refine W.eq (g2 := F0 m 17 ls [.int (zI (((s0.toNat : Nat) : Int))), .ref hp]) (by rw [Int.toNat_of_nonneg hs9]) ?_
    refine z_V_i (As := [.int (zI (((s0.toNat : Nat) : Int)))]) (rest := []) (Wr := [(hxo, .inr (6, [.ref ho, .ref hh, .ref hsa, .ref hsv, .ref hpd9, .ref hse, .ref hmt])), (ho, .inr (5, [.ref hp, .ref hbu, .ref hm, .ref hg, .int (zI (S 71)), .int (zI (S 72)), .int (zI (fSol S)), .int (zI (fSw S)), .int (zI (S 73)), .int (zI (S 74)), .long (zL (S 75))])), (hm, .inl (D.2 0, 3, .inl (fMu (mu S)))), (hg, .inl (D.2 0, 3, .inl (G))), (hbu, .inr (0, [.ref hs, .int (zI (S 77))])), (hs, .inl (D.2 0, 8, .inl (fSt S)))]) ⟨hx, hb, hml, hown, hts⟩ (c_X2_mended l D hp hw hz h0 h1 h2 hl0 S hokp s0.toNat (by omega)) (cwV 1 hts gX6_repaired_X2_mended rfl rfl rfl (by decide +kernel) ⟨Nat.le_of_ble_eq_true rfl, Nat.le_of_ble_eq_true rfl⟩) w (q0 := 6) rfl rfl rfl [6, 7, 8, 9, 10, 11, 12] rfl (by decide) [0, 1, 2, 3, 4, 5] rfl (by decide) (by decide) rfl hl.1 rfl (lv_room (Nat.le_of_ble_eq_true rfl)) dX6_repaired_17 ⟨Nat.zero_le _, Nat.zero_le _⟩ (fun r W1 H locs hp w => ?_)
    obtain ⟨rfl, rfl⟩ := hp
    have w : zW D A s.heap s [(hxo, .inr (6, [.ref ho, .ref hh, .ref hsa, .ref hsv, .ref hpd9, .ref hse, .ref hmt])), (ho, .inr (5, [.ref hp, .ref hbu, .ref hm, .ref hg, .int (zI (S 71)), .int (zI (S 72)), .int (zI (fSol S)), .int (zI (fSw S)), .int (zI (S 73)), .int (zI (S 74)), .long (zL (S 75))])), (hm, .inl (D.2 0, 3, .inl (fMu (mu S)))), (hg, .inl (D.2 0, 3, .inl (G))), (hbu, .inr (0, [.ref hs, .int (zI (S 77))])), (hs, .inl (D.2 0, 8, .inl (fSt S))), (hp, .inr (2, [.ref hw, .ref hz, .ref hl0, .int (zI (S 0))])), (hw, .inl (D.2 0, 16, .inl (fC S 0))), (hz, .inl (D.2 5, 3, .inr (.inr (.inr (.inr (f3 h0 h1 h2)))))), (h0, .inl (D.2 0, 16, .inl (fC S 1))), (h1, .inl (D.2 0, 16, .inl (fC S 2))), (h2, .inl (D.2 0, 16, .inl (fC S 3))), (hl0, .inl (D.2 0, 3, .inl (fLm S)))] H locs := w.sub [0, 1, 2, 3, 4, 5, 6, 7, 8, 9, 10, 11, 12] (by decide) rfl
    exact z_iret hx hb hr hlocks w dX6_repaired_20 ⟨by unfold qRep; first | rw [if_pos (by omega)] | rw [if_neg (by omega)], rfl⟩
  · skip
    refine lv_bipush (v := zI (-2)) hx hb dX6_repaired_4 (by decide +kernel) ?_
    refine lv_goto (tgt := 20) hx hb dX6_repaired_6 (by decide) ?_
    exact z_iret hx hb hr hlocks w dX6_repaired_20 ⟨by unfold qRep; first | rw [if_pos (by omega)] | rw [if_neg (by omega)], rfl⟩
