set_option maxHeartbeats 6000000 in
set_option maxRecDepth 100000 in
theorem c_X1_kept (l : Launch) (D : zD) (hh hst nx c9 : Nat) (r0 : Int) (hr0 : zB r0) (hnx : nx < 7) (hc9 : c9 ≤ 6) : zM l yX1_kept wsX1_kept (zR (1)) zE0 D [.ref hh, .int (zI (r0))] [(hh, .inr (1, [.ref hst, .int (zI (((nx : Nat) : Int))), .int (zI (((c9 : Nat) : Int)))]))] (zQi D (fun r W1 => r = zI r0 ∧ W1 = [(hh, .inr (1, [.ref hst, .int (zI (((eN r0 nx : Nat) : Int))), .int (zI (((eC r0 c9 : Nat) : Int)))]))])) := by
  refine zM.of (cc := cX1_kept) (maxL := 2) (ret := (some .int)) (by decide) rfl (Nat.le_of_ble_eq_true rfl) ?_
  intro p e s m below meth c A hx hb hml hown hts hr hlocks hE hnm w ls hl
  have hown : s.vm.findClass RX1 = some m.cls := hown
  have hl : lv_has ls 2 [(0, .ref hh), (1, .int (zI (r0)))] := hl
  have f_17 : (Cond.fieldLink RX1 17 "RelaxedSteps$History" "next" "I").before _ s = true := hts _ (by decide +kernel)
  have f_21 : (Cond.fieldLink RX1 21 "RelaxedSteps$History" "count" "I").before _ s = true := hts _ (by decide +kernel)
  have mm_29_l : (Cond.methodLink RX1 29 Lib.Math.min.name).before _ s = true := hts _ (by decide +kernel)
  have mm_29_s : (Cond.static Lib.Math.min.name).before _ s = true := hts _ (by decide +kernel)
  have mm_29_c : (Cond.code Lib.Math.min.name Lib.Math.min.code 2 (some .int)).before _ s = true := hts _ (by decide +kernel)
  have mm_29_i : (Cond.initialized "java/lang/Math").before _ s = true := hts _ (by decide +kernel)
  have inX1 : ∀ w ∈ u_ws RX1 TX1 3, w ∈ wsX1_kept := by decide +kernel
  have w : zW D A s.heap s [(hh, .inr (1, [.ref hst, .int (zI (((nx : Nat) : Int))), .int (zI (((c9 : Nat) : Int)))]))] s.heap [] := w
  refine lv_iload_n hx hb dX1_kept_0 rfl (lv_at hl 1 rfl) ?_
  refine z_if_lt (tgt := 32) hx hb (by omega) dX1_kept_1 (by decide) (fun c1 => ?_) (fun c1 => ?_)
  · skip
    refine lv_iload_n hx hb dX1_kept_32 rfl (lv_at hl 1 rfl) ?_
    exact z_iret hx hb hr hlocks w dX1_kept_33 ⟨rfl, by first | rw [eN_ok (by omega), eC_ok (by omega)] | rw [eN, eC, if_pos (by omega), if_pos (by omega)]⟩
  · skip
    refine lv_aload_n hx hb dX1_kept_4 rfl (lv_at hl 0 rfl) ?_
    refine lv_aload_n hx hb dX1_kept_5 rfl (lv_at hl 0 rfl) ?_
    refine z_get hx hb hown hts w inX1 0 1 rfl rfl (by decide) f_17 rfl rfl dX1_kept_6 ?_
    refine lv_iconst (v := zI 1) hx hb dX1_kept_9 rfl ?_
    refine z_iadd hx hb dX1_kept_10 ?_
    refine lv_bipush (v := zI 7) hx hb dX1_kept_11 (by decide +kernel) ?_
    refine z_irem hx hb (by omega) dX1_kept_13 ?_
    refine W.eq (g2 := F0 m 14 ls [.int (zI ((((nx + 1) % 7 : Nat) : Int))), .ref hh]) (by rw [show (((nx : Nat) : Int) + 1) % 7 = (((nx + 1) % 7 : Nat) : Int) by omega]) ?_
    refine z_put hx hb hown hts w inX1 tyX1 tyX1_ok nmX1 0 1 rfl rfl (by decide) f_17 rfl rfl (ty := .int) rfl rfl rfl (Nat.le_of_ble_eq_true rfl) dX1_kept_14 (fun H locs w => ?_)
    have w : zW D A s.heap s [(hh, .inr (1, [.ref hst, .int (zI ((((nx + 1) % 7 : Nat) : Int))), .int (zI (((c9 : Nat) : Int)))]))] H locs := w
    refine lv_aload_n hx hb dX1_kept_17 rfl (lv_at hl 0 rfl) ?_
    refine lv_bipush (v := zI 6) hx hb dX1_kept_18 (by decide +kernel) ?_
    refine lv_aload_n hx hb dX1_kept_20 rfl (lv_at hl 0 rfl) ?_
    refine z_get hx hb hown hts w inX1 0 2 rfl rfl (by decide) f_21 rfl rfl dX1_kept_21 ?_
    refine lv_iconst (v := zI 1) hx hb dX1_kept_24 rfl ?_
    refine z_iadd hx hb dX1_kept_25 ?_
    refine z_min hx hb (by rw [hml]; exact hl.1.symm) hown mm_29_l mm_29_s mm_29_i mm_29_c (Nat.le_of_ble_eq_true rfl) (Nat.le_of_ble_eq_true rfl) (Nat.zero_le _) (Nat.zero_le _) (by omega) (by omega) dX1_kept_26 ?_
    refine W.eq (g2 := F0 m 29 ls [.int (zI (((min 6 (c9 + 1) : Nat) : Int))), .ref hh]) (by rw [show min (6 : Int) (((c9 : Nat) : Int) + 1) = ((min 6 (c9 + 1) : Nat) : Int) by omega]) ?_
    refine z_put hx hb hown hts w inX1 tyX1 tyX1_ok nmX1 0 2 rfl rfl (by decide) f_21 rfl rfl (ty := .int) rfl rfl rfl (Nat.le_of_ble_eq_true rfl) dX1_kept_29 (fun H locs w => ?_)
    have w : zW D A s.heap s [(hh, .inr (1, [.ref hst, .int (zI ((((nx + 1) % 7 : Nat) : Int))), .int (zI (((min 6 (c9 + 1) : Nat) : Int)))]))] H locs := w
    refine lv_iload_n hx hb dX1_kept_32 rfl (lv_at hl 1 rfl) ?_
    exact z_iret hx hb hr hlocks w dX1_kept_33 ⟨rfl, by first | rw [eN_ok (by omega), eC_ok (by omega)] | rw [eN, eC, if_pos (by omega), if_pos (by omega)]⟩
set_option maxHeartbeats 6000000 in
set_option maxRecDepth 100000 in
theorem c_X1_prepare (l : Launch) (D : zD) (ho hm hg hbu hs hp hw hz h0 h1 h2 hl0 hh hst : Nat) (ad : Nat → Nat → Nat) (nx c9 : Nat) (Rg : Nat → Nat → Int) (Gs : Nat → Nat → Int32) (S : Nat → Int) (G : Nat → Int32) (hnx : nx < 7) : zM l yX1_prepare wsX1_prepare (zR (3)) zE0 D [.ref hh, .ref ho] (((hh, .inr (1, [.ref hst, .int (zI (((nx : Nat) : Int))), .int (zI (((c9 : Nat) : Int)))])) :: (hst, .inl (D.2 4, 7, .inr (.inr (.inr (.inr (fAd 7 ad)))))) :: (wSt D ho hm hg hbu hs hp hw hz h0 h1 h2 hl0 S G)) ++ (wFl D ad Rg Gs (List.range 7))) (zQv D (fun W1 => W1 = (((hh, .inr (1, [.ref hst, .int (zI (((nx : Nat) : Int))), .int (zI (((c9 : Nat) : Int)))])) :: (hst, .inl (D.2 4, 7, .inr (.inr (.inr (.inr (fAd 7 ad)))))) :: (wSt D ho hm hg hbu hs hp hw hz h0 h1 h2 hl0 S G)) ++ (wFl D ad (uR Rg nx S) Gs (List.range 7))))) := by
  refine zM.of (cc := cX1_prepare) (maxL := 2) (ret := none) (by decide) rfl (Nat.le_of_ble_eq_true rfl) ?_
  intro p e s m below meth c A hx hb hml hown hts hr hlocks hE hnm w ls hl
  have hown : s.vm.findClass RX1 = some m.cls := hown
  have hl : lv_has ls 2 [(0, .ref hh), (1, .ref ho)] := hl
  have f_13 : (Cond.fieldLink RX1 13 "RelaxedSteps$History" "states" "[LRelaxedSteps$State;").before _ s = true := hts _ (by decide +kernel)
  have f_17 : (Cond.fieldLink RX1 17 "RelaxedSteps$History" "next" "I").before _ s = true := hts _ (by decide +kernel)
  have inX1 : ∀ w ∈ u_ws RX1 TX1 3, w ∈ wsX1_prepare := by decide +kernel
  have w : zW D A s.heap s ([(hh, .inr (1, [.ref hst, .int (zI (((nx : Nat) : Int))), .int (zI (((c9 : Nat) : Int)))])), (hst, .inl (D.2 4, 7, .inr (.inr (.inr (.inr (fAd 7 ad)))))), (ho, .inr (5, [.ref hp, .ref hbu, .ref hm, .ref hg, .int (zI (S 71)), .int (zI (S 72)), .int (zI (fSol S)), .int (zI (fSw S)), .int (zI (S 73)), .int (zI (S 74)), .long (zL (S 75))])), (hm, .inl (D.2 0, 3, .inl (fMu (mu S)))), (hg, .inl (D.2 0, 3, .inl (G))), (hbu, .inr (0, [.ref hs, .int (zI (S 77))])), (hs, .inl (D.2 0, 8, .inl (fSt S))), (hp, .inr (2, [.ref hw, .ref hz, .ref hl0, .int (zI (S 0))])), (hw, .inl (D.2 0, 16, .inl (fC S 0))), (hz, .inl (D.2 5, 3, .inr (.inr (.inr (.inr (f3 h0 h1 h2)))))), (h0, .inl (D.2 0, 16, .inl (fC S 1))), (h1, .inl (D.2 0, 16, .inl (fC S 2))), (h2, .inl (D.2 0, 16, .inl (fC S 3))), (hl0, .inl (D.2 0, 3, .inl (fLm S)))] ++ (wFl D ad Rg Gs (List.range 7))) s.heap [] := w
  refine lv_aload_n hx hb dX1_prepare_0 rfl (lv_at hl 0 rfl) ?_
  refine z_get hx hb hown hts w inX1 0 0 rfl rfl (by decide) f_13 rfl rfl dX1_prepare_1 ?_
  refine lv_aload_n hx hb dX1_prepare_4 rfl (lv_at hl 0 rfl) ?_
  refine z_get hx hb hown hts w inX1 0 1 rfl rfl (by decide) f_17 rfl rfl dX1_prepare_5 ?_
  refine z_aald (t0 := 4) hx hb w 1 rfl rfl rfl nx (by omega) (by decide) rfl (v := (ad nx 0)) (if_pos (by omega)) dX1_prepare_8 ?_
  refine lv_aload_n hx hb dX1_prepare_9 rfl (lv_at hl 1 rfl) ?_
  have hnk : nx < 7 := by omega
  have w : zW D A s.heap s (([(hh, .inr (1, [.ref hst, .int (zI (((nx : Nat) : Int))), .int (zI (((c9 : Nat) : Int)))])), (hst, .inl (D.2 4, 7, .inr (.inr (.inr (.inr (fAd 7 ad))))))] ++ (wSt D ho hm hg hbu hs hp hw hz h0 h1 h2 hl0 S G)) ++ (wFl D ad Rg Gs (List.range 7))) s.heap [] := w
  have w := w.perm (ws' := ((wStA D (ad nx) (Rg nx) (Gs nx) ++ (wSt D ho hm hg hbu hs hp hw hz h0 h1 h2 hl0 S G)) ++ ([(hh, .inr (1, [.ref hst, .int (zI (((nx : Nat) : Int))), .int (zI (((c9 : Nat) : Int)))])), (hst, .inl (D.2 4, 7, .inr (.inr (.inr (.inr (fAd 7 ad))))))] ++ wFl D ad Rg Gs ((List.range 7).erase nx)))) (pp_in (wFl_perm (List.mem_range.mpr hnk)))
  refine zA_V_v (As := [.ref ho]) (rest := []) (Wc := (wStA D (ad nx) (Rg nx) (Gs nx) ++ (wSt D ho hm hg hbu hs hp hw hz h0 h1 h2 hl0 S G))) (Wr := ([(hh, .inr (1, [.ref hst, .int (zI (((nx : Nat) : Int))), .int (zI (((c9 : Nat) : Int)))])), (hst, .inl (D.2 4, 7, .inr (.inr (.inr (.inr (fAd 7 ad))))))] ++ wFl D ad Rg Gs ((List.range 7).erase nx))) ⟨hx, hb, hml, hown, hts⟩ (c_X5_copyFrom l D (ad nx 0) (ad nx 1) (ad nx 2) (ad nx 3) (ad nx 4) (ad nx 5) (ad nx 6) (ad nx 7) (ad nx 8) (ad nx 9) (ad nx 10) (ad nx 11) (Rg nx) (Gs nx) ho hm hg hbu hs hp hw hz h0 h1 h2 hl0 S G) (cwV 1 hts gX1_prepare_X5_copyFrom rfl rfl rfl (by decide +kernel) ⟨Nat.le_of_ble_eq_true rfl, Nat.le_of_ble_eq_true rfl⟩) w (q0 := 0) rfl rfl rfl rfl hl.1 rfl (lv_room (Nat.le_of_ble_eq_true rfl)) dX1_prepare_10 ⟨Nat.zero_le _, Nat.zero_le _⟩ (fun W1 H locs hp w => ?_)
  subst hp
  have w := w.perm (ws' := (([(hh, .inr (1, [.ref hst, .int (zI (((nx : Nat) : Int))), .int (zI (((c9 : Nat) : Int)))])), (hst, .inl (D.2 4, 7, .inr (.inr (.inr (.inr (fAd 7 ad))))))] ++ (wSt D ho hm hg hbu hs hp hw hz h0 h1 h2 hl0 S G)) ++ wFl D ad (uR Rg nx S) Gs (List.range 7))) (pp_out (wFl_put hnk))
  have w : zW D A s.heap s ([(hh, .inr (1, [.ref hst, .int (zI (((nx : Nat) : Int))), .int (zI (((c9 : Nat) : Int)))])), (hst, .inl (D.2 4, 7, .inr (.inr (.inr (.inr (fAd 7 ad)))))), (ho, .inr (5, [.ref hp, .ref hbu, .ref hm, .ref hg, .int (zI (S 71)), .int (zI (S 72)), .int (zI (fSol S)), .int (zI (fSw S)), .int (zI (S 73)), .int (zI (S 74)), .long (zL (S 75))])), (hm, .inl (D.2 0, 3, .inl (fMu (mu S)))), (hg, .inl (D.2 0, 3, .inl (G))), (hbu, .inr (0, [.ref hs, .int (zI (S 77))])), (hs, .inl (D.2 0, 8, .inl (fSt S))), (hp, .inr (2, [.ref hw, .ref hz, .ref hl0, .int (zI (S 0))])), (hw, .inl (D.2 0, 16, .inl (fC S 0))), (hz, .inl (D.2 5, 3, .inr (.inr (.inr (.inr (f3 h0 h1 h2)))))), (h0, .inl (D.2 0, 16, .inl (fC S 1))), (h1, .inl (D.2 0, 16, .inl (fC S 2))), (h2, .inl (D.2 0, 16, .inl (fC S 3))), (hl0, .inl (D.2 0, 3, .inl (fLm S)))] ++ wFl D ad (uR Rg nx S) Gs (List.range 7)) H locs := w
  exact z_vret hx hb hr hlocks w dX1_prepare_13 rfl
set_option maxHeartbeats 6000000 in
set_option maxRecDepth 100000 in
theorem c_X1_takeBack0 (l : Launch) (D : zD) (ho hm hg hbu hs hp hw hz h0 h1 h2 hl0 hh hst : Nat) (ad : Nat → Nat → Nat) (nx : Nat) (Rg : Nat → Nat → Int) (Gs : Nat → Nat → Int32) (S : Nat → Int) (G : Nat → Int32) (hnx : nx < 7) : zM l yX1_takeBack wsX1_takeBack (zR (3)) zE0 D [.ref hh, .ref ho] (((hh, .inr (1, [.ref hst, .int (zI (((nx : Nat) : Int))), .int (zI (0))])) :: (hst, .inl (D.2 4, 7, .inr (.inr (.inr (.inr (fAd 7 ad)))))) :: (wSt D ho hm hg hbu hs hp hw hz h0 h1 h2 hl0 S G)) ++ (wFl D ad Rg Gs (List.range 7))) (zQi D (fun r W1 => r = zI 0 ∧ W1 = (((hh, .inr (1, [.ref hst, .int (zI (((nx : Nat) : Int))), .int (zI (0))])) :: (hst, .inl (D.2 4, 7, .inr (.inr (.inr (.inr (fAd 7 ad)))))) :: (wSt D ho hm hg hbu hs hp hw hz h0 h1 h2 hl0 S G)) ++ (wFl D ad Rg Gs (List.range 7))))) := by
  refine zM.of (cc := cX1_takeBack) (maxL := 2) (ret := (some .boolean)) (by decide) rfl (Nat.le_of_ble_eq_true rfl) ?_
  intro p e s m below meth c A hx hb hml hown hts hr hlocks hE hnm w ls hl
  have hown : s.vm.findClass RX1 = some m.cls := hown
  have hl : lv_has ls 2 [(0, .ref hh), (1, .ref ho)] := hl
  have f_21 : (Cond.fieldLink RX1 21 "RelaxedSteps$History" "count" "I").before _ s = true := hts _ (by decide +kernel)
  have inX1 : ∀ w ∈ u_ws RX1 TX1 3, w ∈ wsX1_takeBack := by decide +kernel
  have w : zW D A s.heap s ([(hh, .inr (1, [.ref hst, .int (zI (((nx : Nat) : Int))), .int (zI (0))])), (hst, .inl (D.2 4, 7, .inr (.inr (.inr (.inr (fAd 7 ad)))))), (ho, .inr (5, [.ref hp, .ref hbu, .ref hm, .ref hg, .int (zI (S 71)), .int (zI (S 72)), .int (zI (fSol S)), .int (zI (fSw S)), .int (zI (S 73)), .int (zI (S 74)), .long (zL (S 75))])), (hm, .inl (D.2 0, 3, .inl (fMu (mu S)))), (hg, .inl (D.2 0, 3, .inl (G))), (hbu, .inr (0, [.ref hs, .int (zI (S 77))])), (hs, .inl (D.2 0, 8, .inl (fSt S))), (hp, .inr (2, [.ref hw, .ref hz, .ref hl0, .int (zI (S 0))])), (hw, .inl (D.2 0, 16, .inl (fC S 0))), (hz, .inl (D.2 5, 3, .inr (.inr (.inr (.inr (f3 h0 h1 h2)))))), (h0, .inl (D.2 0, 16, .inl (fC S 1))), (h1, .inl (D.2 0, 16, .inl (fC S 2))), (h2, .inl (D.2 0, 16, .inl (fC S 3))), (hl0, .inl (D.2 0, 3, .inl (fLm S)))] ++ (wFl D ad Rg Gs (List.range 7))) s.heap [] := w
  refine lv_aload_n hx hb dX1_takeBack_0 rfl (lv_at hl 0 rfl) ?_
  refine z_get hx hb hown hts w inX1 0 2 rfl rfl (by decide) f_21 rfl rfl dX1_takeBack_1 ?_
  refine z_if_gt (tgt := 9) hx hb (by omega) dX1_takeBack_4 (by decide) (fun c4 => ?_) (fun c4 => ?_)
  · skip
    exact absurd c4 (by omega)
  · skip
    refine lv_iconst (v := zI 0) hx hb dX1_takeBack_7 rfl ?_
    exact z_zret hx hb hr hlocks w dX1_takeBack_8 (by omega) ⟨rfl, rfl⟩
set_option maxHeartbeats 6000000 in
set_option maxRecDepth 100000 in
theorem c_X1_takeBackS (l : Launch) (D : zD) (ho hm hg hbu hs hp hw hz h0 h1 h2 hl0 hh hst : Nat) (ad : Nat → Nat → Nat) (nx c9 : Nat) (Rg : Nat → Nat → Int) (Gs : Nat → Nat → Int32) (S : Nat → Int) (G : Nat → Int32) (hnx : nx < 7) (hc9 : c9 + 1 ≤ 6) : zM l yX1_takeBack wsX1_takeBack (zR (3)) zE0 D [.ref hh, .ref ho] (((hh, .inr (1, [.ref hst, .int (zI (((nx : Nat) : Int))), .int (zI (((c9 + 1 : Nat) : Int)))])) :: (hst, .inl (D.2 4, 7, .inr (.inr (.inr (.inr (fAd 7 ad)))))) :: (wSt D ho hm hg hbu hs hp hw hz h0 h1 h2 hl0 S G)) ++ (wFl D ad Rg Gs (List.range 7))) (zQi D (fun r W1 => r = zI 1 ∧ W1 = (((hh, .inr (1, [.ref hst, .int (zI ((((nx + 6) % 7 : Nat) : Int))), .int (zI (((c9 : Nat) : Int)))])) :: (hst, .inl (D.2 4, 7, .inr (.inr (.inr (.inr (fAd 7 ad)))))) :: (wSt D ho hm hg hbu hs hp hw hz h0 h1 h2 hl0 (Rg ((nx + 6) % 7)) G)) ++ (wFl D ad Rg Gs (List.range 7))))) := by
  refine zM.of (cc := cX1_takeBack) (maxL := 2) (ret := (some .boolean)) (by decide) rfl (Nat.le_of_ble_eq_true rfl) ?_
  intro p e s m below meth c A hx hb hml hown hts hr hlocks hE hnm w ls hl
  have hown : s.vm.findClass RX1 = some m.cls := hown
  have hl : lv_has ls 2 [(0, .ref hh), (1, .ref ho)] := hl
  have f_21 : (Cond.fieldLink RX1 21 "RelaxedSteps$History" "count" "I").before _ s = true := hts _ (by decide +kernel)
  have f_17 : (Cond.fieldLink RX1 17 "RelaxedSteps$History" "next" "I").before _ s = true := hts _ (by decide +kernel)
  have f_13 : (Cond.fieldLink RX1 13 "RelaxedSteps$History" "states" "[LRelaxedSteps$State;").before _ s = true := hts _ (by decide +kernel)
  have inX1 : ∀ w ∈ u_ws RX1 TX1 3, w ∈ wsX1_takeBack := by decide +kernel
  have w : zW D A s.heap s ([(hh, .inr (1, [.ref hst, .int (zI (((nx : Nat) : Int))), .int (zI (((c9 + 1 : Nat) : Int)))])), (hst, .inl (D.2 4, 7, .inr (.inr (.inr (.inr (fAd 7 ad)))))), (ho, .inr (5, [.ref hp, .ref hbu, .ref hm, .ref hg, .int (zI (S 71)), .int (zI (S 72)), .int (zI (fSol S)), .int (zI (fSw S)), .int (zI (S 73)), .int (zI (S 74)), .long (zL (S 75))])), (hm, .inl (D.2 0, 3, .inl (fMu (mu S)))), (hg, .inl (D.2 0, 3, .inl (G))), (hbu, .inr (0, [.ref hs, .int (zI (S 77))])), (hs, .inl (D.2 0, 8, .inl (fSt S))), (hp, .inr (2, [.ref hw, .ref hz, .ref hl0, .int (zI (S 0))])), (hw, .inl (D.2 0, 16, .inl (fC S 0))), (hz, .inl (D.2 5, 3, .inr (.inr (.inr (.inr (f3 h0 h1 h2)))))), (h0, .inl (D.2 0, 16, .inl (fC S 1))), (h1, .inl (D.2 0, 16, .inl (fC S 2))), (h2, .inl (D.2 0, 16, .inl (fC S 3))), (hl0, .inl (D.2 0, 3, .inl (fLm S)))] ++ (wFl D ad Rg Gs (List.range 7))) s.heap [] := w
  refine lv_aload_n hx hb dX1_takeBack_0 rfl (lv_at hl 0 rfl) ?_
  refine z_get hx hb hown hts w inX1 0 2 rfl rfl (by decide) f_21 rfl rfl dX1_takeBack_1 ?_
  refine z_if_gt (tgt := 9) hx hb (by omega) dX1_takeBack_4 (by decide) (fun c4 => ?_) (fun c4 => ?_)
  · skip
    refine lv_aload_n hx hb dX1_takeBack_9 rfl (lv_at hl 0 rfl) ?_
    refine lv_aload_n hx hb dX1_takeBack_10 rfl (lv_at hl 0 rfl) ?_
    refine z_get hx hb hown hts w inX1 0 1 rfl rfl (by decide) f_17 rfl rfl dX1_takeBack_11 ?_
    refine lv_bipush (v := zI 7) hx hb dX1_takeBack_14 (by decide +kernel) ?_
    refine z_iadd hx hb dX1_takeBack_16 ?_
    refine lv_iconst (v := zI 1) hx hb dX1_takeBack_17 rfl ?_
    refine z_isub hx hb dX1_takeBack_18 ?_
    refine lv_bipush (v := zI 7) hx hb dX1_takeBack_19 (by decide +kernel) ?_
    refine z_irem hx hb (by omega) dX1_takeBack_21 ?_
    refine W.eq (g2 := F0 m 22 ls [.int (zI ((((nx + 6) % 7 : Nat) : Int))), .ref hh]) (by rw [show ((((nx : Nat) : Int) + 7) - 1) % 7 = (((nx + 6) % 7 : Nat) : Int) by omega]) ?_
    refine z_put hx hb hown hts w inX1 tyX1 tyX1_ok nmX1 0 1 rfl rfl (by decide) f_17 rfl rfl (ty := .int) rfl rfl rfl (Nat.le_of_ble_eq_true rfl) dX1_takeBack_22 (fun H locs w => ?_)
    have w : zW D A s.heap s ([(hh, .inr (1, [.ref hst, .int (zI ((((nx + 6) % 7 : Nat) : Int))), .int (zI (((c9 + 1 : Nat) : Int)))])), (hst, .inl (D.2 4, 7, .inr (.inr (.inr (.inr (fAd 7 ad)))))), (ho, .inr (5, [.ref hp, .ref hbu, .ref hm, .ref hg, .int (zI (S 71)), .int (zI (S 72)), .int (zI (fSol S)), .int (zI (fSw S)), .int (zI (S 73)), .int (zI (S 74)), .long (zL (S 75))])), (hm, .inl (D.2 0, 3, .inl (fMu (mu S)))), (hg, .inl (D.2 0, 3, .inl (G))), (hbu, .inr (0, [.ref hs, .int (zI (S 77))])), (hs, .inl (D.2 0, 8, .inl (fSt S))), (hp, .inr (2, [.ref hw, .ref hz, .ref hl0, .int (zI (S 0))])), (hw, .inl (D.2 0, 16, .inl (fC S 0))), (hz, .inl (D.2 5, 3, .inr (.inr (.inr (.inr (f3 h0 h1 h2)))))), (h0, .inl (D.2 0, 16, .inl (fC S 1))), (h1, .inl (D.2 0, 16, .inl (fC S 2))), (h2, .inl (D.2 0, 16, .inl (fC S 3))), (hl0, .inl (D.2 0, 3, .inl (fLm S)))] ++ (wFl D ad Rg Gs (List.range 7))) H locs := w
    refine lv_aload_n hx hb dX1_takeBack_25 rfl (lv_at hl 0 rfl) ?_
    refine lv_dup hx hb dX1_takeBack_26 rfl ?_
    refine z_get hx hb hown hts w inX1 0 2 rfl rfl (by decide) f_21 rfl rfl dX1_takeBack_27 ?_
    refine lv_iconst (v := zI 1) hx hb dX1_takeBack_30 rfl ?_
    refine z_isub hx hb dX1_takeBack_31 ?_
    refine W.eq (g2 := F0 m 32 ls [.int (zI (((c9 : Nat) : Int))), .ref hh]) (by rw [show ((c9 + 1 : Nat) : Int) - 1 = ((c9 : Nat) : Int) by omega]) ?_
    refine z_put hx hb hown hts w inX1 tyX1 tyX1_ok nmX1 0 2 rfl rfl (by decide) f_21 rfl rfl (ty := .int) rfl rfl rfl (Nat.le_of_ble_eq_true rfl) dX1_takeBack_32 (fun H locs w => ?_)
    have w : zW D A s.heap s ([(hh, .inr (1, [.ref hst, .int (zI ((((nx + 6) % 7 : Nat) : Int))), .int (zI (((c9 : Nat) : Int)))])), (hst, .inl (D.2 4, 7, .inr (.inr (.inr (.inr (fAd 7 ad)))))), (ho, .inr (5, [.ref hp, .ref hbu, .ref hm, .ref hg, .int (zI (S 71)), .int (zI (S 72)), .int (zI (fSol S)), .int (zI (fSw S)), .int (zI (S 73)), .int (zI (S 74)), .long (zL (S 75))])), (hm, .inl (D.2 0, 3, .inl (fMu (mu S)))), (hg, .inl (D.2 0, 3, .inl (G))), (hbu, .inr (0, [.ref hs, .int (zI (S 77))])), (hs, .inl (D.2 0, 8, .inl (fSt S))), (hp, .inr (2, [.ref hw, .ref hz, .ref hl0, .int (zI (S 0))])), (hw, .inl (D.2 0, 16, .inl (fC S 0))), (hz, .inl (D.2 5, 3, .inr (.inr (.inr (.inr (f3 h0 h1 h2)))))), (h0, .inl (D.2 0, 16, .inl (fC S 1))), (h1, .inl (D.2 0, 16, .inl (fC S 2))), (h2, .inl (D.2 0, 16, .inl (fC S 3))), (hl0, .inl (D.2 0, 3, .inl (fLm S)))] ++ (wFl D ad Rg Gs (List.range 7))) H locs := w
    refine lv_aload_n hx hb dX1_takeBack_35 rfl (lv_at hl 1 rfl) ?_
    refine lv_aload_n hx hb dX1_takeBack_36 rfl (lv_at hl 0 rfl) ?_
    refine z_get hx hb hown hts w inX1 0 0 rfl rfl (by decide) f_13 rfl rfl dX1_takeBack_37 ?_
    refine lv_aload_n hx hb dX1_takeBack_40 rfl (lv_at hl 0 rfl) ?_
    refine z_get hx hb hown hts w inX1 0 1 rfl rfl (by decide) f_17 rfl rfl dX1_takeBack_41 ?_
    refine z_aald (t0 := 4) hx hb w 1 rfl rfl rfl ((nx + 6) % 7) (by omega) (by decide) rfl (v := (ad ((nx + 6) % 7) 0)) (if_pos (by omega)) dX1_takeBack_44 ?_
    have hnk : (nx + 6) % 7 < 7 := by omega
    have w : zW D A s.heap s (([(hh, .inr (1, [.ref hst, .int (zI ((((nx + 6) % 7 : Nat) : Int))), .int (zI (((c9 : Nat) : Int)))])), (hst, .inl (D.2 4, 7, .inr (.inr (.inr (.inr (fAd 7 ad))))))] ++ (wSt D ho hm hg hbu hs hp hw hz h0 h1 h2 hl0 S G)) ++ (wFl D ad Rg Gs (List.range 7))) H locs := w
    have w := w.perm (ws' := (((wSt D ho hm hg hbu hs hp hw hz h0 h1 h2 hl0 S G) ++ wStA D (ad ((nx + 6) % 7)) (Rg ((nx + 6) % 7)) (Gs ((nx + 6) % 7))) ++ ([(hh, .inr (1, [.ref hst, .int (zI ((((nx + 6) % 7 : Nat) : Int))), .int (zI (((c9 : Nat) : Int)))])), (hst, .inl (D.2 4, 7, .inr (.inr (.inr (.inr (fAd 7 ad))))))] ++ wFl D ad Rg Gs ((List.range 7).erase ((nx + 6) % 7))))) (pp_in2 (wFl_perm (List.mem_range.mpr hnk)))
    refine zA_V_v (As := [.ref (ad ((nx + 6) % 7) 0)]) (rest := []) (Wc := ((wSt D ho hm hg hbu hs hp hw hz h0 h1 h2 hl0 S G) ++ wStA D (ad ((nx + 6) % 7)) (Rg ((nx + 6) % 7)) (Gs ((nx + 6) % 7)))) (Wr := ([(hh, .inr (1, [.ref hst, .int (zI ((((nx + 6) % 7 : Nat) : Int))), .int (zI (((c9 : Nat) : Int)))])), (hst, .inl (D.2 4, 7, .inr (.inr (.inr (.inr (fAd 7 ad))))))] ++ wFl D ad Rg Gs ((List.range 7).erase ((nx + 6) % 7)))) ⟨hx, hb, hml, hown, hts⟩ (c_X5_copyFrom l D ho hm hg hbu hs hp hw hz h0 h1 h2 hl0 S G (ad ((nx + 6) % 7) 0) (ad ((nx + 6) % 7) 1) (ad ((nx + 6) % 7) 2) (ad ((nx + 6) % 7) 3) (ad ((nx + 6) % 7) 4) (ad ((nx + 6) % 7) 5) (ad ((nx + 6) % 7) 6) (ad ((nx + 6) % 7) 7) (ad ((nx + 6) % 7) 8) (ad ((nx + 6) % 7) 9) (ad ((nx + 6) % 7) 10) (ad ((nx + 6) % 7) 11) (Rg ((nx + 6) % 7)) (Gs ((nx + 6) % 7))) (cwV 1 hts gX1_takeBack_X5_copyFrom rfl rfl rfl (by decide +kernel) ⟨Nat.le_of_ble_eq_true rfl, Nat.le_of_ble_eq_true rfl⟩) w (q0 := 0) rfl rfl rfl rfl hl.1 rfl (lv_room (Nat.le_of_ble_eq_true rfl)) dX1_takeBack_45 ⟨Nat.zero_le _, Nat.zero_le _⟩ (fun W1 H locs hp w => ?_)
    subst hp
    have w := w.perm (ws' := (([(hh, .inr (1, [.ref hst, .int (zI ((((nx + 6) % 7 : Nat) : Int))), .int (zI (((c9 : Nat) : Int)))])), (hst, .inl (D.2 4, 7, .inr (.inr (.inr (.inr (fAd 7 ad))))))] ++ (wSt D ho hm hg hbu hs hp hw hz h0 h1 h2 hl0 (Rg ((nx + 6) % 7)) G)) ++ wFl D ad Rg Gs (List.range 7))) (pp_out2 (wFl_perm (List.mem_range.mpr hnk)))
    have w : zW D A s.heap s ([(hh, .inr (1, [.ref hst, .int (zI ((((nx + 6) % 7 : Nat) : Int))), .int (zI (((c9 : Nat) : Int)))])), (hst, .inl (D.2 4, 7, .inr (.inr (.inr (.inr (fAd 7 ad)))))), (ho, .inr (5, [.ref hp, .ref hbu, .ref hm, .ref hg, .int (zI ((Rg ((nx + 6) % 7)) 71)), .int (zI ((Rg ((nx + 6) % 7)) 72)), .int (zI (fSol (Rg ((nx + 6) % 7)))), .int (zI (fSw (Rg ((nx + 6) % 7)))), .int (zI ((Rg ((nx + 6) % 7)) 73)), .int (zI ((Rg ((nx + 6) % 7)) 74)), .long (zL ((Rg ((nx + 6) % 7)) 75))])), (hm, .inl (D.2 0, 3, .inl (fMu (mu (Rg ((nx + 6) % 7)))))), (hg, .inl (D.2 0, 3, .inl (G))), (hbu, .inr (0, [.ref hs, .int (zI ((Rg ((nx + 6) % 7)) 77))])), (hs, .inl (D.2 0, 8, .inl (fSt (Rg ((nx + 6) % 7))))), (hp, .inr (2, [.ref hw, .ref hz, .ref hl0, .int (zI ((Rg ((nx + 6) % 7)) 0))])), (hw, .inl (D.2 0, 16, .inl (fC (Rg ((nx + 6) % 7)) 0))), (hz, .inl (D.2 5, 3, .inr (.inr (.inr (.inr (f3 h0 h1 h2)))))), (h0, .inl (D.2 0, 16, .inl (fC (Rg ((nx + 6) % 7)) 1))), (h1, .inl (D.2 0, 16, .inl (fC (Rg ((nx + 6) % 7)) 2))), (h2, .inl (D.2 0, 16, .inl (fC (Rg ((nx + 6) % 7)) 3))), (hl0, .inl (D.2 0, 3, .inl (fLm (Rg ((nx + 6) % 7)))))] ++ wFl D ad Rg Gs (List.range 7)) H locs := w
    refine lv_iconst (v := zI 1) hx hb dX1_takeBack_48 rfl ?_
    exact z_zret hx hb hr hlocks w dX1_takeBack_49 (by omega) ⟨rfl, rfl⟩
  · skip
    exact absurd c4 (by omega)
