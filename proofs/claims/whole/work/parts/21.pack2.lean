set_option maxHeartbeats 6000000 in
set_option maxRecDepth 100000 in
theorem c_X2_sizeOf (l : Launch) (D : zD) (hp hw hz h0 h1 h2 hl0 : Nat) (S : Nat → Int) (hok : OkP S) (i : Nat) (hi : i < 16) : zM l yX2_sizeOf wsX2_sizeOf (zR 0) zE0 D [.ref hp, .int (zI (((i : Nat) : Int)))] (wPk D hp hw hz h0 h1 h2 hl0 S) (zQi D (fun r W1 => r = zI (sSz S i) ∧ W1 = (wPk D hp hw hz h0 h1 h2 hl0 S))) := by
  refine zM.of (cc := cX2_sizeOf) (maxL := 2) (ret := (some .int)) (by decide) rfl (Nat.le_of_ble_eq_true rfl) ?_
  intro p e s m below meth c A hx hb hml hown hts hr hlocks hE hnm w ls hl
  have hown : s.vm.findClass RX2 = some m.cls := hown
  have hl : lv_has ls 2 [(0, .ref hp), (1, .int (zI (((i : Nat) : Int))))] := hl
  have f_17 : (Cond.fieldLink RX2 17 "RelaxedSteps$Packing" "sizes" "[[I").before _ s = true := hts _ (by decide +kernel)
  have inX2 : ∀ w ∈ u_ws RX2 TX2 4, w ∈ wsX2_sizeOf := by decide +kernel
  have hn := zn_eq hok
  have h16 := zn_le hok
  have hlim := hok.2.2
  have w : zW D A s.heap s [(hp, .inr (2, [.ref hw, .ref hz, .ref hl0, .int (zI (S 0))])), (hw, .inl (D.2 0, 16, .inl (fC S 0))), (hz, .inl (D.2 5, 3, .inr (.inr (.inr (.inr (f3 h0 h1 h2)))))), (h0, .inl (D.2 0, 16, .inl (fC S 1))), (h1, .inl (D.2 0, 16, .inl (fC S 2))), (h2, .inl (D.2 0, 16, .inl (fC S 3))), (hl0, .inl (D.2 0, 3, .inl (fLm S)))] s.heap [] := w
  refine lv_aload_n hx hb dX2_sizeOf_0 rfl (lv_at hl 0 rfl) ?_
  refine z_get hx hb hown hts w inX2 0 1 rfl rfl (by decide) f_17 rfl rfl dX2_sizeOf_1 ?_
  refine lv_iconst (v := zI 0) hx hb dX2_sizeOf_4 rfl ?_
  refine z_aald (t0 := 5) hx hb w 2 rfl rfl rfl 0 (by omega) (by decide) rfl (v := h0) rfl dX2_sizeOf_5 ?_
  refine lv_iload_n hx hb dX2_sizeOf_6 rfl (lv_at hl 1 rfl) ?_
  refine z_iald hx hb w 3 rfl i (by omega) (by decide) rfl (v := (zI (sC S 1 i))) (if_pos (by omega)) dX2_sizeOf_7 ?_
  refine lv_aload_n hx hb dX2_sizeOf_8 rfl (lv_at hl 0 rfl) ?_
  refine z_get hx hb hown hts w inX2 0 1 rfl rfl (by decide) f_17 rfl rfl dX2_sizeOf_9 ?_
  refine lv_iconst (v := zI 1) hx hb dX2_sizeOf_12 rfl ?_
  refine z_aald (t0 := 5) hx hb w 2 rfl rfl rfl 1 (by omega) (by decide) rfl (v := h1) rfl dX2_sizeOf_13 ?_
  refine lv_iload_n hx hb dX2_sizeOf_14 rfl (lv_at hl 1 rfl) ?_
  refine z_iald hx hb w 4 rfl i (by omega) (by decide) rfl (v := (zI (sC S 2 i))) (if_pos (by omega)) dX2_sizeOf_15 ?_
  refine z_iadd hx hb dX2_sizeOf_16 ?_
  refine lv_aload_n hx hb dX2_sizeOf_17 rfl (lv_at hl 0 rfl) ?_
  refine z_get hx hb hown hts w inX2 0 1 rfl rfl (by decide) f_17 rfl rfl dX2_sizeOf_18 ?_
  refine lv_iconst (v := zI 2) hx hb dX2_sizeOf_21 rfl ?_
  refine z_aald (t0 := 5) hx hb w 2 rfl rfl rfl 2 (by omega) (by decide) rfl (v := h2) rfl dX2_sizeOf_22 ?_
  refine lv_iload_n hx hb dX2_sizeOf_23 rfl (lv_at hl 1 rfl) ?_
  refine z_iald hx hb w 5 rfl i (by omega) (by decide) rfl (v := (zI (sC S 3 i))) (if_pos (by omega)) dX2_sizeOf_24 ?_
  refine z_iadd hx hb dX2_sizeOf_25 ?_
  exact z_iret hx hb hr hlocks w dX2_sizeOf_26 ⟨rfl, rfl⟩
theorem c_X2_sizeOfI (l : Launch) (D : zD) (hp hw hz h0 h1 h2 hl0 : Nat) (S : Nat → Int) (hok : OkP S) (i : Int) (hi : 0 ≤ i ∧ i < 16) : zM l yX2_sizeOf wsX2_sizeOf (zR 0) zE0 D [.ref hp, .int (zI i)] (wPk D hp hw hz h0 h1 h2 hl0 S) (zQi D (fun r W1 => r = zI (sSz S i.toNat) ∧ W1 = (wPk D hp hw hz h0 h1 h2 hl0 S))) := by
  have h := c_X2_sizeOf l D hp hw hz h0 h1 h2 hl0 S hok i.toNat (by omega)
  rw [Int.toNat_of_nonneg hi.1] at h
  exact h
set_option maxHeartbeats 6000000 in
set_option maxRecDepth 100000 in
theorem c_X2_goesAheadOf (l : Launch) (D : zD) (hp hw hz h0 h1 h2 hl0 : Nat) (S : Nat → Int) (hok : OkP S) (a b : Nat) (ha : a < 16) (hb1 : b < 16) : zM l yX2_goesAheadOf wsX2_goesAheadOf (zR 1) zE0 D [.ref hp, .int (zI (((a : Nat) : Int))), .int (zI (((b : Nat) : Int)))] (wPk D hp hw hz h0 h1 h2 hl0 S) (zQi D (fun r W1 => r = zI (zb (sC S 0 a * sSz S b < sC S 0 b * sSz S a)) ∧ W1 = (wPk D hp hw hz h0 h1 h2 hl0 S))) := by
  refine zM.of (cc := cX2_goesAheadOf) (maxL := 3) (ret := (some .boolean)) (by decide) rfl (Nat.le_of_ble_eq_true rfl) ?_
  intro p e s m below meth c A hx hb hml hown hts hr hlocks hE hnm w ls hl
  have hown : s.vm.findClass RX2 = some m.cls := hown
  have hl : lv_has ls 3 [(0, .ref hp), (1, .int (zI (((a : Nat) : Int)))), (2, .int (zI (((b : Nat) : Int))))] := hl
  have f_9 : (Cond.fieldLink RX2 9 "RelaxedSteps$Packing" "worths" "[I").before _ s = true := hts _ (by decide +kernel)
  have inX2 : ∀ w ∈ u_ws RX2 TX2 4, w ∈ wsX2_goesAheadOf := by decide +kernel
  have hn := zn_eq hok
  have h16 := zn_le hok
  have hlim := hok.2.2
  have hokp := hok
  have u1 := mul_b (hok.2.1 a ha).1 (sSz_b hok hb1)
  have u2 := mul_b (hok.2.1 b hb1).1 (sSz_b hok ha)
  have w : zW D A s.heap s [(hp, .inr (2, [.ref hw, .ref hz, .ref hl0, .int (zI (S 0))])), (hw, .inl (D.2 0, 16, .inl (fC S 0))), (hz, .inl (D.2 5, 3, .inr (.inr (.inr (.inr (f3 h0 h1 h2)))))), (h0, .inl (D.2 0, 16, .inl (fC S 1))), (h1, .inl (D.2 0, 16, .inl (fC S 2))), (h2, .inl (D.2 0, 16, .inl (fC S 3))), (hl0, .inl (D.2 0, 3, .inl (fLm S)))] s.heap [] := w
  refine lv_aload_n hx hb dX2_goesAheadOf_0 rfl (lv_at hl 0 rfl) ?_
  refine z_get hx hb hown hts w inX2 0 0 rfl rfl (by decide) f_9 rfl rfl dX2_goesAheadOf_1 ?_
  refine lv_iload_n hx hb dX2_goesAheadOf_4 rfl (lv_at hl 1 rfl) ?_
  refine z_iald hx hb w 1 rfl a (by omega) (by decide) rfl (v := (zI (sC S 0 a))) (if_pos (by omega)) dX2_goesAheadOf_5 ?_
  refine lv_aload_n hx hb dX2_goesAheadOf_6 rfl (lv_at hl 0 rfl) ?_
  refine lv_iload_n hx hb dX2_goesAheadOf_7 rfl (lv_at hl 2 rfl) ?_
  refine z_V_i (As := [.int (zI (((b : Nat) : Int)))]) (rest := [.int (zI (sC S 0 a))]) (Wr := []) ⟨hx, hb, hml, hown, hts⟩ (c_X2_sizeOf l D hp hw hz h0 h1 h2 hl0 S hokp b (by omega)) (cwV 1 hts gX2_goesAheadOf_X2_sizeOf rfl rfl rfl (by decide +kernel) ⟨Nat.le_of_ble_eq_true rfl, Nat.le_of_ble_eq_true rfl⟩) w (q0 := 0) rfl rfl rfl [0, 1, 2, 3, 4, 5, 6] rfl (by decide) [] rfl (by decide) (by decide) rfl hl.1 rfl (lv_room (Nat.le_of_ble_eq_true rfl)) dX2_goesAheadOf_8 ⟨Nat.zero_le _, Nat.zero_le _⟩ (fun r W1 H locs hp w => ?_)
  obtain ⟨rfl, rfl⟩ := hp
  have w : zW D A s.heap s [(hp, .inr (2, [.ref hw, .ref hz, .ref hl0, .int (zI (S 0))])), (hw, .inl (D.2 0, 16, .inl (fC S 0))), (hz, .inl (D.2 5, 3, .inr (.inr (.inr (.inr (f3 h0 h1 h2)))))), (h0, .inl (D.2 0, 16, .inl (fC S 1))), (h1, .inl (D.2 0, 16, .inl (fC S 2))), (h2, .inl (D.2 0, 16, .inl (fC S 3))), (hl0, .inl (D.2 0, 3, .inl (fLm S)))] H locs := w.sub [0, 1, 2, 3, 4, 5, 6] (by decide) rfl
  refine z_imul hx hb dX2_goesAheadOf_11 ?_
  refine lv_aload_n hx hb dX2_goesAheadOf_12 rfl (lv_at hl 0 rfl) ?_
  refine z_get hx hb hown hts w inX2 0 0 rfl rfl (by decide) f_9 rfl rfl dX2_goesAheadOf_13 ?_
  refine lv_iload_n hx hb dX2_goesAheadOf_16 rfl (lv_at hl 2 rfl) ?_
  refine z_iald hx hb w 1 rfl b (by omega) (by decide) rfl (v := (zI (sC S 0 b))) (if_pos (by omega)) dX2_goesAheadOf_17 ?_
  refine lv_aload_n hx hb dX2_goesAheadOf_18 rfl (lv_at hl 0 rfl) ?_
  refine lv_iload_n hx hb dX2_goesAheadOf_19 rfl (lv_at hl 1 rfl) ?_
  refine z_V_i (As := [.int (zI (((a : Nat) : Int)))]) (rest := [.int (zI (sC S 0 b)), .int (zI ((sC S 0 a) * (sSz S b)))]) (Wr := []) ⟨hx, hb, hml, hown, hts⟩ (c_X2_sizeOf l D hp hw hz h0 h1 h2 hl0 S hokp a (by omega)) (cwV 1 hts gX2_goesAheadOf_X2_sizeOf rfl rfl rfl (by decide +kernel) ⟨Nat.le_of_ble_eq_true rfl, Nat.le_of_ble_eq_true rfl⟩) w (q0 := 0) rfl rfl rfl [0, 1, 2, 3, 4, 5, 6] rfl (by decide) [] rfl (by decide) (by decide) rfl hl.1 rfl (lv_room (Nat.le_of_ble_eq_true rfl)) dX2_goesAheadOf_20 ⟨Nat.zero_le _, Nat.zero_le _⟩ (fun r W1 H locs hp w => ?_)
  obtain ⟨rfl, rfl⟩ := hp
  have w : zW D A s.heap s [(hp, .inr (2, [.ref hw, .ref hz, .ref hl0, .int (zI (S 0))])), (hw, .inl (D.2 0, 16, .inl (fC S 0))), (hz, .inl (D.2 5, 3, .inr (.inr (.inr (.inr (f3 h0 h1 h2)))))), (h0, .inl (D.2 0, 16, .inl (fC S 1))), (h1, .inl (D.2 0, 16, .inl (fC S 2))), (h2, .inl (D.2 0, 16, .inl (fC S 3))), (hl0, .inl (D.2 0, 3, .inl (fLm S)))] H locs := w.sub [0, 1, 2, 3, 4, 5, 6] (by decide) rfl
  refine z_imul hx hb dX2_goesAheadOf_23 ?_
  refine z_icmp_ge (tgt := 31) hx hb (by omega) (by omega) dX2_goesAheadOf_24 (by decide) (fun c24 => ?_) (fun c24 => ?_)
  · skip
    refine lv_iconst (v := zI 0) hx hb dX2_goesAheadOf_31 rfl ?_
    exact z_zret hx hb hr hlocks w dX2_goesAheadOf_32 (by omega) ⟨by first | rw [zb_t (by omega)] | rw [zb_f (by omega)], rfl⟩
  · skip
    refine lv_iconst (v := zI 1) hx hb dX2_goesAheadOf_27 rfl ?_
    refine lv_goto (tgt := 32) hx hb dX2_goesAheadOf_28 (by decide) ?_
    exact z_zret hx hb hr hlocks w dX2_goesAheadOf_32 (by omega) ⟨by first | rw [zb_t (by omega)] | rw [zb_f (by omega)], rfl⟩
theorem c_X2_goesAheadOfI (l : Launch) (D : zD) (hp hw hz h0 h1 h2 hl0 : Nat) (S : Nat → Int) (hok : OkP S) (a : Nat) (b : Int) (ha : a < 16) (hb1 : 0 ≤ b ∧ b < 16) : zM l yX2_goesAheadOf wsX2_goesAheadOf (zR 1) zE0 D [.ref hp, .int (zI ((a : Nat) : Int)), .int (zI b)] (wPk D hp hw hz h0 h1 h2 hl0 S) (zQi D (fun r W1 => r = zI (zb (sC S 0 a * sSz S b.toNat < sC S 0 b.toNat * sSz S a)) ∧ W1 = (wPk D hp hw hz h0 h1 h2 hl0 S))) := by
  have h := c_X2_goesAheadOf l D hp hw hz h0 h1 h2 hl0 S hok a b.toNat ha (by omega)
  rw [Int.toNat_of_nonneg hb1.1] at h
  exact h
set_option maxHeartbeats 6000000 in
set_option maxRecDepth 100000 in
theorem c_X2_leastForItsSize (l : Launch) (D : zD) (hp hw hz h0 h1 h2 hl0 : Nat) (S : Nat → Int) (hok : OkP S) (set : Nat) (hs : set < 2147483648) : zM l yX2_leastForItsSize wsX2_leastForItsSize (zR 2) zE0 D [.ref hp, .int (zI (((set : Nat) : Int)))] (wPk D hp hw hz h0 h1 h2 hl0 S) (zQi D (fun r W1 => r = zI (max 0 (sLst S set (zn S))) ∧ W1 = (wPk D hp hw hz h0 h1 h2 hl0 S))) := by
  refine zM.of (cc := cX2_leastForItsSize) (maxL := 5) (ret := (some .int)) (by decide) rfl (Nat.le_of_ble_eq_true rfl) ?_
  intro p e s m below meth c A hx hb hml hown hts hr hlocks hE hnm w ls hl
  have hown : s.vm.findClass RX2 = some m.cls := hown
  have hl : lv_has ls 5 [(0, .ref hp), (1, .int (zI (((set : Nat) : Int))))] := hl
  have f_23 : (Cond.fieldLink RX2 23 "RelaxedSteps$Packing" "items" "I").before _ s = true := hts _ (by decide +kernel)
  have mm_63_l : (Cond.methodLink RX2 63 Lib.Math.max.name).before _ s = true := hts _ (by decide +kernel)
  have mm_63_s : (Cond.static Lib.Math.max.name).before _ s = true := hts _ (by decide +kernel)
  have mm_63_c : (Cond.code Lib.Math.max.name Lib.Math.max.code 2 (some .int)).before _ s = true := hts _ (by decide +kernel)
  have mm_63_i : (Cond.initialized "java/lang/Math").before _ s = true := hts _ (by decide +kernel)
  have inX2 : ∀ w ∈ u_ws RX2 TX2 4, w ∈ wsX2_leastForItsSize := by decide +kernel
  have hn := zn_eq hok
  have h16 := zn_le hok
  have hlim := hok.2.2
  have hokp := hok
  have hlz := sLst_b S set (zn S)
  have w : zW D A s.heap s [(hp, .inr (2, [.ref hw, .ref hz, .ref hl0, .int (zI (S 0))])), (hw, .inl (D.2 0, 16, .inl (fC S 0))), (hz, .inl (D.2 5, 3, .inr (.inr (.inr (.inr (f3 h0 h1 h2)))))), (h0, .inl (D.2 0, 16, .inl (fC S 1))), (h1, .inl (D.2 0, 16, .inl (fC S 2))), (h2, .inl (D.2 0, 16, .inl (fC S 3))), (hl0, .inl (D.2 0, 3, .inl (fLm S)))] s.heap [] := w
  refine lv_iconst (v := zI (-1)) hx hb dX2_leastForItsSize_0 rfl ?_
  refine lv_istore_n (lv' := [(2, .int (zI ((-1)))), (0, .ref hp), (1, .int (zI (((set : Nat) : Int))))]) hx hb dX2_leastForItsSize_1 rfl hl (by decide) rfl (fun ls hl => ?_)
  refine lv_iconst (v := zI 0) hx hb dX2_leastForItsSize_2 rfl ?_
  refine lv_istore_n (lv' := [(3, .int (zI (0))), (2, .int (zI ((-1)))), (0, .ref hp), (1, .int (zI (((set : Nat) : Int))))]) hx hb dX2_leastForItsSize_3 rfl hl (by decide) rfl (fun ls hl => ?_)
  have lp_4 : ∀ (n_4 : Nat) (i : Nat) (x3 : Int) (x2 : Int) , zn S - i < n_4 → (i ≤ zn S) → x3 = ((i : Nat) : Int) → x2 = sLst S set i → ∀ (H : Heap) (locs : List Loc) (ls : Array Slot), zW D A s.heap s [(hp, .inr (2, [.ref hw, .ref hz, .ref hl0, .int (zI (S 0))])), (hw, .inl (D.2 0, 16, .inl (fC S 0))), (hz, .inl (D.2 5, 3, .inr (.inr (.inr (.inr (f3 h0 h1 h2)))))), (h0, .inl (D.2 0, 16, .inl (fC S 1))), (h1, .inl (D.2 0, 16, .inl (fC S 2))), (h2, .inl (D.2 0, 16, .inl (fC S 3))), (hl0, .inl (D.2 0, 3, .inl (fLm S)))] H locs → lv_has ls 5 [(3, .int (zI (x3))), (2, .int (zI (x2))), (0, .ref hp), (1, .int (zI (((set : Nat) : Int))))] → W p l e (zR 2) s m [.ref hp, .int (zI (((set : Nat) : Int)))].toArray below meth c H locs 0 0 (MQ below ((zQi D (fun r W1 => r = zI (max 0 (sLst S set (zn S))) ∧ W1 = (wPk D hp hw hz h0 h1 h2 hl0 S))) A) [.ref hp, .int (zI (((set : Nat) : Int)))].toArray s 0 0 A) (F0 m 4 ls []) := by
    intro n_4
    induction n_4 with
    | zero => intro i x3 x2 h_; exact absurd h_ (Nat.not_lt_zero _)
    | succ n_4 ih_4 =>
      intro i x3 x2 hf_4 hi ex3 ex2 H locs ls w hl
      subst ex3
      subst ex2
      have hlb := sLst_b S set i
      have hl : lv_has ls 5 [(3, .int (zI (((i : Nat) : Int)))), (2, .int (zI (sLst S set i))), (0, .ref hp), (1, .int (zI (((set : Nat) : Int))))] := hl
      refine lv_iload_n hx hb dX2_leastForItsSize_4 rfl (lv_at hl 0 rfl) ?_
      refine lv_aload_n hx hb dX2_leastForItsSize_5 rfl (lv_at hl 2 rfl) ?_
      refine z_get hx hb hown hts w inX2 0 3 rfl rfl (by decide) f_23 rfl rfl dX2_leastForItsSize_6 ?_
      refine z_icmp_ge (tgt := 61) hx hb (by omega) (by omega) dX2_leastForItsSize_9 (by decide) (fun c9 => ?_) (fun c9 => ?_)
      · skip
        refine lv_iconst (v := zI 0) hx hb dX2_leastForItsSize_61 rfl ?_
        refine lv_iload_n hx hb dX2_leastForItsSize_62 rfl (lv_at hl 1 rfl) ?_
        refine z_max hx hb (by rw [hml]; exact hl.1.symm) hown mm_63_l mm_63_s mm_63_i mm_63_c (Nat.le_of_ble_eq_true rfl) (Nat.le_of_ble_eq_true rfl) (Nat.zero_le _) (Nat.zero_le _) (by omega) (by omega) dX2_leastForItsSize_63 ?_
        exact z_iret hx hb hr hlocks w dX2_leastForItsSize_66 ⟨by have e9 : i = zn S := (by omega); subst e9; rfl, rfl⟩
      · skip
        refine lv_iload_n hx hb dX2_leastForItsSize_12 rfl (lv_at hl 0 rfl) ?_
        refine lv_iload_n hx hb dX2_leastForItsSize_13 rfl (lv_at hl 3 rfl) ?_
        refine z_SN_i (As := [.int (zI (((i : Nat) : Int))), .int (zI (((set : Nat) : Int)))]) (rest := []) (Wr := [(hp, .inr (2, [.ref hw, .ref hz, .ref hl0, .int (zI (S 0))])), (hw, .inl (D.2 0, 16, .inl (fC S 0))), (hz, .inl (D.2 5, 3, .inr (.inr (.inr (.inr (f3 h0 h1 h2)))))), (h0, .inl (D.2 0, 16, .inl (fC S 1))), (h1, .inl (D.2 0, 16, .inl (fC S 2))), (h2, .inl (D.2 0, 16, .inl (fC S 3))), (hl0, .inl (D.2 0, 3, .inl (fLm S)))]) ⟨hx, hb, hml, hown, hts⟩ (c_X6_isIn l D i set (by omega) (by omega)) ⟨va_cnB 2 hts ggX2_leastForItsSize_X6_isIn rfl rfl rfl (w.1.2 (RX2, 51, yX6_isIn, "RelaxedSteps") (by decide +kernel)) (hts (.initialized RX6) (by decide +kernel)) (by decide +kernel) ⟨Nat.le_of_ble_eq_true rfl, Nat.le_of_ble_eq_true rfl⟩, hts (.static yX6_isIn) (by decide +kernel), trivial⟩ w [] rfl (by decide) [0, 1, 2, 3, 4, 5, 6] rfl (by decide) (by decide) rfl hl.1 rfl (lv_room (Nat.le_of_ble_eq_true rfl)) dX2_leastForItsSize_14 ⟨Nat.zero_le _, Nat.zero_le _⟩ (fun r W1 H locs hp w => ?_)
        obtain ⟨rfl, rfl⟩ := hp
        have w : zW D A s.heap s [(hp, .inr (2, [.ref hw, .ref hz, .ref hl0, .int (zI (S 0))])), (hw, .inl (D.2 0, 16, .inl (fC S 0))), (hz, .inl (D.2 5, 3, .inr (.inr (.inr (.inr (f3 h0 h1 h2)))))), (h0, .inl (D.2 0, 16, .inl (fC S 1))), (h1, .inl (D.2 0, 16, .inl (fC S 2))), (h2, .inl (D.2 0, 16, .inl (fC S 3))), (hl0, .inl (D.2 0, 3, .inl (fLm S)))] H locs := w.sub [0, 1, 2, 3, 4, 5, 6] (by decide) rfl
        refine z_if_eq_b (tgt := 32) hx hb dX2_leastForItsSize_17 (by decide) (fun c17 => ?_) (fun c17 => ?_)
        · skip
          refine lv_iconst (v := zI 0) hx hb dX2_leastForItsSize_32 rfl ?_
          refine lv_istore (lv' := [(4, .int (zI (0))), (3, .int (zI (((i : Nat) : Int)))), (2, .int (zI (sLst S set i))), (0, .ref hp), (1, .int (zI (((set : Nat) : Int))))]) hx hb dX2_leastForItsSize_33 hl (by decide) rfl (fun ls hl => ?_)
          refine lv_iload hx hb dX2_leastForItsSize_35 (lv_at hl 0 rfl) ?_
          refine z_if_eq (tgt := 55) hx hb (by omega) dX2_leastForItsSize_37 (by decide) (fun c37 => ?_) (fun c37 => ?_)
          · skip
            refine z_iinc (lv' := [(3, .int (zI (((i : Nat) : Int) + 1))), (4, .int (zI (0))), (2, .int (zI (sLst S set i))), (0, .ref hp), (1, .int (zI (((set : Nat) : Int))))]) hx hb dX2_leastForItsSize_55 hl (k := 1) rfl (by decide) rfl (fun ls hl => ?_)
            refine lv_goto (tgt := 4) hx hb dX2_leastForItsSize_58 (by decide) ?_
            exact ih_4 (i + 1) _ _ (by omega) (by omega) (by first | rfl | omega) (by rw [sLst_s]; split <;> rename_i hh <;> first | rfl | exact absurd hh.1.1 c17 | exact absurd hh.1.2 (by omega) | exact absurd hh.2 hno | exact absurd (And.intro (And.intro c17 c25) hor) hh) _ _ _ w (lv_sub hl [0, 2, 3, 4] rfl)
          · skip
            exact absurd c37 (by omega)
        · skip
          refine lv_aload_n hx hb dX2_leastForItsSize_20 rfl (lv_at hl 2 rfl) ?_
          refine lv_iload_n hx hb dX2_leastForItsSize_21 rfl (lv_at hl 0 rfl) ?_
          refine z_V_i (As := [.int (zI (((i : Nat) : Int)))]) (rest := []) (Wr := []) ⟨hx, hb, hml, hown, hts⟩ (c_X2_sizeOf l D hp hw hz h0 h1 h2 hl0 S hokp i (by omega)) (cwV 1 hts gX2_leastForItsSize_X2_sizeOf rfl rfl rfl (by decide +kernel) ⟨Nat.le_of_ble_eq_true rfl, Nat.le_of_ble_eq_true rfl⟩) w (q0 := 0) rfl rfl rfl [0, 1, 2, 3, 4, 5, 6] rfl (by decide) [] rfl (by decide) (by decide) rfl hl.1 rfl (lv_room (Nat.le_of_ble_eq_true rfl)) dX2_leastForItsSize_22 ⟨Nat.zero_le _, Nat.zero_le _⟩ (fun r W1 H locs hp w => ?_)
          obtain ⟨rfl, rfl⟩ := hp
          have w : zW D A s.heap s [(hp, .inr (2, [.ref hw, .ref hz, .ref hl0, .int (zI (S 0))])), (hw, .inl (D.2 0, 16, .inl (fC S 0))), (hz, .inl (D.2 5, 3, .inr (.inr (.inr (.inr (f3 h0 h1 h2)))))), (h0, .inl (D.2 0, 16, .inl (fC S 1))), (h1, .inl (D.2 0, 16, .inl (fC S 2))), (h2, .inl (D.2 0, 16, .inl (fC S 3))), (hl0, .inl (D.2 0, 3, .inl (fLm S)))] H locs := w.sub [0, 1, 2, 3, 4, 5, 6] (by decide) rfl
          have hsb := sSz_b hok (i := i) (by omega)
          refine z_if_le (tgt := 32) hx hb (by omega) dX2_leastForItsSize_25 (by decide) (fun c25 => ?_) (fun c25 => ?_)
          · skip
            refine lv_iconst (v := zI 0) hx hb dX2_leastForItsSize_32 rfl ?_
            refine lv_istore (lv' := [(4, .int (zI (0))), (3, .int (zI (((i : Nat) : Int)))), (2, .int (zI (sLst S set i))), (0, .ref hp), (1, .int (zI (((set : Nat) : Int))))]) hx hb dX2_leastForItsSize_33 hl (by decide) rfl (fun ls hl => ?_)
            refine lv_iload hx hb dX2_leastForItsSize_35 (lv_at hl 0 rfl) ?_
            refine z_if_eq (tgt := 55) hx hb (by omega) dX2_leastForItsSize_37 (by decide) (fun c37 => ?_) (fun c37 => ?_)
            · skip
              refine z_iinc (lv' := [(3, .int (zI (((i : Nat) : Int) + 1))), (4, .int (zI (0))), (2, .int (zI (sLst S set i))), (0, .ref hp), (1, .int (zI (((set : Nat) : Int))))]) hx hb dX2_leastForItsSize_55 hl (k := 1) rfl (by decide) rfl (fun ls hl => ?_)
              refine lv_goto (tgt := 4) hx hb dX2_leastForItsSize_58 (by decide) ?_
              exact ih_4 (i + 1) _ _ (by omega) (by omega) (by first | rfl | omega) (by rw [sLst_s]; split <;> rename_i hh <;> first | rfl | exact absurd hh.1.1 c17 | exact absurd hh.1.2 (by omega) | exact absurd hh.2 hno | exact absurd (And.intro (And.intro c17 c25) hor) hh) _ _ _ w (lv_sub hl [0, 2, 3, 4] rfl)
            · skip
              exact absurd c37 (by omega)
          · skip
            refine lv_iconst (v := zI 1) hx hb dX2_leastForItsSize_28 rfl ?_
            refine lv_goto (tgt := 33) hx hb dX2_leastForItsSize_29 (by decide) ?_
            refine lv_istore (lv' := [(4, .int (zI (1))), (3, .int (zI (((i : Nat) : Int)))), (2, .int (zI (sLst S set i))), (0, .ref hp), (1, .int (zI (((set : Nat) : Int))))]) hx hb dX2_leastForItsSize_33 hl (by decide) rfl (fun ls hl => ?_)
            refine lv_iload hx hb dX2_leastForItsSize_35 (lv_at hl 0 rfl) ?_
            refine z_if_eq (tgt := 55) hx hb (by omega) dX2_leastForItsSize_37 (by decide) (fun c37 => ?_) (fun c37 => ?_)
            · skip
              exact absurd c37 (by omega)
            · skip
              refine lv_iload_n hx hb dX2_leastForItsSize_40 rfl (lv_at hl 2 rfl) ?_
              refine z_if_lt (tgt := 53) hx hb (by omega) dX2_leastForItsSize_41 (by decide) (fun c41 => ?_) (fun c41 => ?_)
              · skip
                have hor : sLst S set i < 0 ∨ sC S 0 i * sSz S (sLst S set i).toNat < sC S 0 (sLst S set i).toNat * sSz S i := Or.inl c41
                refine lv_iload_n hx hb dX2_leastForItsSize_53 rfl (lv_at hl 1 rfl) ?_
                refine lv_istore_n (lv' := [(2, .int (zI (((i : Nat) : Int)))), (4, .int (zI (1))), (3, .int (zI (((i : Nat) : Int)))), (0, .ref hp), (1, .int (zI (((set : Nat) : Int))))]) hx hb dX2_leastForItsSize_54 rfl hl (by decide) rfl (fun ls hl => ?_)
                refine z_iinc (lv' := [(3, .int (zI (((i : Nat) : Int) + 1))), (2, .int (zI (((i : Nat) : Int)))), (4, .int (zI (1))), (0, .ref hp), (1, .int (zI (((set : Nat) : Int))))]) hx hb dX2_leastForItsSize_55 hl (k := 2) rfl (by decide) rfl (fun ls hl => ?_)
                refine lv_goto (tgt := 4) hx hb dX2_leastForItsSize_58 (by decide) ?_
                exact ih_4 (i + 1) _ _ (by omega) (by omega) (by first | rfl | omega) (by rw [sLst_s]; split <;> rename_i hh <;> first | rfl | exact absurd hh.1.1 c17 | exact absurd hh.1.2 (by omega) | exact absurd hh.2 hno | exact absurd (And.intro (And.intro c17 c25) hor) hh) _ _ _ w (lv_sub hl [0, 1, 3, 4] rfl)
              · skip
                refine lv_aload_n hx hb dX2_leastForItsSize_44 rfl (lv_at hl 3 rfl) ?_
                refine lv_iload_n hx hb dX2_leastForItsSize_45 rfl (lv_at hl 1 rfl) ?_
                refine lv_iload_n hx hb dX2_leastForItsSize_46 rfl (lv_at hl 2 rfl) ?_
                refine z_V_i (As := [.int (zI (((i : Nat) : Int))), .int (zI (sLst S set i))]) (rest := []) (Wr := []) ⟨hx, hb, hml, hown, hts⟩ (c_X2_goesAheadOfI l D hp hw hz h0 h1 h2 hl0 S hokp i (sLst S set i) (by omega) (by omega)) (cwV 2 hts gX2_leastForItsSize_X2_goesAheadOf rfl rfl rfl (by decide +kernel) ⟨Nat.le_of_ble_eq_true rfl, Nat.le_of_ble_eq_true rfl⟩) w (q0 := 0) rfl rfl rfl [0, 1, 2, 3, 4, 5, 6] rfl (by decide) [] rfl (by decide) (by decide) rfl hl.1 rfl (lv_room (Nat.le_of_ble_eq_true rfl)) dX2_leastForItsSize_47 ⟨Nat.zero_le _, Nat.zero_le _⟩ (fun r W1 H locs hp w => ?_)
                obtain ⟨rfl, rfl⟩ := hp
                have w : zW D A s.heap s [(hp, .inr (2, [.ref hw, .ref hz, .ref hl0, .int (zI (S 0))])), (hw, .inl (D.2 0, 16, .inl (fC S 0))), (hz, .inl (D.2 5, 3, .inr (.inr (.inr (.inr (f3 h0 h1 h2)))))), (h0, .inl (D.2 0, 16, .inl (fC S 1))), (h1, .inl (D.2 0, 16, .inl (fC S 2))), (h2, .inl (D.2 0, 16, .inl (fC S 3))), (hl0, .inl (D.2 0, 3, .inl (fLm S)))] H locs := w.sub [0, 1, 2, 3, 4, 5, 6] (by decide) rfl
                refine z_if_eq_b (tgt := 55) hx hb dX2_leastForItsSize_50 (by decide) (fun c50 => ?_) (fun c50 => ?_)
                · skip
                  have hno : ¬ (sLst S set i < 0 ∨ sC S 0 i * sSz S (sLst S set i).toNat < sC S 0 (sLst S set i).toNat * sSz S i) := fun z => z.elim (fun z => absurd z (by omega)) c50
                  refine z_iinc (lv' := [(3, .int (zI (((i : Nat) : Int) + 1))), (4, .int (zI (1))), (2, .int (zI (sLst S set i))), (0, .ref hp), (1, .int (zI (((set : Nat) : Int))))]) hx hb dX2_leastForItsSize_55 hl (k := 1) rfl (by decide) rfl (fun ls hl => ?_)
                  refine lv_goto (tgt := 4) hx hb dX2_leastForItsSize_58 (by decide) ?_
                  exact ih_4 (i + 1) _ _ (by omega) (by omega) (by first | rfl | omega) (by rw [sLst_s]; split <;> rename_i hh <;> first | rfl | exact absurd hh.1.1 c17 | exact absurd hh.1.2 (by omega) | exact absurd hh.2 hno | exact absurd (And.intro (And.intro c17 c25) hor) hh) _ _ _ w (lv_sub hl [0, 2, 3, 4] rfl)
                · skip
                  have hor : sLst S set i < 0 ∨ sC S 0 i * sSz S (sLst S set i).toNat < sC S 0 (sLst S set i).toNat * sSz S i := Or.inr c50
                  refine lv_iload_n hx hb dX2_leastForItsSize_53 rfl (lv_at hl 1 rfl) ?_
                  refine lv_istore_n (lv' := [(2, .int (zI (((i : Nat) : Int)))), (4, .int (zI (1))), (3, .int (zI (((i : Nat) : Int)))), (0, .ref hp), (1, .int (zI (((set : Nat) : Int))))]) hx hb dX2_leastForItsSize_54 rfl hl (by decide) rfl (fun ls hl => ?_)
                  refine z_iinc (lv' := [(3, .int (zI (((i : Nat) : Int) + 1))), (2, .int (zI (((i : Nat) : Int)))), (4, .int (zI (1))), (0, .ref hp), (1, .int (zI (((set : Nat) : Int))))]) hx hb dX2_leastForItsSize_55 hl (k := 2) rfl (by decide) rfl (fun ls hl => ?_)
                  refine lv_goto (tgt := 4) hx hb dX2_leastForItsSize_58 (by decide) ?_
                  exact ih_4 (i + 1) _ _ (by omega) (by omega) (by first | rfl | omega) (by rw [sLst_s]; split <;> rename_i hh <;> first | rfl | exact absurd hh.1.1 c17 | exact absurd hh.1.2 (by omega) | exact absurd hh.2 hno | exact absurd (And.intro (And.intro c17 c25) hor) hh) _ _ _ w (lv_sub hl [0, 1, 3, 4] rfl)
  exact lp_4 ((zn S - 0) + 1) 0 _ _ (by omega) (by omega) (by first | rfl | omega) (by first | rfl | omega) _ _ _ w (lv_sub hl [0, 1, 2, 3] rfl)
set_option maxHeartbeats 6000000 in
set_option maxRecDepth 100000 in
theorem c_X2_mended (l : Launch) (D : zD) (hp hw hz h0 h1 h2 hl0 : Nat) (S : Nat → Int) (hok : OkP S) (set : Nat) (hs : set < 2147483648) : zM l yX2_mended wsX2_mended (zR 3) zE0 D [.ref hp, .int (zI (((set : Nat) : Int)))] (wPk D hp hw hz h0 h1 h2 hl0 S) (zQi D (fun r W1 => r = zI ((sMend S (set &&& (2 ^ zn S - 1)) : Nat) : Int) ∧ W1 = (wPk D hp hw hz h0 h1 h2 hl0 S))) := by
  refine zM.of (cc := cX2_mended) (maxL := 4) (ret := (some .int)) (by decide) rfl (Nat.le_of_ble_eq_true rfl) ?_
  intro p e s m below meth c A hx hb hml hown hts hr hlocks hE hnm w ls hl
  have hown : s.vm.findClass RX2 = some m.cls := hown
  have hl : lv_has ls 4 [(0, .ref hp), (1, .int (zI (((set : Nat) : Int))))] := hl
  have f_23 : (Cond.fieldLink RX2 23 "RelaxedSteps$Packing" "items" "I").before _ s = true := hts _ (by decide +kernel)
  have inX2 : ∀ w ∈ u_ws RX2 TX2 4, w ∈ wsX2_mended := by decide +kernel
  have hn := zn_eq hok
  have h16 := zn_le hok
  have hlim := hok.2.2
  have hokp := hok
  have hm0 : (set &&& (2 ^ zn S - 1)) < 65536 := zt_masklt h16
  have w : zW D A s.heap s [(hp, .inr (2, [.ref hw, .ref hz, .ref hl0, .int (zI (S 0))])), (hw, .inl (D.2 0, 16, .inl (fC S 0))), (hz, .inl (D.2 5, 3, .inr (.inr (.inr (.inr (f3 h0 h1 h2)))))), (h0, .inl (D.2 0, 16, .inl (fC S 1))), (h1, .inl (D.2 0, 16, .inl (fC S 2))), (h2, .inl (D.2 0, 16, .inl (fC S 3))), (hl0, .inl (D.2 0, 3, .inl (fLm S)))] s.heap [] := w
  refine lv_iload_n hx hb dX2_mended_0 rfl (lv_at hl 1 rfl) ?_
  refine lv_iconst (v := zI 1) hx hb dX2_mended_1 rfl ?_
  refine lv_aload_n hx hb dX2_mended_2 rfl (lv_at hl 0 rfl) ?_
  refine z_get hx hb hown hts w inX2 0 3 rfl rfl (by decide) f_23 rfl rfl dX2_mended_3 ?_
  rw [hn]
  refine z_ishl1 (b := zn S) hx hb (by omega) dX2_mended_6 ?_
  refine lv_iconst (v := zI 1) hx hb dX2_mended_7 rfl ?_
  refine z_isub hx hb dX2_mended_8 ?_
  rw [zt_mask]
  refine z_iand (a := set) (b := 2 ^ zn S - 1) hx hb dX2_mended_9 ?_
  refine lv_istore_n (lv' := [(2, .int (zI (((set &&& (2 ^ zn S - 1) : Nat) : Int)))), (0, .ref hp), (1, .int (zI (((set : Nat) : Int))))]) hx hb dX2_mended_10 rfl hl (by decide) rfl (fun ls hl => ?_)
  refine lv_iconst (v := zI 0) hx hb dX2_mended_11 rfl ?_
  refine lv_istore_n (lv' := [(3, .int (zI (0))), (2, .int (zI (((set &&& (2 ^ zn S - 1) : Nat) : Int)))), (0, .ref hp), (1, .int (zI (((set : Nat) : Int))))]) hx hb dX2_mended_12 rfl hl (by decide) rfl (fun ls hl => ?_)
  have lp_13 : ∀ (n_13 : Nat) (j : Nat) (k : Nat) (x3 : Int) (x2 : Int) , 16 - j < n_13 → (j ≤ 16) → (k < 65536) → (sTake S (16 - j) k = sTake S 16 (set &&& (2 ^ zn S - 1))) → x3 = ((j : Nat) : Int) → x2 = ((k : Nat) : Int) → ∀ (H : Heap) (locs : List Loc) (ls : Array Slot), zW D A s.heap s [(hp, .inr (2, [.ref hw, .ref hz, .ref hl0, .int (zI (S 0))])), (hw, .inl (D.2 0, 16, .inl (fC S 0))), (hz, .inl (D.2 5, 3, .inr (.inr (.inr (.inr (f3 h0 h1 h2)))))), (h0, .inl (D.2 0, 16, .inl (fC S 1))), (h1, .inl (D.2 0, 16, .inl (fC S 2))), (h2, .inl (D.2 0, 16, .inl (fC S 3))), (hl0, .inl (D.2 0, 3, .inl (fLm S)))] H locs → lv_has ls 4 [(3, .int (zI (x3))), (2, .int (zI (x2))), (0, .ref hp), (1, .int (zI (((set : Nat) : Int))))] → W p l e (zR 3) s m [.ref hp, .int (zI (((set : Nat) : Int)))].toArray below meth c H locs 0 0 (MQ below ((zQi D (fun r W1 => r = zI ((sMend S (set &&& (2 ^ zn S - 1)) : Nat) : Int) ∧ W1 = (wPk D hp hw hz h0 h1 h2 hl0 S))) A) [.ref hp, .int (zI (((set : Nat) : Int)))].toArray s 0 0 A) (F0 m 13 ls []) := by
    intro n_13
    induction n_13 with
    | zero => intro j k x3 x2 h_; exact absurd h_ (Nat.not_lt_zero _)
    | succ n_13 ih_13 =>
      intro j k x3 x2 hf_13 hj hk hkt ex3 ex2 H locs ls w hl
      subst ex3
      subst ex2
      have hl : lv_has ls 4 [(3, .int (zI (((j : Nat) : Int)))), (2, .int (zI (((k : Nat) : Int)))), (0, .ref hp), (1, .int (zI (((set : Nat) : Int))))] := hl
      refine lv_iload_n hx hb dX2_mended_13 rfl (lv_at hl 0 rfl) ?_
      refine lv_bipush (v := zI 16) hx hb dX2_mended_14 (by decide +kernel) ?_
      refine z_icmp_ge (tgt := 45) hx hb (by omega) (by omega) dX2_mended_16 (by decide) (fun c16 => ?_) (fun c16 => ?_)
      · skip
        have hfin : k = sTake S 16 (set &&& (2 ^ zn S - 1)) := sTake_end hkt (Or.inl (by omega))
        refine lv_iconst (v := zI 0) hx hb dX2_mended_45 rfl ?_
        refine lv_istore_n (lv' := [(3, .int (zI (0))), (2, .int (zI (((k : Nat) : Int)))), (0, .ref hp), (1, .int (zI (((set : Nat) : Int))))]) hx hb dX2_mended_46 rfl hl (by decide) rfl (fun ls hl => ?_)
        have lp_47 : ∀ (n_47 : Nat) (i : Nat) (x3 : Int) (x2 : Int) , zn S - i < n_47 → (i ≤ zn S) → x3 = ((i : Nat) : Int) → x2 = ((sAdd S k i : Nat) : Int) → ∀ (H : Heap) (locs : List Loc) (ls : Array Slot), zW D A s.heap s [(hp, .inr (2, [.ref hw, .ref hz, .ref hl0, .int (zI (S 0))])), (hw, .inl (D.2 0, 16, .inl (fC S 0))), (hz, .inl (D.2 5, 3, .inr (.inr (.inr (.inr (f3 h0 h1 h2)))))), (h0, .inl (D.2 0, 16, .inl (fC S 1))), (h1, .inl (D.2 0, 16, .inl (fC S 2))), (h2, .inl (D.2 0, 16, .inl (fC S 3))), (hl0, .inl (D.2 0, 3, .inl (fLm S)))] H locs → lv_has ls 4 [(3, .int (zI (x3))), (2, .int (zI (x2))), (0, .ref hp), (1, .int (zI (((set : Nat) : Int))))] → W p l e (zR 3) s m [.ref hp, .int (zI (((set : Nat) : Int)))].toArray below meth c H locs 0 0 (MQ below ((zQi D (fun r W1 => r = zI ((sMend S (set &&& (2 ^ zn S - 1)) : Nat) : Int) ∧ W1 = (wPk D hp hw hz h0 h1 h2 hl0 S))) A) [.ref hp, .int (zI (((set : Nat) : Int)))].toArray s 0 0 A) (F0 m 47 ls []) := by
          intro n_47
          induction n_47 with
          | zero => intro i x3 x2 h_; exact absurd h_ (Nat.not_lt_zero _)
          | succ n_47 ih_47 =>
            intro i x3 x2 hf_47 hi ex3 ex2 H locs ls w hl
            subst ex3
            subst ex2
            have hal := sAdd_lt (S := S) hk i (by omega)
            have hl : lv_has ls 4 [(3, .int (zI (((i : Nat) : Int)))), (2, .int (zI (((sAdd S k i : Nat) : Int)))), (0, .ref hp), (1, .int (zI (((set : Nat) : Int))))] := hl
            refine lv_iload_n hx hb dX2_mended_47 rfl (lv_at hl 0 rfl) ?_
            refine lv_aload_n hx hb dX2_mended_48 rfl (lv_at hl 2 rfl) ?_
            refine z_get hx hb hown hts w inX2 0 3 rfl rfl (by decide) f_23 rfl rfl dX2_mended_49 ?_
            refine z_icmp_ge (tgt := 79) hx hb (by omega) (by omega) dX2_mended_52 (by decide) (fun c52 => ?_) (fun c52 => ?_)
            · skip
              refine lv_iload_n hx hb dX2_mended_79 rfl (lv_at hl 1 rfl) ?_
              exact z_iret hx hb hr hlocks w dX2_mended_80 ⟨by have e9 : i = zn S := (by omega); subst e9; unfold sMend; rw [← hfin], rfl⟩
            · skip
              refine lv_aload_n hx hb dX2_mended_55 rfl (lv_at hl 2 rfl) ?_
              refine lv_iload_n hx hb dX2_mended_56 rfl (lv_at hl 1 rfl) ?_
              refine lv_iconst (v := zI 1) hx hb dX2_mended_57 rfl ?_
              refine lv_iload_n hx hb dX2_mended_58 rfl (lv_at hl 0 rfl) ?_
              refine z_ishl1 (b := i) hx hb (by omega) dX2_mended_59 ?_
              refine z_ior (a := sAdd S k i) (b := 2 ^ i) hx hb dX2_mended_60 ?_
              have hor := zor_16 hal (show i < 16 by omega)
              refine z_V_i (As := [.int (zI ((((sAdd S k i) ||| (2 ^ i) : Nat) : Int)))]) (rest := []) (Wr := []) ⟨hx, hb, hml, hown, hts⟩ (c_X2_fits l D hp hw hz h0 h1 h2 hl0 S hokp ((sAdd S k i) ||| (2 ^ i)) (by omega)) (cwV 1 hts gX2_mended_X2_fits rfl rfl rfl (by decide +kernel) ⟨Nat.le_of_ble_eq_true rfl, Nat.le_of_ble_eq_true rfl⟩) w (q0 := 0) rfl rfl rfl [0, 1, 2, 3, 4, 5, 6] rfl (by decide) [] rfl (by decide) (by decide) rfl hl.1 rfl (lv_room (Nat.le_of_ble_eq_true rfl)) dX2_mended_61 ⟨Nat.zero_le _, Nat.zero_le _⟩ (fun r W1 H locs hp w => ?_)
              obtain ⟨rfl, rfl⟩ := hp
              have w : zW D A s.heap s [(hp, .inr (2, [.ref hw, .ref hz, .ref hl0, .int (zI (S 0))])), (hw, .inl (D.2 0, 16, .inl (fC S 0))), (hz, .inl (D.2 5, 3, .inr (.inr (.inr (.inr (f3 h0 h1 h2)))))), (h0, .inl (D.2 0, 16, .inl (fC S 1))), (h1, .inl (D.2 0, 16, .inl (fC S 2))), (h2, .inl (D.2 0, 16, .inl (fC S 3))), (hl0, .inl (D.2 0, 3, .inl (fLm S)))] H locs := w.sub [0, 1, 2, 3, 4, 5, 6] (by decide) rfl
              refine z_if_eq_b (tgt := 73) hx hb dX2_mended_64 (by decide) (fun c64 => ?_) (fun c64 => ?_)
              · skip
                refine z_iinc (lv' := [(3, .int (zI (((i : Nat) : Int) + 1))), (2, .int (zI (((sAdd S k i : Nat) : Int)))), (0, .ref hp), (1, .int (zI (((set : Nat) : Int))))]) hx hb dX2_mended_73 hl (k := 0) rfl (by decide) rfl (fun ls hl => ?_)
                refine lv_goto (tgt := 47) hx hb dX2_mended_76 (by decide) ?_
                exact ih_47 (i + 1) _ _ (by omega) (by omega) (by first | rfl | omega) (by simp only [sAdd]; first | rw [if_pos c64] | rw [if_neg c64]) _ _ _ w (lv_sub hl [0, 1, 2, 3] rfl)
              · skip
                refine lv_iload_n hx hb dX2_mended_67 rfl (lv_at hl 1 rfl) ?_
                refine lv_iconst (v := zI 1) hx hb dX2_mended_68 rfl ?_
                refine lv_iload_n hx hb dX2_mended_69 rfl (lv_at hl 0 rfl) ?_
                refine z_ishl1 (b := i) hx hb (by omega) dX2_mended_70 ?_
                refine z_ior (a := sAdd S k i) (b := 2 ^ i) hx hb dX2_mended_71 ?_
                refine lv_istore_n (lv' := [(2, .int (zI ((((sAdd S k i) ||| (2 ^ i) : Nat) : Int)))), (3, .int (zI (((i : Nat) : Int)))), (0, .ref hp), (1, .int (zI (((set : Nat) : Int))))]) hx hb dX2_mended_72 rfl hl (by decide) rfl (fun ls hl => ?_)
                refine z_iinc (lv' := [(3, .int (zI (((i : Nat) : Int) + 1))), (2, .int (zI ((((sAdd S k i) ||| (2 ^ i) : Nat) : Int)))), (0, .ref hp), (1, .int (zI (((set : Nat) : Int))))]) hx hb dX2_mended_73 hl (k := 1) rfl (by decide) rfl (fun ls hl => ?_)
                refine lv_goto (tgt := 47) hx hb dX2_mended_76 (by decide) ?_
                exact ih_47 (i + 1) _ _ (by omega) (by omega) (by first | rfl | omega) (by simp only [sAdd]; first | rw [if_pos c64] | rw [if_neg c64]) _ _ _ w (lv_sub hl [0, 1, 2, 3] rfl)
        exact lp_47 ((zn S - 0) + 1) 0 _ _ (by omega) (by omega) (by first | rfl | omega) rfl _ _ _ w (lv_sub hl [0, 1, 2, 3] rfl)
      · skip
        refine lv_aload_n hx hb dX2_mended_19 rfl (lv_at hl 2 rfl) ?_
        refine lv_iload_n hx hb dX2_mended_20 rfl (lv_at hl 1 rfl) ?_
        refine z_V_i (As := [.int (zI (((k : Nat) : Int)))]) (rest := []) (Wr := []) ⟨hx, hb, hml, hown, hts⟩ (c_X2_fits l D hp hw hz h0 h1 h2 hl0 S hokp k (by omega)) (cwV 1 hts gX2_mended_X2_fits rfl rfl rfl (by decide +kernel) ⟨Nat.le_of_ble_eq_true rfl, Nat.le_of_ble_eq_true rfl⟩) w (q0 := 0) rfl rfl rfl [0, 1, 2, 3, 4, 5, 6] rfl (by decide) [] rfl (by decide) (by decide) rfl hl.1 rfl (lv_room (Nat.le_of_ble_eq_true rfl)) dX2_mended_21 ⟨Nat.zero_le _, Nat.zero_le _⟩ (fun r W1 H locs hp w => ?_)
        obtain ⟨rfl, rfl⟩ := hp
        have w : zW D A s.heap s [(hp, .inr (2, [.ref hw, .ref hz, .ref hl0, .int (zI (S 0))])), (hw, .inl (D.2 0, 16, .inl (fC S 0))), (hz, .inl (D.2 5, 3, .inr (.inr (.inr (.inr (f3 h0 h1 h2)))))), (h0, .inl (D.2 0, 16, .inl (fC S 1))), (h1, .inl (D.2 0, 16, .inl (fC S 2))), (h2, .inl (D.2 0, 16, .inl (fC S 3))), (hl0, .inl (D.2 0, 3, .inl (fLm S)))] H locs := w.sub [0, 1, 2, 3, 4, 5, 6] (by decide) rfl
        refine z_if_ne_b (tgt := 45) hx hb dX2_mended_24 (by decide) (fun c24 => ?_) (fun c24 => ?_)
        · skip
          have hfin : k = sTake S 16 (set &&& (2 ^ zn S - 1)) := sTake_end hkt (Or.inr c24)
          refine lv_iconst (v := zI 0) hx hb dX2_mended_45 rfl ?_
          refine lv_istore_n (lv' := [(3, .int (zI (0))), (2, .int (zI (((k : Nat) : Int)))), (0, .ref hp), (1, .int (zI (((set : Nat) : Int))))]) hx hb dX2_mended_46 rfl hl (by decide) rfl (fun ls hl => ?_)
          have lp_47 : ∀ (n_47 : Nat) (i : Nat) (x3 : Int) (x2 : Int) , zn S - i < n_47 → (i ≤ zn S) → x3 = ((i : Nat) : Int) → x2 = ((sAdd S k i : Nat) : Int) → ∀ (H : Heap) (locs : List Loc) (ls : Array Slot), zW D A s.heap s [(hp, .inr (2, [.ref hw, .ref hz, .ref hl0, .int (zI (S 0))])), (hw, .inl (D.2 0, 16, .inl (fC S 0))), (hz, .inl (D.2 5, 3, .inr (.inr (.inr (.inr (f3 h0 h1 h2)))))), (h0, .inl (D.2 0, 16, .inl (fC S 1))), (h1, .inl (D.2 0, 16, .inl (fC S 2))), (h2, .inl (D.2 0, 16, .inl (fC S 3))), (hl0, .inl (D.2 0, 3, .inl (fLm S)))] H locs → lv_has ls 4 [(3, .int (zI (x3))), (2, .int (zI (x2))), (0, .ref hp), (1, .int (zI (((set : Nat) : Int))))] → W p l e (zR 3) s m [.ref hp, .int (zI (((set : Nat) : Int)))].toArray below meth c H locs 0 0 (MQ below ((zQi D (fun r W1 => r = zI ((sMend S (set &&& (2 ^ zn S - 1)) : Nat) : Int) ∧ W1 = (wPk D hp hw hz h0 h1 h2 hl0 S))) A) [.ref hp, .int (zI (((set : Nat) : Int)))].toArray s 0 0 A) (F0 m 47 ls []) := by
            intro n_47
            induction n_47 with
            | zero => intro i x3 x2 h_; exact absurd h_ (Nat.not_lt_zero _)
            | succ n_47 ih_47 =>
              intro i x3 x2 hf_47 hi ex3 ex2 H locs ls w hl
              subst ex3
              subst ex2
              have hal := sAdd_lt (S := S) hk i (by omega)
              have hl : lv_has ls 4 [(3, .int (zI (((i : Nat) : Int)))), (2, .int (zI (((sAdd S k i : Nat) : Int)))), (0, .ref hp), (1, .int (zI (((set : Nat) : Int))))] := hl
              refine lv_iload_n hx hb dX2_mended_47 rfl (lv_at hl 0 rfl) ?_
              refine lv_aload_n hx hb dX2_mended_48 rfl (lv_at hl 2 rfl) ?_
              refine z_get hx hb hown hts w inX2 0 3 rfl rfl (by decide) f_23 rfl rfl dX2_mended_49 ?_
              refine z_icmp_ge (tgt := 79) hx hb (by omega) (by omega) dX2_mended_52 (by decide) (fun c52 => ?_) (fun c52 => ?_)
              · skip
                refine lv_iload_n hx hb dX2_mended_79 rfl (lv_at hl 1 rfl) ?_
                exact z_iret hx hb hr hlocks w dX2_mended_80 ⟨by have e9 : i = zn S := (by omega); subst e9; unfold sMend; rw [← hfin], rfl⟩
              · skip
                refine lv_aload_n hx hb dX2_mended_55 rfl (lv_at hl 2 rfl) ?_
                refine lv_iload_n hx hb dX2_mended_56 rfl (lv_at hl 1 rfl) ?_
                refine lv_iconst (v := zI 1) hx hb dX2_mended_57 rfl ?_
                refine lv_iload_n hx hb dX2_mended_58 rfl (lv_at hl 0 rfl) ?_
                refine z_ishl1 (b := i) hx hb (by omega) dX2_mended_59 ?_
                refine z_ior (a := sAdd S k i) (b := 2 ^ i) hx hb dX2_mended_60 ?_
                have hor := zor_16 hal (show i < 16 by omega)
                refine z_V_i (As := [.int (zI ((((sAdd S k i) ||| (2 ^ i) : Nat) : Int)))]) (rest := []) (Wr := []) ⟨hx, hb, hml, hown, hts⟩ (c_X2_fits l D hp hw hz h0 h1 h2 hl0 S hokp ((sAdd S k i) ||| (2 ^ i)) (by omega)) (cwV 1 hts gX2_mended_X2_fits rfl rfl rfl (by decide +kernel) ⟨Nat.le_of_ble_eq_true rfl, Nat.le_of_ble_eq_true rfl⟩) w (q0 := 0) rfl rfl rfl [0, 1, 2, 3, 4, 5, 6] rfl (by decide) [] rfl (by decide) (by decide) rfl hl.1 rfl (lv_room (Nat.le_of_ble_eq_true rfl)) dX2_mended_61 ⟨Nat.zero_le _, Nat.zero_le _⟩ (fun r W1 H locs hp w => ?_)
                obtain ⟨rfl, rfl⟩ := hp
                have w : zW D A s.heap s [(hp, .inr (2, [.ref hw, .ref hz, .ref hl0, .int (zI (S 0))])), (hw, .inl (D.2 0, 16, .inl (fC S 0))), (hz, .inl (D.2 5, 3, .inr (.inr (.inr (.inr (f3 h0 h1 h2)))))), (h0, .inl (D.2 0, 16, .inl (fC S 1))), (h1, .inl (D.2 0, 16, .inl (fC S 2))), (h2, .inl (D.2 0, 16, .inl (fC S 3))), (hl0, .inl (D.2 0, 3, .inl (fLm S)))] H locs := w.sub [0, 1, 2, 3, 4, 5, 6] (by decide) rfl
                refine z_if_eq_b (tgt := 73) hx hb dX2_mended_64 (by decide) (fun c64 => ?_) (fun c64 => ?_)
                · skip
                  refine z_iinc (lv' := [(3, .int (zI (((i : Nat) : Int) + 1))), (2, .int (zI (((sAdd S k i : Nat) : Int)))), (0, .ref hp), (1, .int (zI (((set : Nat) : Int))))]) hx hb dX2_mended_73 hl (k := 0) rfl (by decide) rfl (fun ls hl => ?_)
                  refine lv_goto (tgt := 47) hx hb dX2_mended_76 (by decide) ?_
                  exact ih_47 (i + 1) _ _ (by omega) (by omega) (by first | rfl | omega) (by simp only [sAdd]; first | rw [if_pos c64] | rw [if_neg c64]) _ _ _ w (lv_sub hl [0, 1, 2, 3] rfl)
                · skip
                  refine lv_iload_n hx hb dX2_mended_67 rfl (lv_at hl 1 rfl) ?_
                  refine lv_iconst (v := zI 1) hx hb dX2_mended_68 rfl ?_
                  refine lv_iload_n hx hb dX2_mended_69 rfl (lv_at hl 0 rfl) ?_
                  refine z_ishl1 (b := i) hx hb (by omega) dX2_mended_70 ?_
                  refine z_ior (a := sAdd S k i) (b := 2 ^ i) hx hb dX2_mended_71 ?_
                  refine lv_istore_n (lv' := [(2, .int (zI ((((sAdd S k i) ||| (2 ^ i) : Nat) : Int)))), (3, .int (zI (((i : Nat) : Int)))), (0, .ref hp), (1, .int (zI (((set : Nat) : Int))))]) hx hb dX2_mended_72 rfl hl (by decide) rfl (fun ls hl => ?_)
                  refine z_iinc (lv' := [(3, .int (zI (((i : Nat) : Int) + 1))), (2, .int (zI ((((sAdd S k i) ||| (2 ^ i) : Nat) : Int)))), (0, .ref hp), (1, .int (zI (((set : Nat) : Int))))]) hx hb dX2_mended_73 hl (k := 1) rfl (by decide) rfl (fun ls hl => ?_)
                  refine lv_goto (tgt := 47) hx hb dX2_mended_76 (by decide) ?_
                  exact ih_47 (i + 1) _ _ (by omega) (by omega) (by first | rfl | omega) (by simp only [sAdd]; first | rw [if_pos c64] | rw [if_neg c64]) _ _ _ w (lv_sub hl [0, 1, 2, 3] rfl)
          exact lp_47 ((zn S - 0) + 1) 0 _ _ (by omega) (by omega) (by first | rfl | omega) rfl _ _ _ w (lv_sub hl [0, 1, 2, 3] rfl)
        · skip
          refine lv_iload_n hx hb dX2_mended_27 rfl (lv_at hl 1 rfl) ?_
          refine lv_iconst (v := zI 1) hx hb dX2_mended_28 rfl ?_
          refine lv_aload_n hx hb dX2_mended_29 rfl (lv_at hl 2 rfl) ?_
          refine lv_iload_n hx hb dX2_mended_30 rfl (lv_at hl 1 rfl) ?_
          refine z_V_i (As := [.int (zI (((k : Nat) : Int)))]) (rest := [.int (zI (1)), .int (zI (((k : Nat) : Int)))]) (Wr := []) ⟨hx, hb, hml, hown, hts⟩ (c_X2_leastForItsSize l D hp hw hz h0 h1 h2 hl0 S hokp k (by omega)) (cwV 1 hts gX2_mended_X2_leastForItsSize rfl rfl rfl (by decide +kernel) ⟨Nat.le_of_ble_eq_true rfl, Nat.le_of_ble_eq_true rfl⟩) w (q0 := 0) rfl rfl rfl [0, 1, 2, 3, 4, 5, 6] rfl (by decide) [] rfl (by decide) (by decide) rfl hl.1 rfl (lv_room (Nat.le_of_ble_eq_true rfl)) dX2_mended_31 ⟨Nat.zero_le _, Nat.zero_le _⟩ (fun r W1 H locs hp w => ?_)
          obtain ⟨rfl, rfl⟩ := hp
          have w : zW D A s.heap s [(hp, .inr (2, [.ref hw, .ref hz, .ref hl0, .int (zI (S 0))])), (hw, .inl (D.2 0, 16, .inl (fC S 0))), (hz, .inl (D.2 5, 3, .inr (.inr (.inr (.inr (f3 h0 h1 h2)))))), (h0, .inl (D.2 0, 16, .inl (fC S 1))), (h1, .inl (D.2 0, 16, .inl (fC S 2))), (h2, .inl (D.2 0, 16, .inl (fC S 3))), (hl0, .inl (D.2 0, 3, .inl (fLm S)))] H locs := w.sub [0, 1, 2, 3, 4, 5, 6] (by decide) rfl
          have hlk := sLst_b S k (zn S)
          rw [← Int.toNat_of_nonneg (show 0 ≤ max 0 (sLst S k (zn S)) by omega)]
          refine z_ishl1 (b := (max 0 (sLst S k (zn S))).toNat) hx hb (by omega) dX2_mended_34 ?_
          refine lv_iconst (v := zI (-1)) hx hb dX2_mended_35 rfl ?_
          refine z_inot (b := 2 ^ ((max 0 (sLst S k (zn S))).toNat)) hx hb dX2_mended_36 ?_
          refine z_iandn (a := k) (b := 2 ^ ((max 0 (sLst S k (zn S))).toNat)) hx hb dX2_mended_37 ?_
          refine lv_istore_n (lv' := [(2, .int (zI (((zclr (k) (2 ^ ((max 0 (sLst S k (zn S))).toNat)) : Nat) : Int)))), (3, .int (zI (((j : Nat) : Int)))), (0, .ref hp), (1, .int (zI (((set : Nat) : Int))))]) hx hb dX2_mended_38 rfl hl (by decide) rfl (fun ls hl => ?_)
          refine z_iinc (lv' := [(3, .int (zI (((j : Nat) : Int) + 1))), (2, .int (zI (((zclr (k) (2 ^ ((max 0 (sLst S k (zn S))).toNat)) : Nat) : Int)))), (0, .ref hp), (1, .int (zI (((set : Nat) : Int))))]) hx hb dX2_mended_39 hl (k := 1) rfl (by decide) rfl (fun ls hl => ?_)
          refine lv_goto (tgt := 13) hx hb dX2_mended_42 (by decide) ?_
          exact ih_13 (j + 1) (zclr k (2 ^ (max 0 (sLst S k (zn S))).toNat)) _ _ (by omega) (by omega) (zclr_16 hk) (by have e9 : 16 - j = (16 - (j + 1)) + 1 := (by omega); rw [e9] at hkt; unfold sTake at hkt; rw [if_neg c24] at hkt; exact hkt) (by first | rfl | omega) (by first | rfl | omega) _ _ _ w (lv_sub hl [0, 1, 2, 3] rfl)
  exact lp_13 ((16 - 0) + 1) 0 (set &&& (2 ^ zn S - 1)) _ _ (by omega) (by omega) hm0 rfl (by first | rfl | omega) (by first | rfl | omega) _ _ _ w (lv_sub hl [0, 1, 2, 3] rfl)
set_option maxHeartbeats 6000000 in
set_option maxRecDepth 100000 in
theorem c_X2_append (l : Launch) (D : zD) (hp hw hz h0 h1 h2 hl0 : Nat) (S : Nat → Int) (hok : OkP S) (w0 a b c0 : Int) (hlt : zn S < 16) : zM l yX2_append wsX2_append (zR 2) zE0 D [.ref hp, .int (zI (w0)), .int (zI (a)), .int (zI (b)), .int (zI (c0))] (wPk D hp hw hz h0 h1 h2 hl0 S) (zQv D (fun W1 => W1 = (wPk D hp hw hz h0 h1 h2 hl0 (sAp S w0 a b c0)))) := by
  refine zM.of (cc := cX2_append) (maxL := 5) (ret := none) (by decide) rfl (Nat.le_of_ble_eq_true rfl) ?_
  intro p e s m below meth c A hx hb hml hown hts hr hlocks hE hnm w ls hl
  have hown : s.vm.findClass RX2 = some m.cls := hown
  have hl : lv_has ls 5 [(0, .ref hp), (1, .int (zI (w0))), (2, .int (zI (a))), (3, .int (zI (b))), (4, .int (zI (c0)))] := hl
  have f_9 : (Cond.fieldLink RX2 9 "RelaxedSteps$Packing" "worths" "[I").before _ s = true := hts _ (by decide +kernel)
  have f_23 : (Cond.fieldLink RX2 23 "RelaxedSteps$Packing" "items" "I").before _ s = true := hts _ (by decide +kernel)
  have f_17 : (Cond.fieldLink RX2 17 "RelaxedSteps$Packing" "sizes" "[[I").before _ s = true := hts _ (by decide +kernel)
  have inX2 : ∀ w ∈ u_ws RX2 TX2 4, w ∈ wsX2_append := by decide +kernel
  have hn := zn_eq hok
  have h16 := zn_le hok
  have hlim := hok.2.2
  have hokp := hok
  have w : zW D A s.heap s [(hp, .inr (2, [.ref hw, .ref hz, .ref hl0, .int (zI (S 0))])), (hw, .inl (D.2 0, 16, .inl (fC S 0))), (hz, .inl (D.2 5, 3, .inr (.inr (.inr (.inr (f3 h0 h1 h2)))))), (h0, .inl (D.2 0, 16, .inl (fC S 1))), (h1, .inl (D.2 0, 16, .inl (fC S 2))), (h2, .inl (D.2 0, 16, .inl (fC S 3))), (hl0, .inl (D.2 0, 3, .inl (fLm S)))] s.heap [] := w
  refine lv_aload_n hx hb dX2_append_0 rfl (lv_at hl 0 rfl) ?_
  refine z_V_i (As := []) (rest := []) (Wr := []) ⟨hx, hb, hml, hown, hts⟩ (c_X2_isFull l D hp hw hz h0 h1 h2 hl0 S hokp) (cwV 0 hts gX2_append_X2_isFull rfl rfl rfl (by decide +kernel) ⟨Nat.le_of_ble_eq_true rfl, Nat.le_of_ble_eq_true rfl⟩) w (q0 := 0) rfl rfl rfl [0, 1, 2, 3, 4, 5, 6] rfl (by decide) [] rfl (by decide) (by decide) rfl hl.1 rfl (lv_room (Nat.le_of_ble_eq_true rfl)) dX2_append_1 ⟨Nat.zero_le _, Nat.zero_le _⟩ (fun r W1 H locs hp w => ?_)
  obtain ⟨rfl, rfl⟩ := hp
  have w : zW D A s.heap s [(hp, .inr (2, [.ref hw, .ref hz, .ref hl0, .int (zI (S 0))])), (hw, .inl (D.2 0, 16, .inl (fC S 0))), (hz, .inl (D.2 5, 3, .inr (.inr (.inr (.inr (f3 h0 h1 h2)))))), (h0, .inl (D.2 0, 16, .inl (fC S 1))), (h1, .inl (D.2 0, 16, .inl (fC S 2))), (h2, .inl (D.2 0, 16, .inl (fC S 3))), (hl0, .inl (D.2 0, 3, .inl (fLm S)))] H locs := w.sub [0, 1, 2, 3, 4, 5, 6] (by decide) rfl
  refine z_if_eq_b (tgt := 8) hx hb dX2_append_4 (by decide) (fun c4 => ?_) (fun c4 => ?_)
  · skip
    refine lv_aload_n hx hb dX2_append_8 rfl (lv_at hl 0 rfl) ?_
    refine z_get hx hb hown hts w inX2 0 0 rfl rfl (by decide) f_9 rfl rfl dX2_append_9 ?_
    refine lv_aload_n hx hb dX2_append_12 rfl (lv_at hl 0 rfl) ?_
    refine z_get hx hb hown hts w inX2 0 3 rfl rfl (by decide) f_23 rfl rfl dX2_append_13 ?_
    refine lv_iload_n hx hb dX2_append_16 rfl (lv_at hl 1 rfl) ?_
    refine z_iast hx hb w 1 rfl (zn S) (by omega) (by decide) hn dX2_append_17 (fC (sAp S w0 a b c0) 0) (fun i hi => fC_ap (by omega) hi rfl) (fun H locs w => ?_)
    have w : zW D A s.heap s [(hp, .inr (2, [.ref hw, .ref hz, .ref hl0, .int (zI (S 0))])), (hw, .inl (D.2 0, 16, .inl (fC (sAp S w0 a b c0) 0))), (hz, .inl (D.2 5, 3, .inr (.inr (.inr (.inr (f3 h0 h1 h2)))))), (h0, .inl (D.2 0, 16, .inl (fC S 1))), (h1, .inl (D.2 0, 16, .inl (fC S 2))), (h2, .inl (D.2 0, 16, .inl (fC S 3))), (hl0, .inl (D.2 0, 3, .inl (fLm S)))] H locs := w
    refine lv_aload_n hx hb dX2_append_18 rfl (lv_at hl 0 rfl) ?_
    refine z_get hx hb hown hts w inX2 0 1 rfl rfl (by decide) f_17 rfl rfl dX2_append_19 ?_
    refine lv_iconst (v := zI 0) hx hb dX2_append_22 rfl ?_
    refine z_aald (t0 := 5) hx hb w 2 rfl rfl rfl 0 (by omega) (by decide) rfl (v := h0) rfl dX2_append_23 ?_
    refine lv_aload_n hx hb dX2_append_24 rfl (lv_at hl 0 rfl) ?_
    refine z_get hx hb hown hts w inX2 0 3 rfl rfl (by decide) f_23 rfl rfl dX2_append_25 ?_
    refine lv_iload_n hx hb dX2_append_28 rfl (lv_at hl 2 rfl) ?_
    refine z_iast hx hb w 3 rfl (zn S) (by omega) (by decide) hn dX2_append_29 (fC (sAp S w0 a b c0) 1) (fun i hi => fC_ap (by omega) hi rfl) (fun H locs w => ?_)
    have w : zW D A s.heap s [(hp, .inr (2, [.ref hw, .ref hz, .ref hl0, .int (zI (S 0))])), (hw, .inl (D.2 0, 16, .inl (fC (sAp S w0 a b c0) 0))), (hz, .inl (D.2 5, 3, .inr (.inr (.inr (.inr (f3 h0 h1 h2)))))), (h0, .inl (D.2 0, 16, .inl (fC (sAp S w0 a b c0) 1))), (h1, .inl (D.2 0, 16, .inl (fC S 2))), (h2, .inl (D.2 0, 16, .inl (fC S 3))), (hl0, .inl (D.2 0, 3, .inl (fLm S)))] H locs := w
    refine lv_aload_n hx hb dX2_append_30 rfl (lv_at hl 0 rfl) ?_
    refine z_get hx hb hown hts w inX2 0 1 rfl rfl (by decide) f_17 rfl rfl dX2_append_31 ?_
    refine lv_iconst (v := zI 1) hx hb dX2_append_34 rfl ?_
    refine z_aald (t0 := 5) hx hb w 2 rfl rfl rfl 1 (by omega) (by decide) rfl (v := h1) rfl dX2_append_35 ?_
    refine lv_aload_n hx hb dX2_append_36 rfl (lv_at hl 0 rfl) ?_
    refine z_get hx hb hown hts w inX2 0 3 rfl rfl (by decide) f_23 rfl rfl dX2_append_37 ?_
    refine lv_iload_n hx hb dX2_append_40 rfl (lv_at hl 3 rfl) ?_
    refine z_iast hx hb w 4 rfl (zn S) (by omega) (by decide) hn dX2_append_41 (fC (sAp S w0 a b c0) 2) (fun i hi => fC_ap (by omega) hi rfl) (fun H locs w => ?_)
    have w : zW D A s.heap s [(hp, .inr (2, [.ref hw, .ref hz, .ref hl0, .int (zI (S 0))])), (hw, .inl (D.2 0, 16, .inl (fC (sAp S w0 a b c0) 0))), (hz, .inl (D.2 5, 3, .inr (.inr (.inr (.inr (f3 h0 h1 h2)))))), (h0, .inl (D.2 0, 16, .inl (fC (sAp S w0 a b c0) 1))), (h1, .inl (D.2 0, 16, .inl (fC (sAp S w0 a b c0) 2))), (h2, .inl (D.2 0, 16, .inl (fC S 3))), (hl0, .inl (D.2 0, 3, .inl (fLm S)))] H locs := w
    refine lv_aload_n hx hb dX2_append_42 rfl (lv_at hl 0 rfl) ?_
    refine z_get hx hb hown hts w inX2 0 1 rfl rfl (by decide) f_17 rfl rfl dX2_append_43 ?_
    refine lv_iconst (v := zI 2) hx hb dX2_append_46 rfl ?_
    refine z_aald (t0 := 5) hx hb w 2 rfl rfl rfl 2 (by omega) (by decide) rfl (v := h2) rfl dX2_append_47 ?_
    refine lv_aload_n hx hb dX2_append_48 rfl (lv_at hl 0 rfl) ?_
    refine z_get hx hb hown hts w inX2 0 3 rfl rfl (by decide) f_23 rfl rfl dX2_append_49 ?_
    refine lv_iload hx hb dX2_append_52 (lv_at hl 4 rfl) ?_
    refine z_iast hx hb w 5 rfl (zn S) (by omega) (by decide) hn dX2_append_54 (fC (sAp S w0 a b c0) 3) (fun i hi => fC_ap (by omega) hi rfl) (fun H locs w => ?_)
    have w : zW D A s.heap s [(hp, .inr (2, [.ref hw, .ref hz, .ref hl0, .int (zI (S 0))])), (hw, .inl (D.2 0, 16, .inl (fC (sAp S w0 a b c0) 0))), (hz, .inl (D.2 5, 3, .inr (.inr (.inr (.inr (f3 h0 h1 h2)))))), (h0, .inl (D.2 0, 16, .inl (fC (sAp S w0 a b c0) 1))), (h1, .inl (D.2 0, 16, .inl (fC (sAp S w0 a b c0) 2))), (h2, .inl (D.2 0, 16, .inl (fC (sAp S w0 a b c0) 3))), (hl0, .inl (D.2 0, 3, .inl (fLm S)))] H locs := w
    refine lv_aload_n hx hb dX2_append_55 rfl (lv_at hl 0 rfl) ?_
    refine lv_dup hx hb dX2_append_56 rfl ?_
    refine z_get hx hb hown hts w inX2 0 3 rfl rfl (by decide) f_23 rfl rfl dX2_append_57 ?_
    refine lv_iconst (v := zI 1) hx hb dX2_append_60 rfl ?_
    refine z_iadd hx hb dX2_append_61 ?_
    refine z_put hx hb hown hts w inX2 tyX2 tyX2_ok nmX2 0 3 rfl rfl (by decide) f_23 rfl rfl (ty := .int) rfl rfl rfl (Nat.le_of_ble_eq_true rfl) dX2_append_62 (fun H locs w => ?_)
    have w : zW D A s.heap s [(hp, .inr (2, [.ref hw, .ref hz, .ref hl0, .int (zI ((S 0) + 1))])), (hw, .inl (D.2 0, 16, .inl (fC (sAp S w0 a b c0) 0))), (hz, .inl (D.2 5, 3, .inr (.inr (.inr (.inr (f3 h0 h1 h2)))))), (h0, .inl (D.2 0, 16, .inl (fC (sAp S w0 a b c0) 1))), (h1, .inl (D.2 0, 16, .inl (fC (sAp S w0 a b c0) 2))), (h2, .inl (D.2 0, 16, .inl (fC (sAp S w0 a b c0) 3))), (hl0, .inl (D.2 0, 3, .inl (fLm S)))] H locs := w
    exact z_vret hx hb hr hlocks w dX2_append_65 (by unfold wPk; rw [fLm_ap hlt]; rfl)
  · skip
    exact absurd c4 (by omega)
set_option maxHeartbeats 6000000 in
set_option maxRecDepth 100000 in
theorem c_X2_remove (l : Launch) (D : zD) (hp hw hz h0 h1 h2 hl0 : Nat) (S : Nat → Int) (hok : OkP S) (k : Nat) (hk : k < zn S) : zM l yX2_remove wsX2_remove (zR 2) zE0 D [.ref hp, .int (zI (((k : Nat) : Int)))] (wPk D hp hw hz h0 h1 h2 hl0 S) (zQv D (fun W1 => W1 = (wPk D hp hw hz h0 h1 h2 hl0 (sRm S k)))) := by
  refine zM.of (cc := cX2_remove) (maxL := 7) (ret := none) (by decide) rfl (Nat.le_of_ble_eq_true rfl) ?_
  intro p e s m below meth c A hx hb hml hown hts hr hlocks hE hnm w ls hl
  have hown : s.vm.findClass RX2 = some m.cls := hown
  have hl : lv_has ls 7 [(0, .ref hp), (1, .int (zI (((k : Nat) : Int))))] := hl
  have f_23 : (Cond.fieldLink RX2 23 "RelaxedSteps$Packing" "items" "I").before _ s = true := hts _ (by decide +kernel)
  have f_9 : (Cond.fieldLink RX2 9 "RelaxedSteps$Packing" "worths" "[I").before _ s = true := hts _ (by decide +kernel)
  have ac_l : (Cond.methodLink RX2 33 arraycopyName).before _ s = true := hts _ (by decide +kernel)
  have ac_n : (Cond.native arraycopyName).before _ s = true := hts _ (by decide +kernel)
  have ac_s : (Cond.static arraycopyName).before _ s = true := hts _ (by decide +kernel)
  have ac_i : (Cond.initialized "java/lang/System").before _ s = true := hts _ (by decide +kernel)
  have f_17 : (Cond.fieldLink RX2 17 "RelaxedSteps$Packing" "sizes" "[[I").before _ s = true := hts _ (by decide +kernel)
  have inX2 : ∀ w ∈ u_ws RX2 TX2 4, w ∈ wsX2_remove := by decide +kernel
  have hn := zn_eq hok
  have h16 := zn_le hok
  have hlim := hok.2.2
  have hokp := hok
  have w : zW D A s.heap s [(hp, .inr (2, [.ref hw, .ref hz, .ref hl0, .int (zI (S 0))])), (hw, .inl (D.2 0, 16, .inl (fC S 0))), (hz, .inl (D.2 5, 3, .inr (.inr (.inr (.inr (f3 h0 h1 h2)))))), (h0, .inl (D.2 0, 16, .inl (fC S 1))), (h1, .inl (D.2 0, 16, .inl (fC S 2))), (h2, .inl (D.2 0, 16, .inl (fC S 3))), (hl0, .inl (D.2 0, 3, .inl (fLm S)))] s.heap [] := w
  refine lv_aload_n hx hb dX2_remove_0 rfl (lv_at hl 0 rfl) ?_
  refine lv_iload_n hx hb dX2_remove_1 rfl (lv_at hl 1 rfl) ?_
  refine z_V_i (As := [.int (zI (((k : Nat) : Int)))]) (rest := []) (Wr := []) ⟨hx, hb, hml, hown, hts⟩ (c_X2_has l D hp hw hz h0 h1 h2 hl0 S hokp ((k : Nat) : Int) (by omega)) (cwV 1 hts gX2_remove_X2_has rfl rfl rfl (by decide +kernel) ⟨Nat.le_of_ble_eq_true rfl, Nat.le_of_ble_eq_true rfl⟩) w (q0 := 0) rfl rfl rfl [0, 1, 2, 3, 4, 5, 6] rfl (by decide) [] rfl (by decide) (by decide) rfl hl.1 rfl (lv_room (Nat.le_of_ble_eq_true rfl)) dX2_remove_2 ⟨Nat.zero_le _, Nat.zero_le _⟩ (fun r W1 H locs hp w => ?_)
  obtain ⟨rfl, rfl⟩ := hp
  have w : zW D A s.heap s [(hp, .inr (2, [.ref hw, .ref hz, .ref hl0, .int (zI (S 0))])), (hw, .inl (D.2 0, 16, .inl (fC S 0))), (hz, .inl (D.2 5, 3, .inr (.inr (.inr (.inr (f3 h0 h1 h2)))))), (h0, .inl (D.2 0, 16, .inl (fC S 1))), (h1, .inl (D.2 0, 16, .inl (fC S 2))), (h2, .inl (D.2 0, 16, .inl (fC S 3))), (hl0, .inl (D.2 0, 3, .inl (fLm S)))] H locs := w.sub [0, 1, 2, 3, 4, 5, 6] (by decide) rfl
  refine z_if_ne_b (tgt := 9) hx hb dX2_remove_5 (by decide) (fun c5 => ?_) (fun c5 => ?_)
  · skip
    refine lv_aload_n hx hb dX2_remove_9 rfl (lv_at hl 0 rfl) ?_
    refine z_get hx hb hown hts w inX2 0 3 rfl rfl (by decide) f_23 rfl rfl dX2_remove_10 ?_
    refine lv_iload_n hx hb dX2_remove_13 rfl (lv_at hl 1 rfl) ?_
    refine z_isub hx hb dX2_remove_14 ?_
    refine lv_iconst (v := zI 1) hx hb dX2_remove_15 rfl ?_
    refine z_isub hx hb dX2_remove_16 ?_
    refine lv_istore_n (lv' := [(2, .int (zI (((S 0) - ((k : Nat) : Int)) - 1))), (0, .ref hp), (1, .int (zI (((k : Nat) : Int))))]) hx hb dX2_remove_17 rfl hl (by decide) rfl (fun ls hl => ?_)
    refine lv_aload_n hx hb dX2_remove_18 rfl (lv_at hl 1 rfl) ?_
    refine z_get hx hb hown hts w inX2 0 0 rfl rfl (by decide) f_9 rfl rfl dX2_remove_19 ?_
    refine lv_iload_n hx hb dX2_remove_22 rfl (lv_at hl 2 rfl) ?_
    refine lv_iconst (v := zI 1) hx hb dX2_remove_23 rfl ?_
    refine z_iadd hx hb dX2_remove_24 ?_
    refine lv_aload_n hx hb dX2_remove_25 rfl (lv_at hl 1 rfl) ?_
    refine z_get hx hb hown hts w inX2 0 0 rfl rfl (by decide) f_9 rfl rfl dX2_remove_26 ?_
    refine lv_iload_n hx hb dX2_remove_29 rfl (lv_at hl 2 rfl) ?_
    refine lv_iload_n hx hb dX2_remove_30 rfl (lv_at hl 0 rfl) ?_
    refine z_copy (sp := (k + 1)) (dp := k) (n := (zn S - k - 1)) hx hb (by rw [hml]; exact hl.1.symm) hown ac_l ac_n ac_s ac_i w 1 1 rfl rfl (by omega) (by omega) rfl (by omega) (by decide) (by decide) (by omega) dX2_remove_31 (Nat.le_of_ble_eq_true rfl) (Nat.le_of_ble_eq_true rfl) (fC (sRm S k) 0) (fun i hi => fC_rm (what := 0) (by omega) hk h16 hi) (fun H locs w => ?_)
    have w : zW D A s.heap s [(hp, .inr (2, [.ref hw, .ref hz, .ref hl0, .int (zI (S 0))])), (hw, .inl (D.2 0, 16, .inl (fC (sRm S k) 0))), (hz, .inl (D.2 5, 3, .inr (.inr (.inr (.inr (f3 h0 h1 h2)))))), (h0, .inl (D.2 0, 16, .inl (fC S 1))), (h1, .inl (D.2 0, 16, .inl (fC S 2))), (h2, .inl (D.2 0, 16, .inl (fC S 3))), (hl0, .inl (D.2 0, 3, .inl (fLm S)))] H locs := w
    refine lv_aload_n hx hb dX2_remove_34 rfl (lv_at hl 1 rfl) ?_
    refine z_get hx hb hown hts w inX2 0 1 rfl rfl (by decide) f_17 rfl rfl dX2_remove_35 ?_
    refine lv_astore_n (lv' := [(3, .ref hz), (2, .int (zI (((S 0) - ((k : Nat) : Int)) - 1))), (0, .ref hp), (1, .int (zI (((k : Nat) : Int))))]) hx hb dX2_remove_38 rfl hl (by decide) rfl (fun ls hl => ?_)
    refine lv_aload_n hx hb dX2_remove_39 rfl (lv_at hl 0 rfl) ?_
    refine z_alen (t0 := 5) hx hb w 2 rfl rfl (v := zI 3) (show Int32.ofNat 3 = zI 3 by decide +kernel) dX2_remove_40 ?_
    refine lv_istore (lv' := [(4, .int (zI (3))), (3, .ref hz), (2, .int (zI (((S 0) - ((k : Nat) : Int)) - 1))), (0, .ref hp), (1, .int (zI (((k : Nat) : Int))))]) hx hb dX2_remove_41 hl (by decide) rfl (fun ls hl => ?_)
    refine lv_iconst (v := zI 0) hx hb dX2_remove_43 rfl ?_
    refine lv_istore (lv' := [(5, .int (zI (0))), (4, .int (zI (3))), (3, .ref hz), (2, .int (zI (((S 0) - ((k : Nat) : Int)) - 1))), (0, .ref hp), (1, .int (zI (((k : Nat) : Int))))]) hx hb dX2_remove_44 hl (by decide) rfl (fun ls hl => ?_)
    refine lv_iload hx hb dX2_remove_46 (lv_at hl 0 rfl) ?_
    refine lv_iload hx hb dX2_remove_48 (lv_at hl 1 rfl) ?_
    refine z_icmp_ge (tgt := 77) hx hb (by omega) (by omega) dX2_remove_50 (by decide) (fun c50 => ?_) (fun c50 => ?_)
    · skip
      exact absurd c50 (by omega)
    · skip
      refine lv_aload_n hx hb dX2_remove_53 rfl (lv_at hl 2 rfl) ?_
      refine lv_iload hx hb dX2_remove_54 (lv_at hl 0 rfl) ?_
      refine z_aald (t0 := 5) hx hb w 2 rfl rfl rfl 0 (by omega) (by decide) rfl (v := h0) rfl dX2_remove_56 ?_
      refine lv_astore (lv' := [(6, .ref h0), (5, .int (zI (0))), (4, .int (zI (3))), (3, .ref hz), (2, .int (zI (((S 0) - ((k : Nat) : Int)) - 1))), (0, .ref hp), (1, .int (zI (((k : Nat) : Int))))]) hx hb dX2_remove_57 hl (by decide) rfl (fun ls hl => ?_)
      refine lv_aload hx hb dX2_remove_59 (lv_at hl 0 rfl) ?_
      refine lv_iload_n hx hb dX2_remove_61 rfl (lv_at hl 6 rfl) ?_
      refine lv_iconst (v := zI 1) hx hb dX2_remove_62 rfl ?_
      refine z_iadd hx hb dX2_remove_63 ?_
      refine lv_aload hx hb dX2_remove_64 (lv_at hl 0 rfl) ?_
      refine lv_iload_n hx hb dX2_remove_66 rfl (lv_at hl 6 rfl) ?_
      refine lv_iload_n hx hb dX2_remove_67 rfl (lv_at hl 4 rfl) ?_
      refine z_copy (sp := (k + 1)) (dp := k) (n := (zn S - k - 1)) hx hb (by rw [hml]; exact hl.1.symm) hown ac_l ac_n ac_s ac_i w 3 3 rfl rfl (by omega) (by omega) rfl (by omega) (by decide) (by decide) (by omega) dX2_remove_68 (Nat.le_of_ble_eq_true rfl) (Nat.le_of_ble_eq_true rfl) (fC (sRm S k) 1) (fun i hi => fC_rm (what := 1) (by omega) hk h16 hi) (fun H locs w => ?_)
      have w : zW D A s.heap s [(hp, .inr (2, [.ref hw, .ref hz, .ref hl0, .int (zI (S 0))])), (hw, .inl (D.2 0, 16, .inl (fC (sRm S k) 0))), (hz, .inl (D.2 5, 3, .inr (.inr (.inr (.inr (f3 h0 h1 h2)))))), (h0, .inl (D.2 0, 16, .inl (fC (sRm S k) 1))), (h1, .inl (D.2 0, 16, .inl (fC S 2))), (h2, .inl (D.2 0, 16, .inl (fC S 3))), (hl0, .inl (D.2 0, 3, .inl (fLm S)))] H locs := w
      refine z_iinc (lv' := [(5, .int (zI (0 + 1))), (6, .ref h0), (4, .int (zI (3))), (3, .ref hz), (2, .int (zI (((S 0) - ((k : Nat) : Int)) - 1))), (0, .ref hp), (1, .int (zI (((k : Nat) : Int))))]) hx hb dX2_remove_71 hl (k := 1) rfl (by decide) rfl (fun ls hl => ?_)
      have hl : lv_has ls 7 [(5, .int (zI (1))), (6, .ref h0), (4, .int (zI (3))), (3, .ref hz), (2, .int (zI (((S 0) - ((k : Nat) : Int)) - 1))), (0, .ref hp), (1, .int (zI (((k : Nat) : Int))))] := hl
      refine lv_goto (tgt := 46) hx hb dX2_remove_74 (by decide) ?_
      refine lv_iload hx hb dX2_remove_46 (lv_at hl 0 rfl) ?_
      refine lv_iload hx hb dX2_remove_48 (lv_at hl 2 rfl) ?_
      refine z_icmp_ge (tgt := 77) hx hb (by omega) (by omega) dX2_remove_50 (by decide) (fun c50 => ?_) (fun c50 => ?_)
      · skip
        exact absurd c50 (by omega)
      · skip
        refine lv_aload_n hx hb dX2_remove_53 rfl (lv_at hl 3 rfl) ?_
        refine lv_iload hx hb dX2_remove_54 (lv_at hl 0 rfl) ?_
        refine z_aald (t0 := 5) hx hb w 2 rfl rfl rfl 1 (by omega) (by decide) rfl (v := h1) rfl dX2_remove_56 ?_
        refine lv_astore (lv' := [(6, .ref h1), (5, .int (zI (1))), (4, .int (zI (3))), (3, .ref hz), (2, .int (zI (((S 0) - ((k : Nat) : Int)) - 1))), (0, .ref hp), (1, .int (zI (((k : Nat) : Int))))]) hx hb dX2_remove_57 hl (by decide) rfl (fun ls hl => ?_)
        refine lv_aload hx hb dX2_remove_59 (lv_at hl 0 rfl) ?_
        refine lv_iload_n hx hb dX2_remove_61 rfl (lv_at hl 6 rfl) ?_
        refine lv_iconst (v := zI 1) hx hb dX2_remove_62 rfl ?_
        refine z_iadd hx hb dX2_remove_63 ?_
        refine lv_aload hx hb dX2_remove_64 (lv_at hl 0 rfl) ?_
        refine lv_iload_n hx hb dX2_remove_66 rfl (lv_at hl 6 rfl) ?_
        refine lv_iload_n hx hb dX2_remove_67 rfl (lv_at hl 4 rfl) ?_
        refine z_copy (sp := (k + 1)) (dp := k) (n := (zn S - k - 1)) hx hb (by rw [hml]; exact hl.1.symm) hown ac_l ac_n ac_s ac_i w 4 4 rfl rfl (by omega) (by omega) rfl (by omega) (by decide) (by decide) (by omega) dX2_remove_68 (Nat.le_of_ble_eq_true rfl) (Nat.le_of_ble_eq_true rfl) (fC (sRm S k) 2) (fun i hi => fC_rm (what := 2) (by omega) hk h16 hi) (fun H locs w => ?_)
        have w : zW D A s.heap s [(hp, .inr (2, [.ref hw, .ref hz, .ref hl0, .int (zI (S 0))])), (hw, .inl (D.2 0, 16, .inl (fC (sRm S k) 0))), (hz, .inl (D.2 5, 3, .inr (.inr (.inr (.inr (f3 h0 h1 h2)))))), (h0, .inl (D.2 0, 16, .inl (fC (sRm S k) 1))), (h1, .inl (D.2 0, 16, .inl (fC (sRm S k) 2))), (h2, .inl (D.2 0, 16, .inl (fC S 3))), (hl0, .inl (D.2 0, 3, .inl (fLm S)))] H locs := w
        refine z_iinc (lv' := [(5, .int (zI (1 + 1))), (6, .ref h1), (4, .int (zI (3))), (3, .ref hz), (2, .int (zI (((S 0) - ((k : Nat) : Int)) - 1))), (0, .ref hp), (1, .int (zI (((k : Nat) : Int))))]) hx hb dX2_remove_71 hl (k := 1) rfl (by decide) rfl (fun ls hl => ?_)
        have hl : lv_has ls 7 [(5, .int (zI (2))), (6, .ref h1), (4, .int (zI (3))), (3, .ref hz), (2, .int (zI (((S 0) - ((k : Nat) : Int)) - 1))), (0, .ref hp), (1, .int (zI (((k : Nat) : Int))))] := hl
        refine lv_goto (tgt := 46) hx hb dX2_remove_74 (by decide) ?_
        refine lv_iload hx hb dX2_remove_46 (lv_at hl 0 rfl) ?_
        refine lv_iload hx hb dX2_remove_48 (lv_at hl 2 rfl) ?_
        refine z_icmp_ge (tgt := 77) hx hb (by omega) (by omega) dX2_remove_50 (by decide) (fun c50 => ?_) (fun c50 => ?_)
        · skip
          exact absurd c50 (by omega)
        · skip
          refine lv_aload_n hx hb dX2_remove_53 rfl (lv_at hl 3 rfl) ?_
          refine lv_iload hx hb dX2_remove_54 (lv_at hl 0 rfl) ?_
          refine z_aald (t0 := 5) hx hb w 2 rfl rfl rfl 2 (by omega) (by decide) rfl (v := h2) rfl dX2_remove_56 ?_
          refine lv_astore (lv' := [(6, .ref h2), (5, .int (zI (2))), (4, .int (zI (3))), (3, .ref hz), (2, .int (zI (((S 0) - ((k : Nat) : Int)) - 1))), (0, .ref hp), (1, .int (zI (((k : Nat) : Int))))]) hx hb dX2_remove_57 hl (by decide) rfl (fun ls hl => ?_)
          refine lv_aload hx hb dX2_remove_59 (lv_at hl 0 rfl) ?_
          refine lv_iload_n hx hb dX2_remove_61 rfl (lv_at hl 6 rfl) ?_
          refine lv_iconst (v := zI 1) hx hb dX2_remove_62 rfl ?_
          refine z_iadd hx hb dX2_remove_63 ?_
          refine lv_aload hx hb dX2_remove_64 (lv_at hl 0 rfl) ?_
          refine lv_iload_n hx hb dX2_remove_66 rfl (lv_at hl 6 rfl) ?_
          refine lv_iload_n hx hb dX2_remove_67 rfl (lv_at hl 4 rfl) ?_
          refine z_copy (sp := (k + 1)) (dp := k) (n := (zn S - k - 1)) hx hb (by rw [hml]; exact hl.1.symm) hown ac_l ac_n ac_s ac_i w 5 5 rfl rfl (by omega) (by omega) rfl (by omega) (by decide) (by decide) (by omega) dX2_remove_68 (Nat.le_of_ble_eq_true rfl) (Nat.le_of_ble_eq_true rfl) (fC (sRm S k) 3) (fun i hi => fC_rm (what := 3) (by omega) hk h16 hi) (fun H locs w => ?_)
          have w : zW D A s.heap s [(hp, .inr (2, [.ref hw, .ref hz, .ref hl0, .int (zI (S 0))])), (hw, .inl (D.2 0, 16, .inl (fC (sRm S k) 0))), (hz, .inl (D.2 5, 3, .inr (.inr (.inr (.inr (f3 h0 h1 h2)))))), (h0, .inl (D.2 0, 16, .inl (fC (sRm S k) 1))), (h1, .inl (D.2 0, 16, .inl (fC (sRm S k) 2))), (h2, .inl (D.2 0, 16, .inl (fC (sRm S k) 3))), (hl0, .inl (D.2 0, 3, .inl (fLm S)))] H locs := w
          refine z_iinc (lv' := [(5, .int (zI (2 + 1))), (6, .ref h2), (4, .int (zI (3))), (3, .ref hz), (2, .int (zI (((S 0) - ((k : Nat) : Int)) - 1))), (0, .ref hp), (1, .int (zI (((k : Nat) : Int))))]) hx hb dX2_remove_71 hl (k := 1) rfl (by decide) rfl (fun ls hl => ?_)
          have hl : lv_has ls 7 [(5, .int (zI (3))), (6, .ref h2), (4, .int (zI (3))), (3, .ref hz), (2, .int (zI (((S 0) - ((k : Nat) : Int)) - 1))), (0, .ref hp), (1, .int (zI (((k : Nat) : Int))))] := hl
          refine lv_goto (tgt := 46) hx hb dX2_remove_74 (by decide) ?_
          refine lv_iload hx hb dX2_remove_46 (lv_at hl 0 rfl) ?_
          refine lv_iload hx hb dX2_remove_48 (lv_at hl 2 rfl) ?_
          refine z_icmp_ge (tgt := 77) hx hb (by omega) (by omega) dX2_remove_50 (by decide) (fun c50 => ?_) (fun c50 => ?_)
          · skip
            refine lv_aload_n hx hb dX2_remove_77 rfl (lv_at hl 5 rfl) ?_
            refine lv_dup hx hb dX2_remove_78 rfl ?_
            refine z_get hx hb hown hts w inX2 0 3 rfl rfl (by decide) f_23 rfl rfl dX2_remove_79 ?_
            refine lv_iconst (v := zI 1) hx hb dX2_remove_82 rfl ?_
            refine z_isub hx hb dX2_remove_83 ?_
            refine z_put hx hb hown hts w inX2 tyX2 tyX2_ok nmX2 0 3 rfl rfl (by decide) f_23 rfl rfl (ty := .int) rfl rfl rfl (Nat.le_of_ble_eq_true rfl) dX2_remove_84 (fun H locs w => ?_)
            have w : zW D A s.heap s [(hp, .inr (2, [.ref hw, .ref hz, .ref hl0, .int (zI ((S 0) - 1))])), (hw, .inl (D.2 0, 16, .inl (fC (sRm S k) 0))), (hz, .inl (D.2 5, 3, .inr (.inr (.inr (.inr (f3 h0 h1 h2)))))), (h0, .inl (D.2 0, 16, .inl (fC (sRm S k) 1))), (h1, .inl (D.2 0, 16, .inl (fC (sRm S k) 2))), (h2, .inl (D.2 0, 16, .inl (fC (sRm S k) 3))), (hl0, .inl (D.2 0, 3, .inl (fLm S)))] H locs := w
            exact z_vret hx hb hr hlocks w dX2_remove_87 (by unfold wPk; rw [fLm_rm h16]; rfl)
          · skip
            exact absurd c50 (by omega)
  · skip
    exact absurd (show 0 ≤ (k : Int) ∧ (k : Int) ≤ S 0 - 1 by omega) c5
set_option maxHeartbeats 6000000 in
set_option maxRecDepth 100000 in
theorem c_X2_copyFrom (l : Launch) (D : zD) (hp hw hz h0 h1 h2 hl0 : Nat) (S : Nat → Int) (hpo hwo hzo h0o h1o h2o hl0o : Nat) (T : Nat → Int) : zM l yX2_copyFrom wsX2_copyFrom (zR 1) zE0 D [.ref hp, .ref hpo] (wPk D hp hw hz h0 h1 h2 hl0 S ++ wPk D hpo hwo hzo h0o h1o h2o hl0o T) (zQv D (fun W1 => W1 = (wPk D hp hw hz h0 h1 h2 hl0 T ++ wPk D hpo hwo hzo h0o h1o h2o hl0o T))) := by
  refine zM.of (cc := cX2_copyFrom) (maxL := 3) (ret := none) (by decide) rfl (Nat.le_of_ble_eq_true rfl) ?_
  intro p e s m below meth c A hx hb hml hown hts hr hlocks hE hnm w ls hl
  have hown : s.vm.findClass RX2 = some m.cls := hown
  have hl : lv_has ls 3 [(0, .ref hp), (1, .ref hpo)] := hl
  have f_9 : (Cond.fieldLink RX2 9 "RelaxedSteps$Packing" "worths" "[I").before _ s = true := hts _ (by decide +kernel)
  have ac_l : (Cond.methodLink RX2 33 arraycopyName).before _ s = true := hts _ (by decide +kernel)
  have ac_n : (Cond.native arraycopyName).before _ s = true := hts _ (by decide +kernel)
  have ac_s : (Cond.static arraycopyName).before _ s = true := hts _ (by decide +kernel)
  have ac_i : (Cond.initialized "java/lang/System").before _ s = true := hts _ (by decide +kernel)
  have f_17 : (Cond.fieldLink RX2 17 "RelaxedSteps$Packing" "sizes" "[[I").before _ s = true := hts _ (by decide +kernel)
  have f_20 : (Cond.fieldLink RX2 20 "RelaxedSteps$Packing" "limits" "[I").before _ s = true := hts _ (by decide +kernel)
  have f_23 : (Cond.fieldLink RX2 23 "RelaxedSteps$Packing" "items" "I").before _ s = true := hts _ (by decide +kernel)
  have inX2 : ∀ w ∈ u_ws RX2 TX2 4, w ∈ wsX2_copyFrom := by decide +kernel
  have w : zW D A s.heap s [(hp, .inr (2, [.ref hw, .ref hz, .ref hl0, .int (zI (S 0))])), (hw, .inl (D.2 0, 16, .inl (fC S 0))), (hz, .inl (D.2 5, 3, .inr (.inr (.inr (.inr (f3 h0 h1 h2)))))), (h0, .inl (D.2 0, 16, .inl (fC S 1))), (h1, .inl (D.2 0, 16, .inl (fC S 2))), (h2, .inl (D.2 0, 16, .inl (fC S 3))), (hl0, .inl (D.2 0, 3, .inl (fLm S))), (hpo, .inr (2, [.ref hwo, .ref hzo, .ref hl0o, .int (zI (T 0))])), (hwo, .inl (D.2 0, 16, .inl (fC T 0))), (hzo, .inl (D.2 5, 3, .inr (.inr (.inr (.inr (f3 h0o h1o h2o)))))), (h0o, .inl (D.2 0, 16, .inl (fC T 1))), (h1o, .inl (D.2 0, 16, .inl (fC T 2))), (h2o, .inl (D.2 0, 16, .inl (fC T 3))), (hl0o, .inl (D.2 0, 3, .inl (fLm T)))] s.heap [] := w
  refine lv_aload_n hx hb dX2_copyFrom_0 rfl (lv_at hl 1 rfl) ?_
  refine z_get hx hb hown hts w inX2 7 0 rfl rfl (by decide) f_9 rfl rfl dX2_copyFrom_1 ?_
  refine lv_iconst (v := zI 0) hx hb dX2_copyFrom_4 rfl ?_
  refine lv_aload_n hx hb dX2_copyFrom_5 rfl (lv_at hl 0 rfl) ?_
  refine z_get hx hb hown hts w inX2 0 0 rfl rfl (by decide) f_9 rfl rfl dX2_copyFrom_6 ?_
  refine lv_iconst (v := zI 0) hx hb dX2_copyFrom_9 rfl ?_
  refine lv_bipush (v := zI 16) hx hb dX2_copyFrom_10 (by decide +kernel) ?_
  refine z_copy (sp := 0) (dp := 0) (n := 16) hx hb (by rw [hml]; exact hl.1.symm) hown ac_l ac_n ac_s ac_i w 8 1 rfl rfl (by omega) rfl rfl rfl (by decide) (by decide) (by omega) dX2_copyFrom_12 (Nat.le_of_ble_eq_true rfl) (Nat.le_of_ble_eq_true rfl) (fC T 0) (fun i hi => zcpy_all hi) (fun H locs w => ?_)
  have w : zW D A s.heap s [(hp, .inr (2, [.ref hw, .ref hz, .ref hl0, .int (zI (S 0))])), (hw, .inl (D.2 0, 16, .inl (fC T 0))), (hz, .inl (D.2 5, 3, .inr (.inr (.inr (.inr (f3 h0 h1 h2)))))), (h0, .inl (D.2 0, 16, .inl (fC S 1))), (h1, .inl (D.2 0, 16, .inl (fC S 2))), (h2, .inl (D.2 0, 16, .inl (fC S 3))), (hl0, .inl (D.2 0, 3, .inl (fLm S))), (hpo, .inr (2, [.ref hwo, .ref hzo, .ref hl0o, .int (zI (T 0))])), (hwo, .inl (D.2 0, 16, .inl (fC T 0))), (hzo, .inl (D.2 5, 3, .inr (.inr (.inr (.inr (f3 h0o h1o h2o)))))), (h0o, .inl (D.2 0, 16, .inl (fC T 1))), (h1o, .inl (D.2 0, 16, .inl (fC T 2))), (h2o, .inl (D.2 0, 16, .inl (fC T 3))), (hl0o, .inl (D.2 0, 3, .inl (fLm T)))] H locs := w
  refine lv_iconst (v := zI 0) hx hb dX2_copyFrom_15 rfl ?_
  refine lv_istore_n (lv' := [(2, .int (zI (0))), (0, .ref hp), (1, .ref hpo)]) hx hb dX2_copyFrom_16 rfl hl (by decide) rfl (fun ls hl => ?_)
  refine lv_iload_n hx hb dX2_copyFrom_17 rfl (lv_at hl 0 rfl) ?_
  refine lv_iconst (v := zI 3) hx hb dX2_copyFrom_18 rfl ?_
  refine z_icmp_ge (tgt := 47) hx hb (by omega) (by omega) dX2_copyFrom_19 (by decide) (fun c19 => ?_) (fun c19 => ?_)
  · skip
    exact absurd c19 (by omega)
  · skip
    refine lv_aload_n hx hb dX2_copyFrom_22 rfl (lv_at hl 2 rfl) ?_
    refine z_get hx hb hown hts w inX2 7 1 rfl rfl (by decide) f_17 rfl rfl dX2_copyFrom_23 ?_
    refine lv_iload_n hx hb dX2_copyFrom_26 rfl (lv_at hl 0 rfl) ?_
    refine z_aald (t0 := 5) hx hb w 9 rfl rfl rfl 0 (by omega) (by decide) rfl (v := h0o) rfl dX2_copyFrom_27 ?_
    refine lv_iconst (v := zI 0) hx hb dX2_copyFrom_28 rfl ?_
    refine lv_aload_n hx hb dX2_copyFrom_29 rfl (lv_at hl 1 rfl) ?_
    refine z_get hx hb hown hts w inX2 0 1 rfl rfl (by decide) f_17 rfl rfl dX2_copyFrom_30 ?_
    refine lv_iload_n hx hb dX2_copyFrom_33 rfl (lv_at hl 0 rfl) ?_
    refine z_aald (t0 := 5) hx hb w 2 rfl rfl rfl 0 (by omega) (by decide) rfl (v := h0) rfl dX2_copyFrom_34 ?_
    refine lv_iconst (v := zI 0) hx hb dX2_copyFrom_35 rfl ?_
    refine lv_bipush (v := zI 16) hx hb dX2_copyFrom_36 (by decide +kernel) ?_
    refine z_copy (sp := 0) (dp := 0) (n := 16) hx hb (by rw [hml]; exact hl.1.symm) hown ac_l ac_n ac_s ac_i w 10 3 rfl rfl (by omega) rfl rfl rfl (by decide) (by decide) (by omega) dX2_copyFrom_38 (Nat.le_of_ble_eq_true rfl) (Nat.le_of_ble_eq_true rfl) (fC T 1) (fun i hi => zcpy_all hi) (fun H locs w => ?_)
    have w : zW D A s.heap s [(hp, .inr (2, [.ref hw, .ref hz, .ref hl0, .int (zI (S 0))])), (hw, .inl (D.2 0, 16, .inl (fC T 0))), (hz, .inl (D.2 5, 3, .inr (.inr (.inr (.inr (f3 h0 h1 h2)))))), (h0, .inl (D.2 0, 16, .inl (fC T 1))), (h1, .inl (D.2 0, 16, .inl (fC S 2))), (h2, .inl (D.2 0, 16, .inl (fC S 3))), (hl0, .inl (D.2 0, 3, .inl (fLm S))), (hpo, .inr (2, [.ref hwo, .ref hzo, .ref hl0o, .int (zI (T 0))])), (hwo, .inl (D.2 0, 16, .inl (fC T 0))), (hzo, .inl (D.2 5, 3, .inr (.inr (.inr (.inr (f3 h0o h1o h2o)))))), (h0o, .inl (D.2 0, 16, .inl (fC T 1))), (h1o, .inl (D.2 0, 16, .inl (fC T 2))), (h2o, .inl (D.2 0, 16, .inl (fC T 3))), (hl0o, .inl (D.2 0, 3, .inl (fLm T)))] H locs := w
    refine z_iinc (lv' := [(2, .int (zI (0 + 1))), (0, .ref hp), (1, .ref hpo)]) hx hb dX2_copyFrom_41 hl (k := 0) rfl (by decide) rfl (fun ls hl => ?_)
    have hl : lv_has ls 3 [(2, .int (zI (1))), (0, .ref hp), (1, .ref hpo)] := hl
    refine lv_goto (tgt := 17) hx hb dX2_copyFrom_44 (by decide) ?_
    refine lv_iload_n hx hb dX2_copyFrom_17 rfl (lv_at hl 0 rfl) ?_
    refine lv_iconst (v := zI 3) hx hb dX2_copyFrom_18 rfl ?_
    refine z_icmp_ge (tgt := 47) hx hb (by omega) (by omega) dX2_copyFrom_19 (by decide) (fun c19 => ?_) (fun c19 => ?_)
    · skip
      exact absurd c19 (by omega)
    · skip
      refine lv_aload_n hx hb dX2_copyFrom_22 rfl (lv_at hl 2 rfl) ?_
      refine z_get hx hb hown hts w inX2 7 1 rfl rfl (by decide) f_17 rfl rfl dX2_copyFrom_23 ?_
      refine lv_iload_n hx hb dX2_copyFrom_26 rfl (lv_at hl 0 rfl) ?_
      refine z_aald (t0 := 5) hx hb w 9 rfl rfl rfl 1 (by omega) (by decide) rfl (v := h1o) rfl dX2_copyFrom_27 ?_
      refine lv_iconst (v := zI 0) hx hb dX2_copyFrom_28 rfl ?_
      refine lv_aload_n hx hb dX2_copyFrom_29 rfl (lv_at hl 1 rfl) ?_
      refine z_get hx hb hown hts w inX2 0 1 rfl rfl (by decide) f_17 rfl rfl dX2_copyFrom_30 ?_
      refine lv_iload_n hx hb dX2_copyFrom_33 rfl (lv_at hl 0 rfl) ?_
      refine z_aald (t0 := 5) hx hb w 2 rfl rfl rfl 1 (by omega) (by decide) rfl (v := h1) rfl dX2_copyFrom_34 ?_
      refine lv_iconst (v := zI 0) hx hb dX2_copyFrom_35 rfl ?_
      refine lv_bipush (v := zI 16) hx hb dX2_copyFrom_36 (by decide +kernel) ?_
      refine z_copy (sp := 0) (dp := 0) (n := 16) hx hb (by rw [hml]; exact hl.1.symm) hown ac_l ac_n ac_s ac_i w 11 4 rfl rfl (by omega) rfl rfl rfl (by decide) (by decide) (by omega) dX2_copyFrom_38 (Nat.le_of_ble_eq_true rfl) (Nat.le_of_ble_eq_true rfl) (fC T 2) (fun i hi => zcpy_all hi) (fun H locs w => ?_)
      have w : zW D A s.heap s [(hp, .inr (2, [.ref hw, .ref hz, .ref hl0, .int (zI (S 0))])), (hw, .inl (D.2 0, 16, .inl (fC T 0))), (hz, .inl (D.2 5, 3, .inr (.inr (.inr (.inr (f3 h0 h1 h2)))))), (h0, .inl (D.2 0, 16, .inl (fC T 1))), (h1, .inl (D.2 0, 16, .inl (fC T 2))), (h2, .inl (D.2 0, 16, .inl (fC S 3))), (hl0, .inl (D.2 0, 3, .inl (fLm S))), (hpo, .inr (2, [.ref hwo, .ref hzo, .ref hl0o, .int (zI (T 0))])), (hwo, .inl (D.2 0, 16, .inl (fC T 0))), (hzo, .inl (D.2 5, 3, .inr (.inr (.inr (.inr (f3 h0o h1o h2o)))))), (h0o, .inl (D.2 0, 16, .inl (fC T 1))), (h1o, .inl (D.2 0, 16, .inl (fC T 2))), (h2o, .inl (D.2 0, 16, .inl (fC T 3))), (hl0o, .inl (D.2 0, 3, .inl (fLm T)))] H locs := w
      refine z_iinc (lv' := [(2, .int (zI (1 + 1))), (0, .ref hp), (1, .ref hpo)]) hx hb dX2_copyFrom_41 hl (k := 0) rfl (by decide) rfl (fun ls hl => ?_)
      have hl : lv_has ls 3 [(2, .int (zI (2))), (0, .ref hp), (1, .ref hpo)] := hl
      refine lv_goto (tgt := 17) hx hb dX2_copyFrom_44 (by decide) ?_
      refine lv_iload_n hx hb dX2_copyFrom_17 rfl (lv_at hl 0 rfl) ?_
      refine lv_iconst (v := zI 3) hx hb dX2_copyFrom_18 rfl ?_
      refine z_icmp_ge (tgt := 47) hx hb (by omega) (by omega) dX2_copyFrom_19 (by decide) (fun c19 => ?_) (fun c19 => ?_)
      · skip
        exact absurd c19 (by omega)
      · skip
        refine lv_aload_n hx hb dX2_copyFrom_22 rfl (lv_at hl 2 rfl) ?_
        refine z_get hx hb hown hts w inX2 7 1 rfl rfl (by decide) f_17 rfl rfl dX2_copyFrom_23 ?_
        refine lv_iload_n hx hb dX2_copyFrom_26 rfl (lv_at hl 0 rfl) ?_
        refine z_aald (t0 := 5) hx hb w 9 rfl rfl rfl 2 (by omega) (by decide) rfl (v := h2o) rfl dX2_copyFrom_27 ?_
        refine lv_iconst (v := zI 0) hx hb dX2_copyFrom_28 rfl ?_
        refine lv_aload_n hx hb dX2_copyFrom_29 rfl (lv_at hl 1 rfl) ?_
        refine z_get hx hb hown hts w inX2 0 1 rfl rfl (by decide) f_17 rfl rfl dX2_copyFrom_30 ?_
        refine lv_iload_n hx hb dX2_copyFrom_33 rfl (lv_at hl 0 rfl) ?_
        refine z_aald (t0 := 5) hx hb w 2 rfl rfl rfl 2 (by omega) (by decide) rfl (v := h2) rfl dX2_copyFrom_34 ?_
        refine lv_iconst (v := zI 0) hx hb dX2_copyFrom_35 rfl ?_
        refine lv_bipush (v := zI 16) hx hb dX2_copyFrom_36 (by decide +kernel) ?_
        refine z_copy (sp := 0) (dp := 0) (n := 16) hx hb (by rw [hml]; exact hl.1.symm) hown ac_l ac_n ac_s ac_i w 12 5 rfl rfl (by omega) rfl rfl rfl (by decide) (by decide) (by omega) dX2_copyFrom_38 (Nat.le_of_ble_eq_true rfl) (Nat.le_of_ble_eq_true rfl) (fC T 3) (fun i hi => zcpy_all hi) (fun H locs w => ?_)
        have w : zW D A s.heap s [(hp, .inr (2, [.ref hw, .ref hz, .ref hl0, .int (zI (S 0))])), (hw, .inl (D.2 0, 16, .inl (fC T 0))), (hz, .inl (D.2 5, 3, .inr (.inr (.inr (.inr (f3 h0 h1 h2)))))), (h0, .inl (D.2 0, 16, .inl (fC T 1))), (h1, .inl (D.2 0, 16, .inl (fC T 2))), (h2, .inl (D.2 0, 16, .inl (fC T 3))), (hl0, .inl (D.2 0, 3, .inl (fLm S))), (hpo, .inr (2, [.ref hwo, .ref hzo, .ref hl0o, .int (zI (T 0))])), (hwo, .inl (D.2 0, 16, .inl (fC T 0))), (hzo, .inl (D.2 5, 3, .inr (.inr (.inr (.inr (f3 h0o h1o h2o)))))), (h0o, .inl (D.2 0, 16, .inl (fC T 1))), (h1o, .inl (D.2 0, 16, .inl (fC T 2))), (h2o, .inl (D.2 0, 16, .inl (fC T 3))), (hl0o, .inl (D.2 0, 3, .inl (fLm T)))] H locs := w
        refine z_iinc (lv' := [(2, .int (zI (2 + 1))), (0, .ref hp), (1, .ref hpo)]) hx hb dX2_copyFrom_41 hl (k := 0) rfl (by decide) rfl (fun ls hl => ?_)
        have hl : lv_has ls 3 [(2, .int (zI (3))), (0, .ref hp), (1, .ref hpo)] := hl
        refine lv_goto (tgt := 17) hx hb dX2_copyFrom_44 (by decide) ?_
        refine lv_iload_n hx hb dX2_copyFrom_17 rfl (lv_at hl 0 rfl) ?_
        refine lv_iconst (v := zI 3) hx hb dX2_copyFrom_18 rfl ?_
        refine z_icmp_ge (tgt := 47) hx hb (by omega) (by omega) dX2_copyFrom_19 (by decide) (fun c19 => ?_) (fun c19 => ?_)
        · skip
          refine lv_aload_n hx hb dX2_copyFrom_47 rfl (lv_at hl 2 rfl) ?_
          refine z_get hx hb hown hts w inX2 7 2 rfl rfl (by decide) f_20 rfl rfl dX2_copyFrom_48 ?_
          refine lv_iconst (v := zI 0) hx hb dX2_copyFrom_51 rfl ?_
          refine lv_aload_n hx hb dX2_copyFrom_52 rfl (lv_at hl 1 rfl) ?_
          refine z_get hx hb hown hts w inX2 0 2 rfl rfl (by decide) f_20 rfl rfl dX2_copyFrom_53 ?_
          refine lv_iconst (v := zI 0) hx hb dX2_copyFrom_56 rfl ?_
          refine lv_iconst (v := zI 3) hx hb dX2_copyFrom_57 rfl ?_
          refine z_copy (sp := 0) (dp := 0) (n := 3) hx hb (by rw [hml]; exact hl.1.symm) hown ac_l ac_n ac_s ac_i w 13 6 rfl rfl (by omega) rfl rfl rfl (by decide) (by decide) (by omega) dX2_copyFrom_58 (Nat.le_of_ble_eq_true rfl) (Nat.le_of_ble_eq_true rfl) (fLm T) (fun i hi => zcpy_all hi) (fun H locs w => ?_)
          have w : zW D A s.heap s [(hp, .inr (2, [.ref hw, .ref hz, .ref hl0, .int (zI (S 0))])), (hw, .inl (D.2 0, 16, .inl (fC T 0))), (hz, .inl (D.2 5, 3, .inr (.inr (.inr (.inr (f3 h0 h1 h2)))))), (h0, .inl (D.2 0, 16, .inl (fC T 1))), (h1, .inl (D.2 0, 16, .inl (fC T 2))), (h2, .inl (D.2 0, 16, .inl (fC T 3))), (hl0, .inl (D.2 0, 3, .inl (fLm T))), (hpo, .inr (2, [.ref hwo, .ref hzo, .ref hl0o, .int (zI (T 0))])), (hwo, .inl (D.2 0, 16, .inl (fC T 0))), (hzo, .inl (D.2 5, 3, .inr (.inr (.inr (.inr (f3 h0o h1o h2o)))))), (h0o, .inl (D.2 0, 16, .inl (fC T 1))), (h1o, .inl (D.2 0, 16, .inl (fC T 2))), (h2o, .inl (D.2 0, 16, .inl (fC T 3))), (hl0o, .inl (D.2 0, 3, .inl (fLm T)))] H locs := w
          refine lv_aload_n hx hb dX2_copyFrom_61 rfl (lv_at hl 1 rfl) ?_
          refine lv_aload_n hx hb dX2_copyFrom_62 rfl (lv_at hl 2 rfl) ?_
          refine z_get hx hb hown hts w inX2 7 3 rfl rfl (by decide) f_23 rfl rfl dX2_copyFrom_63 ?_
          refine z_put hx hb hown hts w inX2 tyX2 tyX2_ok nmX2 0 3 rfl rfl (by decide) f_23 rfl rfl (ty := .int) rfl rfl rfl (Nat.le_of_ble_eq_true rfl) dX2_copyFrom_66 (fun H locs w => ?_)
          have w : zW D A s.heap s [(hp, .inr (2, [.ref hw, .ref hz, .ref hl0, .int (zI (T 0))])), (hw, .inl (D.2 0, 16, .inl (fC T 0))), (hz, .inl (D.2 5, 3, .inr (.inr (.inr (.inr (f3 h0 h1 h2)))))), (h0, .inl (D.2 0, 16, .inl (fC T 1))), (h1, .inl (D.2 0, 16, .inl (fC T 2))), (h2, .inl (D.2 0, 16, .inl (fC T 3))), (hl0, .inl (D.2 0, 3, .inl (fLm T))), (hpo, .inr (2, [.ref hwo, .ref hzo, .ref hl0o, .int (zI (T 0))])), (hwo, .inl (D.2 0, 16, .inl (fC T 0))), (hzo, .inl (D.2 5, 3, .inr (.inr (.inr (.inr (f3 h0o h1o h2o)))))), (h0o, .inl (D.2 0, 16, .inl (fC T 1))), (h1o, .inl (D.2 0, 16, .inl (fC T 2))), (h2o, .inl (D.2 0, 16, .inl (fC T 3))), (hl0o, .inl (D.2 0, 3, .inl (fLm T)))] H locs := w
          exact z_vret hx hb hr hlocks w dX2_copyFrom_69 rfl
        · skip
          exact absurd c19 (by omega)
set_option maxHeartbeats 6000000 in
set_option maxRecDepth 100000 in
theorem c_X0_copyFrom (l : Launch) (D : zD) (hbu hs hbuo hso : Nat) (S T : Nat → Int) : zM l yX0_copyFrom wsX0_copyFrom (zR 1) zE0 D [.ref hbu, .ref hbuo] (wBu D hbu hs S ++ wBu D hbuo hso T) (zQv D (fun W1 => W1 = (wBu D hbu hs T ++ wBu D hbuo hso T))) := by
  refine zM.of (cc := cX0_copyFrom) (maxL := 2) (ret := none) (by decide) rfl (Nat.le_of_ble_eq_true rfl) ?_
  intro p e s m below meth c A hx hb hml hown hts hr hlocks hE hnm w ls hl
  have hown : s.vm.findClass RX0 = some m.cls := hown
  have hl : lv_has ls 2 [(0, .ref hbu), (1, .ref hbuo)] := hl
  have f_9 : (Cond.fieldLink RX0 9 "RelaxedSteps$Bundle" "sets" "[I").before _ s = true := hts _ (by decide +kernel)
  have ac_l : (Cond.methodLink RX0 19 arraycopyName).before _ s = true := hts _ (by decide +kernel)
  have ac_n : (Cond.native arraycopyName).before _ s = true := hts _ (by decide +kernel)
  have ac_s : (Cond.static arraycopyName).before _ s = true := hts _ (by decide +kernel)
  have ac_i : (Cond.initialized "java/lang/System").before _ s = true := hts _ (by decide +kernel)
  have f_15 : (Cond.fieldLink RX0 15 "RelaxedSteps$Bundle" "count" "I").before _ s = true := hts _ (by decide +kernel)
  have inX0 : ∀ w ∈ u_ws RX0 TX0 2, w ∈ wsX0_copyFrom := by decide +kernel
  have w : zW D A s.heap s [(hbu, .inr (0, [.ref hs, .int (zI (S 77))])), (hs, .inl (D.2 0, 8, .inl (fSt S))), (hbuo, .inr (0, [.ref hso, .int (zI (T 77))])), (hso, .inl (D.2 0, 8, .inl (fSt T)))] s.heap [] := w
  refine lv_aload_n hx hb dX0_copyFrom_0 rfl (lv_at hl 1 rfl) ?_
  refine z_get hx hb hown hts w inX0 2 0 rfl rfl (by decide) f_9 rfl rfl dX0_copyFrom_1 ?_
  refine lv_iconst (v := zI 0) hx hb dX0_copyFrom_4 rfl ?_
  refine lv_aload_n hx hb dX0_copyFrom_5 rfl (lv_at hl 0 rfl) ?_
  refine z_get hx hb hown hts w inX0 0 0 rfl rfl (by decide) f_9 rfl rfl dX0_copyFrom_6 ?_
  refine lv_iconst (v := zI 0) hx hb dX0_copyFrom_9 rfl ?_
  refine lv_bipush (v := zI 8) hx hb dX0_copyFrom_10 (by decide +kernel) ?_
  refine z_copy (sp := 0) (dp := 0) (n := 8) hx hb (by rw [hml]; exact hl.1.symm) hown ac_l ac_n ac_s ac_i w 3 1 rfl rfl (by omega) rfl rfl rfl (by decide) (by decide) (by omega) dX0_copyFrom_12 (Nat.le_of_ble_eq_true rfl) (Nat.le_of_ble_eq_true rfl) (fSt T) (fun i hi => zcpy_all hi) (fun H locs w => ?_)
  have w : zW D A s.heap s [(hbu, .inr (0, [.ref hs, .int (zI (S 77))])), (hs, .inl (D.2 0, 8, .inl (fSt T))), (hbuo, .inr (0, [.ref hso, .int (zI (T 77))])), (hso, .inl (D.2 0, 8, .inl (fSt T)))] H locs := w
  refine lv_aload_n hx hb dX0_copyFrom_15 rfl (lv_at hl 0 rfl) ?_
  refine lv_aload_n hx hb dX0_copyFrom_16 rfl (lv_at hl 1 rfl) ?_
  refine z_get hx hb hown hts w inX0 2 1 rfl rfl (by decide) f_15 rfl rfl dX0_copyFrom_17 ?_
  refine z_put hx hb hown hts w inX0 tyX0 tyX0_ok nmX0 0 1 rfl rfl (by decide) f_15 rfl rfl (ty := .int) rfl rfl rfl (Nat.le_of_ble_eq_true rfl) dX0_copyFrom_20 (fun H locs w => ?_)
  have w : zW D A s.heap s [(hbu, .inr (0, [.ref hs, .int (zI (T 77))])), (hs, .inl (D.2 0, 8, .inl (fSt T))), (hbuo, .inr (0, [.ref hso, .int (zI (T 77))])), (hso, .inl (D.2 0, 8, .inl (fSt T)))] H locs := w
  exact z_vret hx hb hr hlocks w dX0_copyFrom_23 rfl
set_option maxHeartbeats 6000000 in
set_option maxRecDepth 100000 in
theorem c_X0_takeOut (l : Launch) (D : zD) (hbu hs : Nat) (S : Nat → Int) (hokb : OkB S) (x : Int) (hxb : zB x) : zM l yX0_takeOut wsX0_takeOut (zR 0) zE0 D [.ref hbu, .int (zI (x))] (wBu D hbu hs S) (zQv D (fun W1 => W1 = (wBu D hbu hs (sOut S x)))) := by
  refine zM.of (cc := cX0_takeOut) (maxL := 4) (ret := none) (by decide) rfl (Nat.le_of_ble_eq_true rfl) ?_
  intro p e s m below meth c A hx hb hml hown hts hr hlocks hE hnm w ls hl
  have hown : s.vm.findClass RX0 = some m.cls := hown
  have hl : lv_has ls 4 [(0, .ref hbu), (1, .int (zI (x)))] := hl
  have f_15 : (Cond.fieldLink RX0 15 "RelaxedSteps$Bundle" "count" "I").before _ s = true := hts _ (by decide +kernel)
  have f_9 : (Cond.fieldLink RX0 9 "RelaxedSteps$Bundle" "sets" "[I").before _ s = true := hts _ (by decide +kernel)
  have inX0 : ∀ w ∈ u_ws RX0 TX0 2, w ∈ wsX0_takeOut := by decide +kernel
  have hkn := zk_eq hokb
  have hk8 := hokb.1
  have w : zW D A s.heap s [(hbu, .inr (0, [.ref hs, .int (zI (S 77))])), (hs, .inl (D.2 0, 8, .inl (fSt S)))] s.heap [] := w
  refine lv_iconst (v := zI 0) hx hb dX0_takeOut_0 rfl ?_
  refine lv_istore_n (lv' := [(2, .int (zI (0))), (0, .ref hbu), (1, .int (zI (x)))]) hx hb dX0_takeOut_1 rfl hl (by decide) rfl (fun ls hl => ?_)
  refine lv_iconst (v := zI 0) hx hb dX0_takeOut_2 rfl ?_
  refine lv_istore_n (lv' := [(3, .int (zI (0))), (2, .int (zI (0))), (0, .ref hbu), (1, .int (zI (x)))]) hx hb dX0_takeOut_3 rfl hl (by decide) rfl (fun ls hl => ?_)
  have lp_4 : ∀ (n_4 : Nat) (k : Nat) (x3 : Int) (x2 : Int) , zk S - k < n_4 → (k ≤ zk S) → x3 = ((k : Nat) : Int) → x2 = (((sTo S x k).1 : Nat) : Int) → ∀ (H : Heap) (locs : List Loc) (ls : Array Slot), zW D A s.heap s [(hbu, .inr (0, [.ref hs, .int (zI (S 77))])), (hs, .inl (D.2 0, 8, .inl (fSt (sTo S x k).2)))] H locs → lv_has ls 4 [(3, .int (zI (x3))), (2, .int (zI (x2))), (0, .ref hbu), (1, .int (zI (x)))] → W p l e (zR 0) s m [.ref hbu, .int (zI (x))].toArray below meth c H locs 0 0 (MQ below ((zQv D (fun W1 => W1 = (wBu D hbu hs (sOut S x)))) A) [.ref hbu, .int (zI (x))].toArray s 0 0 A) (F0 m 4 ls []) := by
    intro n_4
    induction n_4 with
    | zero => intro k x3 x2 h_; exact absurd h_ (Nat.not_lt_zero _)
    | succ n_4 ih_4 =>
      intro k x3 x2 hf_4 hi ex3 ex2 H locs ls w hl
      subst ex3
      subst ex2
      have htl := sTo_le S x k
      have htf := sTo_far S x k
      have hl : lv_has ls 4 [(3, .int (zI (((k : Nat) : Int)))), (2, .int (zI ((((sTo S x k).1 : Nat) : Int)))), (0, .ref hbu), (1, .int (zI (x)))] := hl
      refine lv_iload_n hx hb dX0_takeOut_4 rfl (lv_at hl 0 rfl) ?_
      refine lv_aload_n hx hb dX0_takeOut_5 rfl (lv_at hl 2 rfl) ?_
      refine z_get hx hb hown hts w inX0 0 1 rfl rfl (by decide) f_15 rfl rfl dX0_takeOut_6 ?_
      refine z_icmp_ge (tgt := 43) hx hb (by omega) (by omega) dX0_takeOut_9 (by decide) (fun c9 => ?_) (fun c9 => ?_)
      · skip
        refine lv_aload_n hx hb dX0_takeOut_43 rfl (lv_at hl 2 rfl) ?_
        refine lv_iload_n hx hb dX0_takeOut_44 rfl (lv_at hl 1 rfl) ?_
        refine z_put hx hb hown hts w inX0 tyX0 tyX0_ok nmX0 0 1 rfl rfl (by decide) f_15 rfl rfl (ty := .int) rfl rfl rfl (Nat.le_of_ble_eq_true rfl) dX0_takeOut_45 (fun H locs w => ?_)
        have w : zW D A s.heap s [(hbu, .inr (0, [.ref hs, .int (zI ((((sTo S x k).1 : Nat) : Int)))])), (hs, .inl (D.2 0, 8, .inl (fSt (sTo S x k).2)))] H locs := w
        exact z_vret hx hb hr hlocks w dX0_takeOut_48 (by have e9 : k = zk S := (by omega); subst e9; unfold sOut wBu; rw [fSt_zu77]; rfl)
      · skip
        refine lv_aload_n hx hb dX0_takeOut_12 rfl (lv_at hl 2 rfl) ?_
        refine z_get hx hb hown hts w inX0 0 0 rfl rfl (by decide) f_9 rfl rfl dX0_takeOut_13 ?_
        refine lv_iload_n hx hb dX0_takeOut_16 rfl (lv_at hl 0 rfl) ?_
        refine z_iald hx hb w 1 rfl k (by omega) (by decide) rfl (v := (zI ((sTo S x k).2 (78 + k)))) (if_pos (by omega)) dX0_takeOut_17 ?_
        refine lv_iload_n hx hb dX0_takeOut_18 rfl (lv_at hl 3 rfl) ?_
        have htk : (sTo S x k).2 (78 + k) = S (78 + k) := htf _ (Or.inr (Nat.le_refl _))
        have htb := hokb.2.1 k (by omega)
        refine z_icmp_eq (tgt := 37) hx hb (by omega) (by omega) dX0_takeOut_19 (by decide) (fun c19 => ?_) (fun c19 => ?_)
        · skip
          refine z_iinc (lv' := [(3, .int (zI (((k : Nat) : Int) + 1))), (2, .int (zI ((((sTo S x k).1 : Nat) : Int)))), (0, .ref hbu), (1, .int (zI (x)))]) hx hb dX0_takeOut_37 hl (k := 0) rfl (by decide) rfl (fun ls hl => ?_)
          refine lv_goto (tgt := 4) hx hb dX0_takeOut_40 (by decide) ?_
          exact ih_4 (k + 1) _ _ (by omega) (by omega) (by first | rfl | omega) (by simp only [sTo]; first | rw [if_pos c19] | (rw [if_neg c19]; omega)) _ _ _ (w.to (by simp only [sTo]; first | rw [if_pos c19] | (rw [if_neg c19]))) (lv_sub hl [0, 1, 2, 3] rfl)
        · skip
          refine lv_aload_n hx hb dX0_takeOut_22 rfl (lv_at hl 2 rfl) ?_
          refine z_get hx hb hown hts w inX0 0 0 rfl rfl (by decide) f_9 rfl rfl dX0_takeOut_23 ?_
          refine lv_iload_n hx hb dX0_takeOut_26 rfl (lv_at hl 1 rfl) ?_
          refine lv_aload_n hx hb dX0_takeOut_27 rfl (lv_at hl 2 rfl) ?_
          refine z_get hx hb hown hts w inX0 0 0 rfl rfl (by decide) f_9 rfl rfl dX0_takeOut_28 ?_
          refine lv_iload_n hx hb dX0_takeOut_31 rfl (lv_at hl 0 rfl) ?_
          refine z_iald hx hb w 1 rfl k (by omega) (by decide) rfl (v := (zI ((sTo S x k).2 (78 + k)))) (if_pos (by omega)) dX0_takeOut_32 ?_
          refine z_iast hx hb w 1 rfl ((sTo S x k).1) (by omega) (by decide) rfl dX0_takeOut_33 (fSt (zu (sTo S x k).2 (78 + (sTo S x k).1) ((sTo S x k).2 (78 + k)))) (fun i hi => fSt_zu hi) (fun H locs w => ?_)
          have w : zW D A s.heap s [(hbu, .inr (0, [.ref hs, .int (zI (S 77))])), (hs, .inl (D.2 0, 8, .inl (fSt (zu (sTo S x k).2 (78 + (sTo S x k).1) ((sTo S x k).2 (78 + k))))))] H locs := w
          refine z_iinc (lv' := [(2, .int (zI ((((sTo S x k).1 : Nat) : Int) + 1))), (3, .int (zI (((k : Nat) : Int)))), (0, .ref hbu), (1, .int (zI (x)))]) hx hb dX0_takeOut_34 hl (k := 1) rfl (by decide) rfl (fun ls hl => ?_)
          refine z_iinc (lv' := [(3, .int (zI (((k : Nat) : Int) + 1))), (2, .int (zI ((((sTo S x k).1 : Nat) : Int) + 1))), (0, .ref hbu), (1, .int (zI (x)))]) hx hb dX0_takeOut_37 hl (k := 1) rfl (by decide) rfl (fun ls hl => ?_)
          refine lv_goto (tgt := 4) hx hb dX0_takeOut_40 (by decide) ?_
          exact ih_4 (k + 1) _ _ (by omega) (by omega) (by first | rfl | omega) (by simp only [sTo]; first | rw [if_pos c19] | (rw [if_neg c19]; omega)) _ _ _ (w.to (by simp only [sTo]; first | rw [if_pos c19] | (rw [if_neg c19]))) (lv_sub hl [0, 1, 2, 3] rfl)
  exact lp_4 ((zk S - 0) + 1) 0 _ _ (by omega) (by omega) (by first | rfl | omega) (by first | rfl | omega) _ _ _ w (lv_sub hl [0, 1, 2, 3] rfl)
