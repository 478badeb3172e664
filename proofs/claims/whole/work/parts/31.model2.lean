set_option maxHeartbeats 6000000 in
set_option maxRecDepth 100000 in
theorem c_X7_in (l : Launch) (D : zD) (v a b : Int) (hv : zB v) (ha : zB a) (hb1 : zB b) : zM l yX7_in wsX7_in (zR (0)) zE0 D [.int (zI (v)), .int (zI (a)), .int (zI (b))] [] (zQi D (fun r W1 => r = zI (zb (a ≤ v ∧ v ≤ b)) ∧ W1 = [])) := by
  refine zM.of (cc := cX7_in) (maxL := 3) (ret := (some .boolean)) (by decide) rfl (Nat.le_of_ble_eq_true rfl) ?_
  intro p e s m below meth c A hx hb hml hown hts hr hlocks hE hnm w ls hl
  have hown : s.vm.findClass RX7 = some m.cls := hown
  have hl : lv_has ls 3 [(0, .int (zI (v))), (1, .int (zI (a))), (2, .int (zI (b)))] := hl
  refine lv_iload_n hx hb dX7_in_0 rfl (lv_at hl 0 rfl) ?_
  refine lv_iload_n hx hb dX7_in_1 rfl (lv_at hl 1 rfl) ?_
  refine z_icmp_lt (tgt := 14) hx hb (by omega) (by omega) dX7_in_2 (by decide) (fun c2 => ?_) (fun c2 => ?_)
  · skip
    refine lv_iconst (v := zI 0) hx hb dX7_in_14 rfl ?_
    exact z_zret hx hb hr hlocks w dX7_in_15 (by omega) ⟨by first | rw [zb_t (by omega)] | rw [zb_f (by omega)], rfl⟩
  · skip
    refine lv_iload_n hx hb dX7_in_5 rfl (lv_at hl 0 rfl) ?_
    refine lv_iload_n hx hb dX7_in_6 rfl (lv_at hl 2 rfl) ?_
    refine z_icmp_gt (tgt := 14) hx hb (by omega) (by omega) dX7_in_7 (by decide) (fun c7 => ?_) (fun c7 => ?_)
    · skip
      refine lv_iconst (v := zI 0) hx hb dX7_in_14 rfl ?_
      exact z_zret hx hb hr hlocks w dX7_in_15 (by omega) ⟨by first | rw [zb_t (by omega)] | rw [zb_f (by omega)], rfl⟩
    · skip
      refine lv_iconst (v := zI 1) hx hb dX7_in_10 rfl ?_
      refine lv_goto (tgt := 15) hx hb dX7_in_11 (by decide) ?_
      exact z_zret hx hb hr hlocks w dX7_in_15 (by omega) ⟨by first | rw [zb_t (by omega)] | rw [zb_f (by omega)], rfl⟩
set_option maxHeartbeats 6000000 in
set_option maxRecDepth 100000 in
theorem c_X7_isWay (l : Launch) (D : zD) (v : Int) (hv : zB v) : zM l yX7_isWay wsX7_isWay (zR (1)) zE0 D [.int (zI (v))] [] (zQi D (fun r W1 => r = zI (zb (0 ≤ v ∧ v ≤ 2)) ∧ W1 = [])) := by
  refine zM.of (cc := cX7_isWay) (maxL := 1) (ret := (some .boolean)) (by decide) rfl (Nat.le_of_ble_eq_true rfl) ?_
  intro p e s m below meth c A hx hb hml hown hts hr hlocks hE hnm w ls hl
  have hown : s.vm.findClass RX7 = some m.cls := hown
  have hl : lv_has ls 1 [(0, .int (zI (v)))] := hl
  refine lv_iload_n hx hb dX7_isWay_0 rfl (lv_at hl 0 rfl) ?_
  refine lv_iconst (v := zI 0) hx hb dX7_isWay_1 rfl ?_
  refine lv_iconst (v := zI 2) hx hb dX7_isWay_2 rfl ?_
  refine z_S_i (As := [.int (zI (v)), .int (zI (0)), .int (zI (2))]) (rest := []) (Wr := []) ⟨hx, hb, hml, hown, hts⟩ (c_X7_in l D v 0 2 (by omega) (by omega) (by omega)) (va_cwS 3 hts gX7_isWay_X7_in rfl rfl rfl (by decide +kernel) ⟨Nat.le_of_ble_eq_true rfl, Nat.le_of_ble_eq_true rfl⟩) w [] rfl (by decide) [] rfl (by decide) (by decide) rfl hl.1 rfl (lv_room (Nat.le_of_ble_eq_true rfl)) dX7_isWay_3 ⟨Nat.zero_le _, Nat.zero_le _⟩ (fun r W1 H locs hp w => ?_)
  obtain ⟨rfl, rfl⟩ := hp
  exact z_zret hx hb hr hlocks w dX7_isWay_6 (zb_01 _) ⟨rfl, rfl⟩
set_option maxHeartbeats 6000000 in
set_option maxRecDepth 100000 in
theorem c_X7_of (l : Launch) (D : zD) (ha : Nat) (S : Nat → Int) (i what : Nat) (hi : i < 16) (hw : what ≤ 3) : zM l yX7_of wsX7_of (zR (0)) zE0 D [.ref ha, .int (zI (((i : Nat) : Int))), .int (zI (((what : Nat) : Int)))] (wMo D ha S) (zQi D (fun r W1 => r = zI (sC S what i) ∧ W1 = (wMo D ha S))) := by
  refine zM.of (cc := cX7_of) (maxL := 3) (ret := (some .int)) (by decide) rfl (Nat.le_of_ble_eq_true rfl) ?_
  intro p e s m below meth c A hx hb hml hown hts hr hlocks hE hnm w ls hl
  have hown : s.vm.findClass RX7 = some m.cls := hown
  have hl : lv_has ls 3 [(0, .ref ha), (1, .int (zI (((i : Nat) : Int)))), (2, .int (zI (((what : Nat) : Int))))] := hl
  have w : zW D A s.heap s [(ha, .inl (D.2 1, 86, .inr (.inl (fNow S))))] s.heap [] := w
  refine lv_aload_n hx hb dX7_of_0 rfl (lv_at hl 0 rfl) ?_
  refine lv_iconst (v := zI 1) hx hb dX7_of_1 rfl ?_
  refine lv_iconst (v := zI 4) hx hb dX7_of_2 rfl ?_
  refine lv_iload_n hx hb dX7_of_3 rfl (lv_at hl 1 rfl) ?_
  refine z_imul hx hb dX7_of_4 ?_
  refine z_iadd hx hb dX7_of_5 ?_
  refine lv_iload_n hx hb dX7_of_6 rfl (lv_at hl 2 rfl) ?_
  refine z_iadd hx hb dX7_of_7 ?_
  refine z_lald hx hb w 0 rfl (1 + what + 4 * i) (by omega) (by decide) (by omega) (v := (zL (S (1 + what + 4 * i)))) (if_pos (by omega)) dX7_of_8 ?_
  refine z_l2i hx hb dX7_of_9 ?_
  exact z_iret hx hb hr hlocks w dX7_of_10 ⟨rfl, rfl⟩
theorem c_X7_ofI (l : Launch) (D : zD) (ha : Nat) (S : Nat → Int) (i : Int) (what : Nat) (hi : 0 ≤ i ∧ i < 16) (hw : what ≤ 3) : zM l yX7_of wsX7_of (zR 0) zE0 D [.ref ha, .int (zI i), .int (zI ((what : Nat) : Int))] (wMo D ha S) (zQi D (fun r W1 => r = zI (sC S what i.toNat) ∧ W1 = (wMo D ha S))) := by
  have h := c_X7_of l D ha S i.toNat what (by omega) hw
  rw [Int.toNat_of_nonneg hi.1] at h
  exact h
set_option maxHeartbeats 6000000 in
set_option maxRecDepth 100000 in
theorem c_X7_sum (l : Launch) (D : zD) (ha : Nat) (S : Nat → Int) (hok : OkP S) (set what : Nat) (hs : set < 2147483648) (hw : what ≤ 3) : zM l yX7_sum wsX7_sum (zR (1)) zE0 D [.ref ha, .int (zI (((set : Nat) : Int))), .int (zI (((what : Nat) : Int)))] (wMo D ha S) (zQi D (fun r W1 => r = zI (sUse S set what) ∧ W1 = (wMo D ha S))) := by
  refine zM.of (cc := cX7_sum) (maxL := 5) (ret := (some .int)) (by decide) rfl (Nat.le_of_ble_eq_true rfl) ?_
  intro p e s m below meth c A hx hb hml hown hts hr hlocks hE hnm w ls hl
  have hown : s.vm.findClass RX7 = some m.cls := hown
  have hl : lv_has ls 5 [(0, .ref ha), (1, .int (zI (((set : Nat) : Int)))), (2, .int (zI (((what : Nat) : Int))))] := hl
  have hn := zn_eq hok
  have h16 := zn_le hok
  have hlim := hok.2.2
  have w : zW D A s.heap s [(ha, .inl (D.2 1, 86, .inr (.inl (fNow S))))] s.heap [] := w
  refine lv_iconst (v := zI 0) hx hb dX7_sum_0 rfl ?_
  refine lv_istore_n (lv' := [(3, .int (zI (0))), (0, .ref ha), (1, .int (zI (((set : Nat) : Int)))), (2, .int (zI (((what : Nat) : Int))))]) hx hb dX7_sum_1 rfl hl (by decide) rfl (fun ls hl => ?_)
  refine lv_iconst (v := zI 0) hx hb dX7_sum_2 rfl ?_
  refine lv_istore (lv' := [(4, .int (zI (0))), (3, .int (zI (0))), (0, .ref ha), (1, .int (zI (((set : Nat) : Int)))), (2, .int (zI (((what : Nat) : Int))))]) hx hb dX7_sum_3 hl (by decide) rfl (fun ls hl => ?_)
  have lp_5 : ∀ (n_5 : Nat) (i : Nat) (x4 : Int) (x3 : Int) , zn S - i < n_5 → (i ≤ zn S) → x4 = ((i : Nat) : Int) → x3 = sSum i (fun i => if set.testBit i = true then sC S what i else 0) → ∀ (H : Heap) (locs : List Loc) (ls : Array Slot), zW D A s.heap s [(ha, .inl (D.2 1, 86, .inr (.inl (fNow S))))] H locs → lv_has ls 5 [(4, .int (zI (x4))), (3, .int (zI (x3))), (0, .ref ha), (1, .int (zI (((set : Nat) : Int)))), (2, .int (zI (((what : Nat) : Int))))] → W p l e (zR (1)) s m [.ref ha, .int (zI (((set : Nat) : Int))), .int (zI (((what : Nat) : Int)))].toArray below meth c H locs 0 0 (MQ below ((zQi D (fun r W1 => r = zI (sUse S set what) ∧ W1 = (wMo D ha S))) A) [.ref ha, .int (zI (((set : Nat) : Int))), .int (zI (((what : Nat) : Int)))].toArray s 0 0 A) (F0 m 5 ls []) := by
    intro n_5
    induction n_5 with
    | zero => intro i x4 x3 h_; exact absurd h_ (Nat.not_lt_zero _)
    | succ n_5 ih_5 =>
      intro i x4 x3 hf_5 hi ex4 ex3 H locs ls w hl
      subst ex4
      subst ex3
      have hl : lv_has ls 5 [(4, .int (zI (((i : Nat) : Int)))), (3, .int (zI (sSum i (fun i => if set.testBit i = true then sC S what i else 0)))), (0, .ref ha), (1, .int (zI (((set : Nat) : Int)))), (2, .int (zI (((what : Nat) : Int))))] := hl
      refine lv_iload hx hb dX7_sum_5 (lv_at hl 0 rfl) ?_
      refine z_i2l hx hb (by omega) dX7_sum_7 ?_
      refine lv_aload_n hx hb dX7_sum_8 rfl (lv_at hl 2 rfl) ?_
      refine lv_iconst (v := zI 0) hx hb dX7_sum_9 rfl ?_
      refine z_lald hx hb w 0 rfl 0 (by omega) (by decide) rfl (v := (zL (S 0))) (if_pos (by omega)) dX7_sum_10 ?_
      refine z_lcmp_ge (tgt := 45) hx hb (by omega) (by omega) dX7_sum_11 dX7_sum_12 (by decide) (fun c11 => ?_) (fun c11 => ?_)
      · skip
        refine lv_iload_n hx hb dX7_sum_45 rfl (lv_at hl 1 rfl) ?_
        exact z_iret hx hb hr hlocks w dX7_sum_46 ⟨by have e9 : i = zn S := (by omega); subst e9; rfl, rfl⟩
      · skip
        refine lv_iload_n hx hb dX7_sum_15 rfl (lv_at hl 1 rfl) ?_
        refine lv_iload_n hx hb dX7_sum_16 rfl (lv_at hl 3 rfl) ?_
        refine lv_iload hx hb dX7_sum_17 (lv_at hl 0 rfl) ?_
        refine z_ishr (a := set) (b := i) hx hb (by omega) dX7_sum_19 ?_
        refine lv_iconst (v := zI 1) hx hb dX7_sum_20 rfl ?_
        refine z_iand (a := set >>> i) (b := 1) hx hb dX7_sum_21 ?_
        refine lv_iconst (v := zI 1) hx hb dX7_sum_22 rfl ?_
        have hq := zt_le set i
        refine z_icmp_ne (tgt := 36) hx hb (by omega) (by omega) dX7_sum_23 (by decide) (fun c23 => ?_) (fun c23 => ?_)
        · skip
          have hbit : ¬ set.testBit i = true := fun q => c23 (by have := (zt_bit set i).mpr q; omega)
          refine lv_iconst (v := zI 0) hx hb dX7_sum_36 rfl ?_
          refine z_iadd hx hb dX7_sum_37 ?_
          refine lv_istore_n (lv' := [(3, .int (zI ((sSum i (fun i => if set.testBit i = true then sC S what i else 0)) + 0))), (4, .int (zI (((i : Nat) : Int)))), (0, .ref ha), (1, .int (zI (((set : Nat) : Int)))), (2, .int (zI (((what : Nat) : Int))))]) hx hb dX7_sum_38 rfl hl (by decide) rfl (fun ls hl => ?_)
          refine z_iinc (lv' := [(4, .int (zI (((i : Nat) : Int) + 1))), (3, .int (zI ((sSum i (fun i => if set.testBit i = true then sC S what i else 0)) + 0))), (0, .ref ha), (1, .int (zI (((set : Nat) : Int)))), (2, .int (zI (((what : Nat) : Int))))]) hx hb dX7_sum_39 hl (k := 1) rfl (by decide) rfl (fun ls hl => ?_)
          refine lv_goto (tgt := 5) hx hb dX7_sum_42 (by decide) ?_
          exact ih_5 (i + 1) _ _ (by omega) (by omega) (by first | rfl | omega) (by simp only [sSum]; first | rw [if_pos hbit] | rw [if_neg hbit]) _ _ _ w (lv_sub hl [0, 1, 2, 3, 4] rfl)
        · skip
          have hbit : set.testBit i = true := (zt_bit set i).mp (by omega)
          refine lv_aload_n hx hb dX7_sum_26 rfl (lv_at hl 2 rfl) ?_
          refine lv_iload hx hb dX7_sum_27 (lv_at hl 0 rfl) ?_
          refine lv_iload_n hx hb dX7_sum_29 rfl (lv_at hl 4 rfl) ?_
          refine z_S_i (As := [.ref ha, .int (zI (((i : Nat) : Int))), .int (zI (((what : Nat) : Int)))]) (rest := [.int (zI (sSum i (fun i => if set.testBit i = true then sC S what i else 0)))]) (Wr := []) ⟨hx, hb, hml, hown, hts⟩ (c_X7_of l D ha S i what (by omega) (by omega)) (va_cwS 3 hts gX7_sum_X7_of rfl rfl rfl (by decide +kernel) ⟨Nat.le_of_ble_eq_true rfl, Nat.le_of_ble_eq_true rfl⟩) w [0] rfl (by decide) [] rfl (by decide) (by decide) rfl hl.1 rfl (lv_room (Nat.le_of_ble_eq_true rfl)) dX7_sum_30 ⟨Nat.zero_le _, Nat.zero_le _⟩ (fun r W1 H locs hp w => ?_)
          obtain ⟨rfl, rfl⟩ := hp
          have w : zW D A s.heap s [(ha, .inl (D.2 1, 86, .inr (.inl (fNow S))))] H locs := w.sub [0] (by decide) rfl
          refine lv_goto (tgt := 37) hx hb dX7_sum_33 (by decide) ?_
          refine z_iadd hx hb dX7_sum_37 ?_
          refine lv_istore_n (lv' := [(3, .int (zI ((sSum i (fun i => if set.testBit i = true then sC S what i else 0)) + (sC S what i)))), (4, .int (zI (((i : Nat) : Int)))), (0, .ref ha), (1, .int (zI (((set : Nat) : Int)))), (2, .int (zI (((what : Nat) : Int))))]) hx hb dX7_sum_38 rfl hl (by decide) rfl (fun ls hl => ?_)
          refine z_iinc (lv' := [(4, .int (zI (((i : Nat) : Int) + 1))), (3, .int (zI ((sSum i (fun i => if set.testBit i = true then sC S what i else 0)) + (sC S what i)))), (0, .ref ha), (1, .int (zI (((set : Nat) : Int)))), (2, .int (zI (((what : Nat) : Int))))]) hx hb dX7_sum_39 hl (k := 1) rfl (by decide) rfl (fun ls hl => ?_)
          refine lv_goto (tgt := 5) hx hb dX7_sum_42 (by decide) ?_
          exact ih_5 (i + 1) _ _ (by omega) (by omega) (by first | rfl | omega) (by simp only [sSum]; first | rw [if_pos hbit] | rw [if_neg hbit]) _ _ _ w (lv_sub hl [0, 1, 2, 3, 4] rfl)
  exact lp_5 ((zn S - 0) + 1) 0 _ _ (by omega) (by omega) (by first | rfl | omega) (by first | rfl | omega) _ _ _ w (lv_sub hl [0, 1, 2, 3, 4] rfl)
set_option maxHeartbeats 6000000 in
set_option maxRecDepth 100000 in
theorem c_X7_fits (l : Launch) (D : zD) (ha : Nat) (S : Nat → Int) (hok : OkP S) (set : Nat) (hs : set < 2147483648) : zM l yX7_fits wsX7_fits (zR (2)) zE0 D [.ref ha, .int (zI (((set : Nat) : Int)))] (wMo D ha S) (zQi D (fun r W1 => r = zI (zb (sFit S set)) ∧ W1 = (wMo D ha S))) := by
  refine zM.of (cc := cX7_fits) (maxL := 4) (ret := (some .boolean)) (by decide) rfl (Nat.le_of_ble_eq_true rfl) ?_
  intro p e s m below meth c A hx hb hml hown hts hr hlocks hE hnm w ls hl
  have hown : s.vm.findClass RX7 = some m.cls := hown
  have hl : lv_has ls 4 [(0, .ref ha), (1, .int (zI (((set : Nat) : Int))))] := hl
  have hn := zn_eq hok
  have h16 := zn_le hok
  have hlim := hok.2.2
  have hokp := hok
  have b1 := sUse_b hok set (what := 1) (by omega)
  have b2 := sUse_b hok set (what := 2) (by omega)
  have b3 := sUse_b hok set (what := 3) (by omega)
  have w : zW D A s.heap s [(ha, .inl (D.2 1, 86, .inr (.inl (fNow S))))] s.heap [] := w
  refine lv_iconst (v := zI 1) hx hb dX7_fits_0 rfl ?_
  refine lv_istore_n (lv' := [(2, .int (zI (1))), (0, .ref ha), (1, .int (zI (((set : Nat) : Int))))]) hx hb dX7_fits_1 rfl hl (by decide) rfl (fun ls hl => ?_)
  refine lv_iconst (v := zI 0) hx hb dX7_fits_2 rfl ?_
  refine lv_istore_n (lv' := [(3, .int (zI (0))), (2, .int (zI (1))), (0, .ref ha), (1, .int (zI (((set : Nat) : Int))))]) hx hb dX7_fits_3 rfl hl (by decide) rfl (fun ls hl => ?_)
  refine lv_iload_n hx hb dX7_fits_4 rfl (lv_at hl 0 rfl) ?_
  refine lv_iconst (v := zI 3) hx hb dX7_fits_5 rfl ?_
  refine z_icmp_ge (tgt := 44) hx hb (by omega) (by omega) dX7_fits_6 (by decide) (fun c6 => ?_) (fun c6 => ?_)
  · skip
    exact absurd c6 (by omega)
  · skip
    refine lv_iload_n hx hb dX7_fits_9 rfl (lv_at hl 1 rfl) ?_
    refine z_if_eq (tgt := 36) hx hb (by omega) dX7_fits_10 (by decide) (fun c10 => ?_) (fun c10 => ?_)
    · skip
      exact absurd c10 (by omega)
    · skip
      refine lv_aload_n hx hb dX7_fits_13 rfl (lv_at hl 2 rfl) ?_
      refine lv_iload_n hx hb dX7_fits_14 rfl (lv_at hl 3 rfl) ?_
      refine lv_iconst (v := zI 1) hx hb dX7_fits_15 rfl ?_
      refine lv_iload_n hx hb dX7_fits_16 rfl (lv_at hl 0 rfl) ?_
      refine z_iadd hx hb dX7_fits_17 ?_
      refine z_S_i (As := [.ref ha, .int (zI (((set : Nat) : Int))), .int (zI (1 + 0))]) (rest := []) (Wr := []) ⟨hx, hb, hml, hown, hts⟩ (c_X7_sum l D ha S hokp set 1 (by omega) (by omega)) (va_cwS 3 hts gX7_fits_X7_sum rfl rfl rfl (by decide +kernel) ⟨Nat.le_of_ble_eq_true rfl, Nat.le_of_ble_eq_true rfl⟩) w [0] rfl (by decide) [] rfl (by decide) (by decide) rfl hl.1 rfl (lv_room (Nat.le_of_ble_eq_true rfl)) dX7_fits_18 ⟨Nat.zero_le _, Nat.zero_le _⟩ (fun r W1 H locs hp w => ?_)
      obtain ⟨rfl, rfl⟩ := hp
      have w : zW D A s.heap s [(ha, .inl (D.2 1, 86, .inr (.inl (fNow S))))] H locs := w.sub [0] (by decide) rfl
      refine z_i2l hx hb (by omega) dX7_fits_21 ?_
      refine lv_aload_n hx hb dX7_fits_22 rfl (lv_at hl 2 rfl) ?_
      refine lv_bipush (v := zI 65) hx hb dX7_fits_23 (by decide +kernel) ?_
      refine lv_iload_n hx hb dX7_fits_25 rfl (lv_at hl 0 rfl) ?_
      refine z_iadd hx hb dX7_fits_26 ?_
      refine z_lald hx hb w 0 rfl 65 (by omega) (by decide) rfl (v := (zL (S 65))) (if_pos (by omega)) dX7_fits_27 ?_
      refine z_lcmp_gt (tgt := 36) hx hb (by omega) (by omega) dX7_fits_28 dX7_fits_29 (by decide) (fun c28 => ?_) (fun c28 => ?_)
      · skip
        refine lv_iconst (v := zI 0) hx hb dX7_fits_36 rfl ?_
        refine lv_istore_n (lv' := [(2, .int (zI (0))), (3, .int (zI (0))), (0, .ref ha), (1, .int (zI (((set : Nat) : Int))))]) hx hb dX7_fits_37 rfl hl (by decide) rfl (fun ls hl => ?_)
        refine z_iinc (lv' := [(3, .int (zI (0 + 1))), (2, .int (zI (0))), (0, .ref ha), (1, .int (zI (((set : Nat) : Int))))]) hx hb dX7_fits_38 hl (k := 1) rfl (by decide) rfl (fun ls hl => ?_)
        have hl : lv_has ls 4 [(3, .int (zI (1))), (2, .int (zI (0))), (0, .ref ha), (1, .int (zI (((set : Nat) : Int))))] := hl
        refine lv_goto (tgt := 4) hx hb dX7_fits_41 (by decide) ?_
        refine lv_iload_n hx hb dX7_fits_4 rfl (lv_at hl 0 rfl) ?_
        refine lv_iconst (v := zI 3) hx hb dX7_fits_5 rfl ?_
        refine z_icmp_ge (tgt := 44) hx hb (by omega) (by omega) dX7_fits_6 (by decide) (fun c6 => ?_) (fun c6 => ?_)
        · skip
          exact absurd c6 (by omega)
        · skip
          refine lv_iload_n hx hb dX7_fits_9 rfl (lv_at hl 1 rfl) ?_
          refine z_if_eq (tgt := 36) hx hb (by omega) dX7_fits_10 (by decide) (fun c10 => ?_) (fun c10 => ?_)
          · skip
            refine lv_iconst (v := zI 0) hx hb dX7_fits_36 rfl ?_
            refine lv_istore_n (lv' := [(2, .int (zI (0))), (3, .int (zI (1))), (0, .ref ha), (1, .int (zI (((set : Nat) : Int))))]) hx hb dX7_fits_37 rfl hl (by decide) rfl (fun ls hl => ?_)
            refine z_iinc (lv' := [(3, .int (zI (1 + 1))), (2, .int (zI (0))), (0, .ref ha), (1, .int (zI (((set : Nat) : Int))))]) hx hb dX7_fits_38 hl (k := 1) rfl (by decide) rfl (fun ls hl => ?_)
            have hl : lv_has ls 4 [(3, .int (zI (2))), (2, .int (zI (0))), (0, .ref ha), (1, .int (zI (((set : Nat) : Int))))] := hl
            refine lv_goto (tgt := 4) hx hb dX7_fits_41 (by decide) ?_
            refine lv_iload_n hx hb dX7_fits_4 rfl (lv_at hl 0 rfl) ?_
            refine lv_iconst (v := zI 3) hx hb dX7_fits_5 rfl ?_
            refine z_icmp_ge (tgt := 44) hx hb (by omega) (by omega) dX7_fits_6 (by decide) (fun c6 => ?_) (fun c6 => ?_)
            · skip
              exact absurd c6 (by omega)
            · skip
              refine lv_iload_n hx hb dX7_fits_9 rfl (lv_at hl 1 rfl) ?_
              refine z_if_eq (tgt := 36) hx hb (by omega) dX7_fits_10 (by decide) (fun c10 => ?_) (fun c10 => ?_)
              · skip
                refine lv_iconst (v := zI 0) hx hb dX7_fits_36 rfl ?_
                refine lv_istore_n (lv' := [(2, .int (zI (0))), (3, .int (zI (2))), (0, .ref ha), (1, .int (zI (((set : Nat) : Int))))]) hx hb dX7_fits_37 rfl hl (by decide) rfl (fun ls hl => ?_)
                refine z_iinc (lv' := [(3, .int (zI (2 + 1))), (2, .int (zI (0))), (0, .ref ha), (1, .int (zI (((set : Nat) : Int))))]) hx hb dX7_fits_38 hl (k := 1) rfl (by decide) rfl (fun ls hl => ?_)
                have hl : lv_has ls 4 [(3, .int (zI (3))), (2, .int (zI (0))), (0, .ref ha), (1, .int (zI (((set : Nat) : Int))))] := hl
                refine lv_goto (tgt := 4) hx hb dX7_fits_41 (by decide) ?_
                refine lv_iload_n hx hb dX7_fits_4 rfl (lv_at hl 0 rfl) ?_
                refine lv_iconst (v := zI 3) hx hb dX7_fits_5 rfl ?_
                refine z_icmp_ge (tgt := 44) hx hb (by omega) (by omega) dX7_fits_6 (by decide) (fun c6 => ?_) (fun c6 => ?_)
                · skip
                  refine lv_iload_n hx hb dX7_fits_44 rfl (lv_at hl 1 rfl) ?_
                  exact z_zret hx hb hr hlocks w dX7_fits_45 (by omega) ⟨by first | rw [zb_t (by omega)] | rw [zb_f (by omega)], rfl⟩
                · skip
                  exact absurd c6 (by omega)
              · skip
                exact absurd c10 (by omega)
          · skip
            exact absurd c10 (by omega)
      · skip
        refine lv_iconst (v := zI 1) hx hb dX7_fits_32 rfl ?_
        refine lv_goto (tgt := 37) hx hb dX7_fits_33 (by decide) ?_
        refine lv_istore_n (lv' := [(2, .int (zI (1))), (3, .int (zI (0))), (0, .ref ha), (1, .int (zI (((set : Nat) : Int))))]) hx hb dX7_fits_37 rfl hl (by decide) rfl (fun ls hl => ?_)
        refine z_iinc (lv' := [(3, .int (zI (0 + 1))), (2, .int (zI (1))), (0, .ref ha), (1, .int (zI (((set : Nat) : Int))))]) hx hb dX7_fits_38 hl (k := 1) rfl (by decide) rfl (fun ls hl => ?_)
        have hl : lv_has ls 4 [(3, .int (zI (1))), (2, .int (zI (1))), (0, .ref ha), (1, .int (zI (((set : Nat) : Int))))] := hl
        refine lv_goto (tgt := 4) hx hb dX7_fits_41 (by decide) ?_
        refine lv_iload_n hx hb dX7_fits_4 rfl (lv_at hl 0 rfl) ?_
        refine lv_iconst (v := zI 3) hx hb dX7_fits_5 rfl ?_
        refine z_icmp_ge (tgt := 44) hx hb (by omega) (by omega) dX7_fits_6 (by decide) (fun c6 => ?_) (fun c6 => ?_)
        · skip
          exact absurd c6 (by omega)
        · skip
          refine lv_iload_n hx hb dX7_fits_9 rfl (lv_at hl 1 rfl) ?_
          refine z_if_eq (tgt := 36) hx hb (by omega) dX7_fits_10 (by decide) (fun c10 => ?_) (fun c10 => ?_)
          · skip
            exact absurd c10 (by omega)
          · skip
            refine lv_aload_n hx hb dX7_fits_13 rfl (lv_at hl 2 rfl) ?_
            refine lv_iload_n hx hb dX7_fits_14 rfl (lv_at hl 3 rfl) ?_
            refine lv_iconst (v := zI 1) hx hb dX7_fits_15 rfl ?_
            refine lv_iload_n hx hb dX7_fits_16 rfl (lv_at hl 0 rfl) ?_
            refine z_iadd hx hb dX7_fits_17 ?_
            refine z_S_i (As := [.ref ha, .int (zI (((set : Nat) : Int))), .int (zI (1 + 1))]) (rest := []) (Wr := []) ⟨hx, hb, hml, hown, hts⟩ (c_X7_sum l D ha S hokp set 2 (by omega) (by omega)) (va_cwS 3 hts gX7_fits_X7_sum rfl rfl rfl (by decide +kernel) ⟨Nat.le_of_ble_eq_true rfl, Nat.le_of_ble_eq_true rfl⟩) w [0] rfl (by decide) [] rfl (by decide) (by decide) rfl hl.1 rfl (lv_room (Nat.le_of_ble_eq_true rfl)) dX7_fits_18 ⟨Nat.zero_le _, Nat.zero_le _⟩ (fun r W1 H locs hp w => ?_)
            obtain ⟨rfl, rfl⟩ := hp
            have w : zW D A s.heap s [(ha, .inl (D.2 1, 86, .inr (.inl (fNow S))))] H locs := w.sub [0] (by decide) rfl
            refine z_i2l hx hb (by omega) dX7_fits_21 ?_
            refine lv_aload_n hx hb dX7_fits_22 rfl (lv_at hl 2 rfl) ?_
            refine lv_bipush (v := zI 65) hx hb dX7_fits_23 (by decide +kernel) ?_
            refine lv_iload_n hx hb dX7_fits_25 rfl (lv_at hl 0 rfl) ?_
            refine z_iadd hx hb dX7_fits_26 ?_
            refine z_lald hx hb w 0 rfl 66 (by omega) (by decide) rfl (v := (zL (S 66))) (if_pos (by omega)) dX7_fits_27 ?_
            refine z_lcmp_gt (tgt := 36) hx hb (by omega) (by omega) dX7_fits_28 dX7_fits_29 (by decide) (fun c28 => ?_) (fun c28 => ?_)
            · skip
              refine lv_iconst (v := zI 0) hx hb dX7_fits_36 rfl ?_
              refine lv_istore_n (lv' := [(2, .int (zI (0))), (3, .int (zI (1))), (0, .ref ha), (1, .int (zI (((set : Nat) : Int))))]) hx hb dX7_fits_37 rfl hl (by decide) rfl (fun ls hl => ?_)
              refine z_iinc (lv' := [(3, .int (zI (1 + 1))), (2, .int (zI (0))), (0, .ref ha), (1, .int (zI (((set : Nat) : Int))))]) hx hb dX7_fits_38 hl (k := 1) rfl (by decide) rfl (fun ls hl => ?_)
              have hl : lv_has ls 4 [(3, .int (zI (2))), (2, .int (zI (0))), (0, .ref ha), (1, .int (zI (((set : Nat) : Int))))] := hl
              refine lv_goto (tgt := 4) hx hb dX7_fits_41 (by decide) ?_
              refine lv_iload_n hx hb dX7_fits_4 rfl (lv_at hl 0 rfl) ?_
              refine lv_iconst (v := zI 3) hx hb dX7_fits_5 rfl ?_
              refine z_icmp_ge (tgt := 44) hx hb (by omega) (by omega) dX7_fits_6 (by decide) (fun c6 => ?_) (fun c6 => ?_)
              · skip
                exact absurd c6 (by omega)
              · skip
                refine lv_iload_n hx hb dX7_fits_9 rfl (lv_at hl 1 rfl) ?_
                refine z_if_eq (tgt := 36) hx hb (by omega) dX7_fits_10 (by decide) (fun c10 => ?_) (fun c10 => ?_)
                · skip
                  refine lv_iconst (v := zI 0) hx hb dX7_fits_36 rfl ?_
                  refine lv_istore_n (lv' := [(2, .int (zI (0))), (3, .int (zI (2))), (0, .ref ha), (1, .int (zI (((set : Nat) : Int))))]) hx hb dX7_fits_37 rfl hl (by decide) rfl (fun ls hl => ?_)
                  refine z_iinc (lv' := [(3, .int (zI (2 + 1))), (2, .int (zI (0))), (0, .ref ha), (1, .int (zI (((set : Nat) : Int))))]) hx hb dX7_fits_38 hl (k := 1) rfl (by decide) rfl (fun ls hl => ?_)
                  have hl : lv_has ls 4 [(3, .int (zI (3))), (2, .int (zI (0))), (0, .ref ha), (1, .int (zI (((set : Nat) : Int))))] := hl
                  refine lv_goto (tgt := 4) hx hb dX7_fits_41 (by decide) ?_
                  refine lv_iload_n hx hb dX7_fits_4 rfl (lv_at hl 0 rfl) ?_
                  refine lv_iconst (v := zI 3) hx hb dX7_fits_5 rfl ?_
                  refine z_icmp_ge (tgt := 44) hx hb (by omega) (by omega) dX7_fits_6 (by decide) (fun c6 => ?_) (fun c6 => ?_)
                  · skip
                    refine lv_iload_n hx hb dX7_fits_44 rfl (lv_at hl 1 rfl) ?_
                    exact z_zret hx hb hr hlocks w dX7_fits_45 (by omega) ⟨by first | rw [zb_t (by omega)] | rw [zb_f (by omega)], rfl⟩
                  · skip
                    exact absurd c6 (by omega)
                · skip
                  exact absurd c10 (by omega)
            · skip
              refine lv_iconst (v := zI 1) hx hb dX7_fits_32 rfl ?_
              refine lv_goto (tgt := 37) hx hb dX7_fits_33 (by decide) ?_
              refine lv_istore_n (lv' := [(2, .int (zI (1))), (3, .int (zI (1))), (0, .ref ha), (1, .int (zI (((set : Nat) : Int))))]) hx hb dX7_fits_37 rfl hl (by decide) rfl (fun ls hl => ?_)
              refine z_iinc (lv' := [(3, .int (zI (1 + 1))), (2, .int (zI (1))), (0, .ref ha), (1, .int (zI (((set : Nat) : Int))))]) hx hb dX7_fits_38 hl (k := 1) rfl (by decide) rfl (fun ls hl => ?_)
              have hl : lv_has ls 4 [(3, .int (zI (2))), (2, .int (zI (1))), (0, .ref ha), (1, .int (zI (((set : Nat) : Int))))] := hl
              refine lv_goto (tgt := 4) hx hb dX7_fits_41 (by decide) ?_
              refine lv_iload_n hx hb dX7_fits_4 rfl (lv_at hl 0 rfl) ?_
              refine lv_iconst (v := zI 3) hx hb dX7_fits_5 rfl ?_
              refine z_icmp_ge (tgt := 44) hx hb (by omega) (by omega) dX7_fits_6 (by decide) (fun c6 => ?_) (fun c6 => ?_)
              · skip
                exact absurd c6 (by omega)
              · skip
                refine lv_iload_n hx hb dX7_fits_9 rfl (lv_at hl 1 rfl) ?_
                refine z_if_eq (tgt := 36) hx hb (by omega) dX7_fits_10 (by decide) (fun c10 => ?_) (fun c10 => ?_)
                · skip
                  exact absurd c10 (by omega)
                · skip
                  refine lv_aload_n hx hb dX7_fits_13 rfl (lv_at hl 2 rfl) ?_
                  refine lv_iload_n hx hb dX7_fits_14 rfl (lv_at hl 3 rfl) ?_
                  refine lv_iconst (v := zI 1) hx hb dX7_fits_15 rfl ?_
                  refine lv_iload_n hx hb dX7_fits_16 rfl (lv_at hl 0 rfl) ?_
                  refine z_iadd hx hb dX7_fits_17 ?_
                  refine z_S_i (As := [.ref ha, .int (zI (((set : Nat) : Int))), .int (zI (1 + 2))]) (rest := []) (Wr := []) ⟨hx, hb, hml, hown, hts⟩ (c_X7_sum l D ha S hokp set 3 (by omega) (by omega)) (va_cwS 3 hts gX7_fits_X7_sum rfl rfl rfl (by decide +kernel) ⟨Nat.le_of_ble_eq_true rfl, Nat.le_of_ble_eq_true rfl⟩) w [0] rfl (by decide) [] rfl (by decide) (by decide) rfl hl.1 rfl (lv_room (Nat.le_of_ble_eq_true rfl)) dX7_fits_18 ⟨Nat.zero_le _, Nat.zero_le _⟩ (fun r W1 H locs hp w => ?_)
                  obtain ⟨rfl, rfl⟩ := hp
                  have w : zW D A s.heap s [(ha, .inl (D.2 1, 86, .inr (.inl (fNow S))))] H locs := w.sub [0] (by decide) rfl
                  refine z_i2l hx hb (by omega) dX7_fits_21 ?_
                  refine lv_aload_n hx hb dX7_fits_22 rfl (lv_at hl 2 rfl) ?_
                  refine lv_bipush (v := zI 65) hx hb dX7_fits_23 (by decide +kernel) ?_
                  refine lv_iload_n hx hb dX7_fits_25 rfl (lv_at hl 0 rfl) ?_
                  refine z_iadd hx hb dX7_fits_26 ?_
                  refine z_lald hx hb w 0 rfl 67 (by omega) (by decide) rfl (v := (zL (S 67))) (if_pos (by omega)) dX7_fits_27 ?_
                  refine z_lcmp_gt (tgt := 36) hx hb (by omega) (by omega) dX7_fits_28 dX7_fits_29 (by decide) (fun c28 => ?_) (fun c28 => ?_)
                  · skip
                    refine lv_iconst (v := zI 0) hx hb dX7_fits_36 rfl ?_
                    refine lv_istore_n (lv' := [(2, .int (zI (0))), (3, .int (zI (2))), (0, .ref ha), (1, .int (zI (((set : Nat) : Int))))]) hx hb dX7_fits_37 rfl hl (by decide) rfl (fun ls hl => ?_)
                    refine z_iinc (lv' := [(3, .int (zI (2 + 1))), (2, .int (zI (0))), (0, .ref ha), (1, .int (zI (((set : Nat) : Int))))]) hx hb dX7_fits_38 hl (k := 1) rfl (by decide) rfl (fun ls hl => ?_)
                    have hl : lv_has ls 4 [(3, .int (zI (3))), (2, .int (zI (0))), (0, .ref ha), (1, .int (zI (((set : Nat) : Int))))] := hl
                    refine lv_goto (tgt := 4) hx hb dX7_fits_41 (by decide) ?_
                    refine lv_iload_n hx hb dX7_fits_4 rfl (lv_at hl 0 rfl) ?_
                    refine lv_iconst (v := zI 3) hx hb dX7_fits_5 rfl ?_
                    refine z_icmp_ge (tgt := 44) hx hb (by omega) (by omega) dX7_fits_6 (by decide) (fun c6 => ?_) (fun c6 => ?_)
                    · skip
                      refine lv_iload_n hx hb dX7_fits_44 rfl (lv_at hl 1 rfl) ?_
                      exact z_zret hx hb hr hlocks w dX7_fits_45 (by omega) ⟨by first | rw [zb_t (by omega)] | rw [zb_f (by omega)], rfl⟩
                    · skip
                      exact absurd c6 (by omega)
                  · skip
                    refine lv_iconst (v := zI 1) hx hb dX7_fits_32 rfl ?_
                    refine lv_goto (tgt := 37) hx hb dX7_fits_33 (by decide) ?_
                    refine lv_istore_n (lv' := [(2, .int (zI (1))), (3, .int (zI (2))), (0, .ref ha), (1, .int (zI (((set : Nat) : Int))))]) hx hb dX7_fits_37 rfl hl (by decide) rfl (fun ls hl => ?_)
                    refine z_iinc (lv' := [(3, .int (zI (2 + 1))), (2, .int (zI (1))), (0, .ref ha), (1, .int (zI (((set : Nat) : Int))))]) hx hb dX7_fits_38 hl (k := 1) rfl (by decide) rfl (fun ls hl => ?_)
                    have hl : lv_has ls 4 [(3, .int (zI (3))), (2, .int (zI (1))), (0, .ref ha), (1, .int (zI (((set : Nat) : Int))))] := hl
                    refine lv_goto (tgt := 4) hx hb dX7_fits_41 (by decide) ?_
                    refine lv_iload_n hx hb dX7_fits_4 rfl (lv_at hl 0 rfl) ?_
                    refine lv_iconst (v := zI 3) hx hb dX7_fits_5 rfl ?_
                    refine z_icmp_ge (tgt := 44) hx hb (by omega) (by omega) dX7_fits_6 (by decide) (fun c6 => ?_) (fun c6 => ?_)
                    · skip
                      refine lv_iload_n hx hb dX7_fits_44 rfl (lv_at hl 1 rfl) ?_
                      exact z_zret hx hb hr hlocks w dX7_fits_45 (by omega) ⟨by first | rw [zb_t (by omega)] | rw [zb_f (by omega)], rfl⟩
                    · skip
                      exact absurd c6 (by omega)
set_option maxHeartbeats 6000000 in
set_option maxRecDepth 100000 in
theorem c_X7_size (l : Launch) (D : zD) (ha : Nat) (S : Nat → Int) (i : Nat) (hi : i < 16) : zM l yX7_size wsX7_size (zR (1)) zE0 D [.ref ha, .int (zI (((i : Nat) : Int)))] (wMo D ha S) (zQi D (fun r W1 => r = zI (sSz S i) ∧ W1 = (wMo D ha S))) := by
  refine zM.of (cc := cX7_size) (maxL := 2) (ret := (some .int)) (by decide) rfl (Nat.le_of_ble_eq_true rfl) ?_
  intro p e s m below meth c A hx hb hml hown hts hr hlocks hE hnm w ls hl
  have hown : s.vm.findClass RX7 = some m.cls := hown
  have hl : lv_has ls 2 [(0, .ref ha), (1, .int (zI (((i : Nat) : Int))))] := hl
  have w : zW D A s.heap s [(ha, .inl (D.2 1, 86, .inr (.inl (fNow S))))] s.heap [] := w
  refine lv_aload_n hx hb dX7_size_0 rfl (lv_at hl 0 rfl) ?_
  refine lv_iload_n hx hb dX7_size_1 rfl (lv_at hl 1 rfl) ?_
  refine lv_iconst (v := zI 1) hx hb dX7_size_2 rfl ?_
  refine z_S_i (As := [.ref ha, .int (zI (((i : Nat) : Int))), .int (zI (1))]) (rest := []) (Wr := []) ⟨hx, hb, hml, hown, hts⟩ (c_X7_of l D ha S i 1 (by omega) (by omega)) (va_cwS 3 hts gX7_size_X7_of rfl rfl rfl (by decide +kernel) ⟨Nat.le_of_ble_eq_true rfl, Nat.le_of_ble_eq_true rfl⟩) w [0] rfl (by decide) [] rfl (by decide) (by decide) rfl hl.1 rfl (lv_room (Nat.le_of_ble_eq_true rfl)) dX7_size_3 ⟨Nat.zero_le _, Nat.zero_le _⟩ (fun r W1 H locs hp w => ?_)
  obtain ⟨rfl, rfl⟩ := hp
  have w : zW D A s.heap s [(ha, .inl (D.2 1, 86, .inr (.inl (fNow S))))] H locs := w.sub [0] (by decide) rfl
  refine lv_aload_n hx hb dX7_size_6 rfl (lv_at hl 0 rfl) ?_
  refine lv_iload_n hx hb dX7_size_7 rfl (lv_at hl 1 rfl) ?_
  refine lv_iconst (v := zI 2) hx hb dX7_size_8 rfl ?_
  refine z_S_i (As := [.ref ha, .int (zI (((i : Nat) : Int))), .int (zI (2))]) (rest := [.int (zI (sC S 1 i))]) (Wr := []) ⟨hx, hb, hml, hown, hts⟩ (c_X7_of l D ha S i 2 (by omega) (by omega)) (va_cwS 3 hts gX7_size_X7_of rfl rfl rfl (by decide +kernel) ⟨Nat.le_of_ble_eq_true rfl, Nat.le_of_ble_eq_true rfl⟩) w [0] rfl (by decide) [] rfl (by decide) (by decide) rfl hl.1 rfl (lv_room (Nat.le_of_ble_eq_true rfl)) dX7_size_9 ⟨Nat.zero_le _, Nat.zero_le _⟩ (fun r W1 H locs hp w => ?_)
  obtain ⟨rfl, rfl⟩ := hp
  have w : zW D A s.heap s [(ha, .inl (D.2 1, 86, .inr (.inl (fNow S))))] H locs := w.sub [0] (by decide) rfl
  refine z_iadd hx hb dX7_size_12 ?_
  refine lv_aload_n hx hb dX7_size_13 rfl (lv_at hl 0 rfl) ?_
  refine lv_iload_n hx hb dX7_size_14 rfl (lv_at hl 1 rfl) ?_
  refine lv_iconst (v := zI 3) hx hb dX7_size_15 rfl ?_
  refine z_S_i (As := [.ref ha, .int (zI (((i : Nat) : Int))), .int (zI (3))]) (rest := [.int (zI ((sC S 1 i) + (sC S 2 i)))]) (Wr := []) ⟨hx, hb, hml, hown, hts⟩ (c_X7_of l D ha S i 3 (by omega) (by omega)) (va_cwS 3 hts gX7_size_X7_of rfl rfl rfl (by decide +kernel) ⟨Nat.le_of_ble_eq_true rfl, Nat.le_of_ble_eq_true rfl⟩) w [0] rfl (by decide) [] rfl (by decide) (by decide) rfl hl.1 rfl (lv_room (Nat.le_of_ble_eq_true rfl)) dX7_size_16 ⟨Nat.zero_le _, Nat.zero_le _⟩ (fun r W1 H locs hp w => ?_)
  obtain ⟨rfl, rfl⟩ := hp
  have w : zW D A s.heap s [(ha, .inl (D.2 1, 86, .inr (.inl (fNow S))))] H locs := w.sub [0] (by decide) rfl
  refine z_iadd hx hb dX7_size_19 ?_
  exact z_iret hx hb hr hlocks w dX7_size_20 ⟨rfl, rfl⟩
theorem c_X7_sizeI (l : Launch) (D : zD) (ha : Nat) (S : Nat → Int) (i : Int) (hi : 0 ≤ i ∧ i < 16) : zM l yX7_size wsX7_size (zR 1) zE0 D [.ref ha, .int (zI i)] (wMo D ha S) (zQi D (fun r W1 => r = zI (sSz S i.toNat) ∧ W1 = (wMo D ha S))) := by
  have h := c_X7_size l D ha S i.toNat (by omega)
  rw [Int.toNat_of_nonneg hi.1] at h
  exact h
set_option maxHeartbeats 6000000 in
set_option maxRecDepth 100000 in
theorem c_X7_first (l : Launch) (D : zD) (ha : Nat) (S : Nat → Int) (hok : OkP S) (set : Nat) (hs : set < 2147483648) : zM l yX7_first wsX7_first (zR (2)) zE0 D [.ref ha, .int (zI (((set : Nat) : Int)))] (wMo D ha S) (zQi D (fun r W1 => r = zI (sFs S set (zn S)) ∧ W1 = (wMo D ha S))) := by
  refine zM.of (cc := cX7_first) (maxL := 4) (ret := (some .int)) (by decide) rfl (Nat.le_of_ble_eq_true rfl) ?_
  intro p e s m below meth c A hx hb hml hown hts hr hlocks hE hnm w ls hl
  have hown : s.vm.findClass RX7 = some m.cls := hown
  have hl : lv_has ls 4 [(0, .ref ha), (1, .int (zI (((set : Nat) : Int))))] := hl
  have hn := zn_eq hok
  have h16 := zn_le hok
  have hlim := hok.2.2
  have hokp := hok
  have w : zW D A s.heap s [(ha, .inl (D.2 1, 86, .inr (.inl (fNow S))))] s.heap [] := w
  refine lv_bipush (v := zI (-6)) hx hb dX7_first_0 (by decide +kernel) ?_
  refine lv_istore_n (lv' := [(2, .int (zI ((-6)))), (0, .ref ha), (1, .int (zI (((set : Nat) : Int))))]) hx hb dX7_first_2 rfl hl (by decide) rfl (fun ls hl => ?_)
  refine lv_iconst (v := zI 0) hx hb dX7_first_3 rfl ?_
  refine lv_istore_n (lv' := [(3, .int (zI (0))), (2, .int (zI ((-6)))), (0, .ref ha), (1, .int (zI (((set : Nat) : Int))))]) hx hb dX7_first_4 rfl hl (by decide) rfl (fun ls hl => ?_)
  have lp_5 : ∀ (n_5 : Nat) (i : Nat) (x3 : Int) (x2 : Int) , zn S - i < n_5 → (i ≤ zn S) → x3 = ((i : Nat) : Int) → x2 = sFs S set i → ∀ (H : Heap) (locs : List Loc) (ls : Array Slot), zW D A s.heap s [(ha, .inl (D.2 1, 86, .inr (.inl (fNow S))))] H locs → lv_has ls 4 [(3, .int (zI (x3))), (2, .int (zI (x2))), (0, .ref ha), (1, .int (zI (((set : Nat) : Int))))] → W p l e (zR (2)) s m [.ref ha, .int (zI (((set : Nat) : Int)))].toArray below meth c H locs 0 0 (MQ below ((zQi D (fun r W1 => r = zI (sFs S set (zn S)) ∧ W1 = (wMo D ha S))) A) [.ref ha, .int (zI (((set : Nat) : Int)))].toArray s 0 0 A) (F0 m 5 ls []) := by
    intro n_5
    induction n_5 with
    | zero => intro i x3 x2 h_; exact absurd h_ (Nat.not_lt_zero _)
    | succ n_5 ih_5 =>
      intro i x3 x2 hf_5 hi ex3 ex2 H locs ls w hl
      subst ex3
      subst ex2
      have hlb : -6 ≤ sFs S set i ∧ sFs S set i < i ∧ (¬ sFs S set i = -6 → 0 ≤ sFs S set i) := sFs_b S set i
      have hl : lv_has ls 4 [(3, .int (zI (((i : Nat) : Int)))), (2, .int (zI (sFs S set i))), (0, .ref ha), (1, .int (zI (((set : Nat) : Int))))] := hl
      refine lv_iload_n hx hb dX7_first_5 rfl (lv_at hl 0 rfl) ?_
      refine z_i2l hx hb (by omega) dX7_first_6 ?_
      refine lv_aload_n hx hb dX7_first_7 rfl (lv_at hl 2 rfl) ?_
      refine lv_iconst (v := zI 0) hx hb dX7_first_8 rfl ?_
      refine z_lald hx hb w 0 rfl 0 (by omega) (by decide) rfl (v := (zL (S 0))) (if_pos (by omega)) dX7_first_9 ?_
      refine z_lcmp_ge (tgt := 76) hx hb (by omega) (by omega) dX7_first_10 dX7_first_11 (by decide) (fun c10 => ?_) (fun c10 => ?_)
      · skip
        refine lv_iload_n hx hb dX7_first_76 rfl (lv_at hl 1 rfl) ?_
        exact z_iret hx hb hr hlocks w dX7_first_77 ⟨by have e9 : i = zn S := (by omega); subst e9; rfl, rfl⟩
      · skip
        refine lv_iload_n hx hb dX7_first_14 rfl (lv_at hl 3 rfl) ?_
        refine lv_iload_n hx hb dX7_first_15 rfl (lv_at hl 0 rfl) ?_
        refine z_ishr (a := set) (b := i) hx hb (by omega) dX7_first_16 ?_
        refine lv_iconst (v := zI 1) hx hb dX7_first_17 rfl ?_
        refine z_iand (a := set >>> i) (b := 1) hx hb dX7_first_18 ?_
        refine lv_iconst (v := zI 1) hx hb dX7_first_19 rfl ?_
        have hq := zt_le set i
        refine z_icmp_ne (tgt := 70) hx hb (by omega) (by omega) dX7_first_20 (by decide) (fun c20 => ?_) (fun c20 => ?_)
        · skip
          have hbit : ¬ set.testBit i = true := fun q => c20 (by have := (zt_bit set i).mpr q; omega)
          refine z_iinc (lv' := [(3, .int (zI (((i : Nat) : Int) + 1))), (2, .int (zI (sFs S set i))), (0, .ref ha), (1, .int (zI (((set : Nat) : Int))))]) hx hb dX7_first_70 hl (k := 0) rfl (by decide) rfl (fun ls hl => ?_)
          refine lv_goto (tgt := 5) hx hb dX7_first_73 (by decide) ?_
          exact ih_5 (i + 1) _ _ (by omega) (by omega) (by first | rfl | omega) (by rw [sFs_s]; split <;> rename_i hh <;> first | rfl | exact absurd hh.1.1 hbit | exact absurd hh.1.2 (by omega) | exact absurd hh.2 hno | exact absurd (And.intro (And.intro hbit c28) hor) hh) _ _ _ w (lv_sub hl [0, 1, 2, 3] rfl)
        · skip
          have hbit : set.testBit i = true := (zt_bit set i).mp (by omega)
          refine lv_aload_n hx hb dX7_first_23 rfl (lv_at hl 2 rfl) ?_
          refine lv_iload_n hx hb dX7_first_24 rfl (lv_at hl 0 rfl) ?_
          refine z_S_i (As := [.ref ha, .int (zI (((i : Nat) : Int)))]) (rest := []) (Wr := []) ⟨hx, hb, hml, hown, hts⟩ (c_X7_size l D ha S i (by omega)) (va_cwS 2 hts gX7_first_X7_size rfl rfl rfl (by decide +kernel) ⟨Nat.le_of_ble_eq_true rfl, Nat.le_of_ble_eq_true rfl⟩) w [0] rfl (by decide) [] rfl (by decide) (by decide) rfl hl.1 rfl (lv_room (Nat.le_of_ble_eq_true rfl)) dX7_first_25 ⟨Nat.zero_le _, Nat.zero_le _⟩ (fun r W1 H locs hp w => ?_)
          obtain ⟨rfl, rfl⟩ := hp
          have w : zW D A s.heap s [(ha, .inl (D.2 1, 86, .inr (.inl (fNow S))))] H locs := w.sub [0] (by decide) rfl
          have hsb := sSz_b hok (i := i) (by omega)
          refine z_if_le (tgt := 70) hx hb (by omega) dX7_first_28 (by decide) (fun c28 => ?_) (fun c28 => ?_)
          · skip
            refine z_iinc (lv' := [(3, .int (zI (((i : Nat) : Int) + 1))), (2, .int (zI (sFs S set i))), (0, .ref ha), (1, .int (zI (((set : Nat) : Int))))]) hx hb dX7_first_70 hl (k := 0) rfl (by decide) rfl (fun ls hl => ?_)
            refine lv_goto (tgt := 5) hx hb dX7_first_73 (by decide) ?_
            exact ih_5 (i + 1) _ _ (by omega) (by omega) (by first | rfl | omega) (by rw [sFs_s]; split <;> rename_i hh <;> first | rfl | exact absurd hh.1.1 hbit | exact absurd hh.1.2 (by omega) | exact absurd hh.2 hno | exact absurd (And.intro (And.intro hbit c28) hor) hh) _ _ _ w (lv_sub hl [0, 1, 2, 3] rfl)
          · skip
            refine lv_iload_n hx hb dX7_first_31 rfl (lv_at hl 1 rfl) ?_
            refine lv_bipush (v := zI (-6)) hx hb dX7_first_32 (by decide +kernel) ?_
            refine z_icmp_eq (tgt := 64) hx hb (by omega) (by omega) dX7_first_34 (by decide) (fun c34 => ?_) (fun c34 => ?_)
            · skip
              have hor : sFs S set i = -6 ∨ sC S 0 i * sSz S (sFs S set i).toNat < sC S 0 (sFs S set i).toNat * sSz S i := Or.inl c34
              refine lv_iload_n hx hb dX7_first_64 rfl (lv_at hl 0 rfl) ?_
              refine lv_goto (tgt := 69) hx hb dX7_first_65 (by decide) ?_
              refine lv_istore_n (lv' := [(2, .int (zI (((i : Nat) : Int)))), (3, .int (zI (((i : Nat) : Int)))), (0, .ref ha), (1, .int (zI (((set : Nat) : Int))))]) hx hb dX7_first_69 rfl hl (by decide) rfl (fun ls hl => ?_)
              refine z_iinc (lv' := [(3, .int (zI (((i : Nat) : Int) + 1))), (2, .int (zI (((i : Nat) : Int)))), (0, .ref ha), (1, .int (zI (((set : Nat) : Int))))]) hx hb dX7_first_70 hl (k := 1) rfl (by decide) rfl (fun ls hl => ?_)
              refine lv_goto (tgt := 5) hx hb dX7_first_73 (by decide) ?_
              exact ih_5 (i + 1) _ _ (by omega) (by omega) (by first | rfl | omega) (by rw [sFs_s]; split <;> rename_i hh <;> first | rfl | exact absurd hh.1.1 hbit | exact absurd hh.1.2 (by omega) | exact absurd hh.2 hno | exact absurd (And.intro (And.intro hbit c28) hor) hh) _ _ _ w (lv_sub hl [0, 1, 2, 3] rfl)
            · skip
              refine lv_aload_n hx hb dX7_first_37 rfl (lv_at hl 2 rfl) ?_
              refine lv_iload_n hx hb dX7_first_38 rfl (lv_at hl 0 rfl) ?_
              refine lv_iconst (v := zI 0) hx hb dX7_first_39 rfl ?_
              refine z_S_i (As := [.ref ha, .int (zI (((i : Nat) : Int))), .int (zI (0))]) (rest := []) (Wr := []) ⟨hx, hb, hml, hown, hts⟩ (c_X7_of l D ha S i 0 (by omega) (by omega)) (va_cwS 3 hts gX7_first_X7_of rfl rfl rfl (by decide +kernel) ⟨Nat.le_of_ble_eq_true rfl, Nat.le_of_ble_eq_true rfl⟩) w [0] rfl (by decide) [] rfl (by decide) (by decide) rfl hl.1 rfl (lv_room (Nat.le_of_ble_eq_true rfl)) dX7_first_40 ⟨Nat.zero_le _, Nat.zero_le _⟩ (fun r W1 H locs hp w => ?_)
              obtain ⟨rfl, rfl⟩ := hp
              have w : zW D A s.heap s [(ha, .inl (D.2 1, 86, .inr (.inl (fNow S))))] H locs := w.sub [0] (by decide) rfl
              refine lv_aload_n hx hb dX7_first_43 rfl (lv_at hl 2 rfl) ?_
              refine lv_iload_n hx hb dX7_first_44 rfl (lv_at hl 1 rfl) ?_
              refine z_S_i (As := [.ref ha, .int (zI (sFs S set i))]) (rest := [.int (zI (sC S 0 i))]) (Wr := []) ⟨hx, hb, hml, hown, hts⟩ (c_X7_sizeI l D ha S (sFs S set i) (by omega)) (va_cwS 2 hts gX7_first_X7_size rfl rfl rfl (by decide +kernel) ⟨Nat.le_of_ble_eq_true rfl, Nat.le_of_ble_eq_true rfl⟩) w [0] rfl (by decide) [] rfl (by decide) (by decide) rfl hl.1 rfl (lv_room (Nat.le_of_ble_eq_true rfl)) dX7_first_45 ⟨Nat.zero_le _, Nat.zero_le _⟩ (fun r W1 H locs hp w => ?_)
              obtain ⟨rfl, rfl⟩ := hp
              have w : zW D A s.heap s [(ha, .inl (D.2 1, 86, .inr (.inl (fNow S))))] H locs := w.sub [0] (by decide) rfl
              refine z_imul hx hb dX7_first_48 ?_
              refine lv_aload_n hx hb dX7_first_49 rfl (lv_at hl 2 rfl) ?_
              refine lv_iload_n hx hb dX7_first_50 rfl (lv_at hl 1 rfl) ?_
              refine lv_iconst (v := zI 0) hx hb dX7_first_51 rfl ?_
              refine z_S_i (As := [.ref ha, .int (zI (sFs S set i)), .int (zI (0))]) (rest := [.int (zI ((sC S 0 i) * (sSz S (sFs S set i).toNat)))]) (Wr := []) ⟨hx, hb, hml, hown, hts⟩ (c_X7_ofI l D ha S (sFs S set i) 0 (by omega) (by omega)) (va_cwS 3 hts gX7_first_X7_of rfl rfl rfl (by decide +kernel) ⟨Nat.le_of_ble_eq_true rfl, Nat.le_of_ble_eq_true rfl⟩) w [0] rfl (by decide) [] rfl (by decide) (by decide) rfl hl.1 rfl (lv_room (Nat.le_of_ble_eq_true rfl)) dX7_first_52 ⟨Nat.zero_le _, Nat.zero_le _⟩ (fun r W1 H locs hp w => ?_)
              obtain ⟨rfl, rfl⟩ := hp
              have w : zW D A s.heap s [(ha, .inl (D.2 1, 86, .inr (.inl (fNow S))))] H locs := w.sub [0] (by decide) rfl
              refine lv_aload_n hx hb dX7_first_55 rfl (lv_at hl 2 rfl) ?_
              refine lv_iload_n hx hb dX7_first_56 rfl (lv_at hl 0 rfl) ?_
              refine z_S_i (As := [.ref ha, .int (zI (((i : Nat) : Int)))]) (rest := [.int (zI (sC S 0 (sFs S set i).toNat)), .int (zI ((sC S 0 i) * (sSz S (sFs S set i).toNat)))]) (Wr := []) ⟨hx, hb, hml, hown, hts⟩ (c_X7_size l D ha S i (by omega)) (va_cwS 2 hts gX7_first_X7_size rfl rfl rfl (by decide +kernel) ⟨Nat.le_of_ble_eq_true rfl, Nat.le_of_ble_eq_true rfl⟩) w [0] rfl (by decide) [] rfl (by decide) (by decide) rfl hl.1 rfl (lv_room (Nat.le_of_ble_eq_true rfl)) dX7_first_57 ⟨Nat.zero_le _, Nat.zero_le _⟩ (fun r W1 H locs hp w => ?_)
              obtain ⟨rfl, rfl⟩ := hp
              have w : zW D A s.heap s [(ha, .inl (D.2 1, 86, .inr (.inl (fNow S))))] H locs := w.sub [0] (by decide) rfl
              refine z_imul hx hb dX7_first_60 ?_
              have um1 := mul_b (hok.2.1 i (by omega)).1 (sSz_b hok (i := (sFs S set i).toNat) (by omega))
              have um2 := mul_b (hok.2.1 (sFs S set i).toNat (by omega)).1 (sSz_b hok (i := i) (by omega))
              refine z_icmp_ge (tgt := 68) hx hb (by omega) (by omega) dX7_first_61 (by decide) (fun c61 => ?_) (fun c61 => ?_)
              · skip
                have hno : ¬ (sFs S set i = -6 ∨ sC S 0 i * sSz S (sFs S set i).toNat < sC S 0 (sFs S set i).toNat * sSz S i) := fun z => z.elim c34 (fun z => absurd z (by omega))
                refine lv_iload_n hx hb dX7_first_68 rfl (lv_at hl 1 rfl) ?_
                refine lv_istore_n (lv' := [(2, .int (zI (sFs S set i))), (3, .int (zI (((i : Nat) : Int)))), (0, .ref ha), (1, .int (zI (((set : Nat) : Int))))]) hx hb dX7_first_69 rfl hl (by decide) rfl (fun ls hl => ?_)
                refine z_iinc (lv' := [(3, .int (zI (((i : Nat) : Int) + 1))), (2, .int (zI (sFs S set i))), (0, .ref ha), (1, .int (zI (((set : Nat) : Int))))]) hx hb dX7_first_70 hl (k := 1) rfl (by decide) rfl (fun ls hl => ?_)
                refine lv_goto (tgt := 5) hx hb dX7_first_73 (by decide) ?_
                exact ih_5 (i + 1) _ _ (by omega) (by omega) (by first | rfl | omega) (by rw [sFs_s]; split <;> rename_i hh <;> first | rfl | exact absurd hh.1.1 hbit | exact absurd hh.1.2 (by omega) | exact absurd hh.2 hno | exact absurd (And.intro (And.intro hbit c28) hor) hh) _ _ _ w (lv_sub hl [0, 1, 2, 3] rfl)
              · skip
                have hor : sFs S set i = -6 ∨ sC S 0 i * sSz S (sFs S set i).toNat < sC S 0 (sFs S set i).toNat * sSz S i := Or.inr c61
                refine lv_iload_n hx hb dX7_first_64 rfl (lv_at hl 0 rfl) ?_
                refine lv_goto (tgt := 69) hx hb dX7_first_65 (by decide) ?_
                refine lv_istore_n (lv' := [(2, .int (zI (((i : Nat) : Int)))), (3, .int (zI (((i : Nat) : Int)))), (0, .ref ha), (1, .int (zI (((set : Nat) : Int))))]) hx hb dX7_first_69 rfl hl (by decide) rfl (fun ls hl => ?_)
                refine z_iinc (lv' := [(3, .int (zI (((i : Nat) : Int) + 1))), (2, .int (zI (((i : Nat) : Int)))), (0, .ref ha), (1, .int (zI (((set : Nat) : Int))))]) hx hb dX7_first_70 hl (k := 1) rfl (by decide) rfl (fun ls hl => ?_)
                refine lv_goto (tgt := 5) hx hb dX7_first_73 (by decide) ?_
                exact ih_5 (i + 1) _ _ (by omega) (by omega) (by first | rfl | omega) (by rw [sFs_s]; split <;> rename_i hh <;> first | rfl | exact absurd hh.1.1 hbit | exact absurd hh.1.2 (by omega) | exact absurd hh.2 hno | exact absurd (And.intro (And.intro hbit c28) hor) hh) _ _ _ w (lv_sub hl [0, 1, 2, 3] rfl)
  exact lp_5 ((zn S - 0) + 1) 0 _ _ (by omega) (by omega) (by first | rfl | omega) (by first | rfl | omega) _ _ _ w (lv_sub hl [0, 1, 2, 3] rfl)
set_option maxHeartbeats 6000000 in
set_option maxRecDepth 100000 in
theorem c_X7_repairs (l : Launch) (D : zD) (ha : Nat) (S : Nat → Int) (hok : OkP S) (set : Nat) (hs : set < 65536) : zM l yX7_repairs wsX7_repairs (zR (3)) zE0 D [.ref ha, .int (zI (((set : Nat) : Int)))] (wMo D ha S) (zQi D (fun r W1 => r = zI (((sMend S set : Nat) : Int)) ∧ W1 = (wMo D ha S))) := by
  refine zM.of (cc := cX7_repairs) (maxL := 4) (ret := (some .int)) (by decide) rfl (Nat.le_of_ble_eq_true rfl) ?_
  intro p e s m below meth c A hx hb hml hown hts hr hlocks hE hnm w ls hl
  have hown : s.vm.findClass RX7 = some m.cls := hown
  have hl : lv_has ls 4 [(0, .ref ha), (1, .int (zI (((set : Nat) : Int))))] := hl
  have hn := zn_eq hok
  have h16 := zn_le hok
  have hlim := hok.2.2
  have hokp := hok
  have w : zW D A s.heap s [(ha, .inl (D.2 1, 86, .inr (.inl (fNow S))))] s.heap [] := w
  refine lv_iload_n hx hb dX7_repairs_0 rfl (lv_at hl 1 rfl) ?_
  refine lv_istore_n (lv' := [(2, .int (zI (((set : Nat) : Int)))), (0, .ref ha), (1, .int (zI (((set : Nat) : Int))))]) hx hb dX7_repairs_1 rfl hl (by decide) rfl (fun ls hl => ?_)
  have lp_2 : ∀ (n_2 : Nat) (k : Nat) (f : Nat) (x2 : Int) , sCnt k 16 < n_2 → (k < 65536) → (sTake S f k = sTake S 16 set) → (sCnt k 16 ≤ f) → x2 = ((k : Nat) : Int) → ∀ (H : Heap) (locs : List Loc) (ls : Array Slot), zW D A s.heap s [(ha, .inl (D.2 1, 86, .inr (.inl (fNow S))))] H locs → lv_has ls 4 [(2, .int (zI (x2))), (0, .ref ha), (1, .int (zI (((set : Nat) : Int))))] → W p l e (zR (3)) s m [.ref ha, .int (zI (((set : Nat) : Int)))].toArray below meth c H locs 0 0 (MQ below ((zQi D (fun r W1 => r = zI (((sMend S set : Nat) : Int)) ∧ W1 = (wMo D ha S))) A) [.ref ha, .int (zI (((set : Nat) : Int)))].toArray s 0 0 A) (F0 m 2 ls []) := by
    intro n_2
    induction n_2 with
    | zero => intro k f x2 h_; exact absurd h_ (Nat.not_lt_zero _)
    | succ n_2 ih_2 =>
      intro k f x2 hf_2 hk hkt hkc ex2 H locs ls w hl
      subst ex2
      have hl : lv_has ls 4 [(2, .int (zI (((k : Nat) : Int)))), (0, .ref ha), (1, .int (zI (((set : Nat) : Int))))] := hl
      refine lv_aload_n hx hb dX7_repairs_2 rfl (lv_at hl 1 rfl) ?_
      refine lv_iload_n hx hb dX7_repairs_3 rfl (lv_at hl 0 rfl) ?_
      refine z_S_i (As := [.ref ha, .int (zI (((k : Nat) : Int)))]) (rest := []) (Wr := []) ⟨hx, hb, hml, hown, hts⟩ (c_X7_fits l D ha S hokp k (by omega)) (va_cwS 2 hts gX7_repairs_X7_fits rfl rfl rfl (by decide +kernel) ⟨Nat.le_of_ble_eq_true rfl, Nat.le_of_ble_eq_true rfl⟩) w [0] rfl (by decide) [] rfl (by decide) (by decide) rfl hl.1 rfl (lv_room (Nat.le_of_ble_eq_true rfl)) dX7_repairs_4 ⟨Nat.zero_le _, Nat.zero_le _⟩ (fun r W1 H locs hp w => ?_)
      obtain ⟨rfl, rfl⟩ := hp
      have w : zW D A s.heap s [(ha, .inl (D.2 1, 86, .inr (.inl (fNow S))))] H locs := w.sub [0] (by decide) rfl
      refine z_if_ne_b (tgt := 25) hx hb dX7_repairs_7 (by decide) (fun c7 => ?_) (fun c7 => ?_)
      · skip
        have hfin : k = sTake S 16 set := sTake_end hkt (Or.inr c7)
        refine lv_iconst (v := zI 0) hx hb dX7_repairs_25 rfl ?_
        refine lv_istore_n (lv' := [(3, .int (zI (0))), (2, .int (zI (((k : Nat) : Int)))), (0, .ref ha), (1, .int (zI (((set : Nat) : Int))))]) hx hb dX7_repairs_26 rfl hl (by decide) rfl (fun ls hl => ?_)
        have lp_27 : ∀ (n_27 : Nat) (i : Nat) (x3 : Int) (x2 : Int) , zn S - i < n_27 → (i ≤ zn S) → x3 = ((i : Nat) : Int) → x2 = ((sAdd S k i : Nat) : Int) → ∀ (H : Heap) (locs : List Loc) (ls : Array Slot), zW D A s.heap s [(ha, .inl (D.2 1, 86, .inr (.inl (fNow S))))] H locs → lv_has ls 4 [(3, .int (zI (x3))), (2, .int (zI (x2))), (0, .ref ha), (1, .int (zI (((set : Nat) : Int))))] → W p l e (zR (3)) s m [.ref ha, .int (zI (((set : Nat) : Int)))].toArray below meth c H locs 0 0 (MQ below ((zQi D (fun r W1 => r = zI (((sMend S set : Nat) : Int)) ∧ W1 = (wMo D ha S))) A) [.ref ha, .int (zI (((set : Nat) : Int)))].toArray s 0 0 A) (F0 m 27 ls []) := by
          intro n_27
          induction n_27 with
          | zero => intro i x3 x2 h_; exact absurd h_ (Nat.not_lt_zero _)
          | succ n_27 ih_27 =>
            intro i x3 x2 hf_27 hi ex3 ex2 H locs ls w hl
            subst ex3
            subst ex2
            have hal := sAdd_lt (S := S) hk i (by omega)
            have hl : lv_has ls 4 [(3, .int (zI (((i : Nat) : Int)))), (2, .int (zI (((sAdd S k i : Nat) : Int)))), (0, .ref ha), (1, .int (zI (((set : Nat) : Int))))] := hl
            refine lv_iload_n hx hb dX7_repairs_27 rfl (lv_at hl 0 rfl) ?_
            refine z_i2l hx hb (by omega) dX7_repairs_28 ?_
            refine lv_aload_n hx hb dX7_repairs_29 rfl (lv_at hl 2 rfl) ?_
            refine lv_iconst (v := zI 0) hx hb dX7_repairs_30 rfl ?_
            refine z_lald hx hb w 0 rfl 0 (by omega) (by decide) rfl (v := (zL (S 0))) (if_pos (by omega)) dX7_repairs_31 ?_
            refine z_lcmp_ge (tgt := 64) hx hb (by omega) (by omega) dX7_repairs_32 dX7_repairs_33 (by decide) (fun c32 => ?_) (fun c32 => ?_)
            · skip
              refine lv_iload_n hx hb dX7_repairs_64 rfl (lv_at hl 1 rfl) ?_
              exact z_iret hx hb hr hlocks w dX7_repairs_65 ⟨by have e9 : i = zn S := (by omega); subst e9; unfold sMend; rw [← hfin], rfl⟩
            · skip
              refine lv_iload_n hx hb dX7_repairs_36 rfl (lv_at hl 1 rfl) ?_
              refine lv_aload_n hx hb dX7_repairs_37 rfl (lv_at hl 2 rfl) ?_
              refine lv_iload_n hx hb dX7_repairs_38 rfl (lv_at hl 1 rfl) ?_
              refine lv_iconst (v := zI 1) hx hb dX7_repairs_39 rfl ?_
              refine lv_iload_n hx hb dX7_repairs_40 rfl (lv_at hl 0 rfl) ?_
              refine z_ishl1 (b := i) hx hb (by omega) dX7_repairs_41 ?_
              refine z_ior (a := sAdd S k i) (b := 2 ^ i) hx hb dX7_repairs_42 ?_
              have hor9 := zor_16 hal (show i < 16 by omega)
              refine z_S_i (As := [.ref ha, .int (zI ((((sAdd S k i) ||| (2 ^ i) : Nat) : Int)))]) (rest := [.int (zI (((sAdd S k i : Nat) : Int)))]) (Wr := []) ⟨hx, hb, hml, hown, hts⟩ (c_X7_fits l D ha S hokp ((sAdd S k i) ||| (2 ^ i)) (by omega)) (va_cwS 2 hts gX7_repairs_X7_fits rfl rfl rfl (by decide +kernel) ⟨Nat.le_of_ble_eq_true rfl, Nat.le_of_ble_eq_true rfl⟩) w [0] rfl (by decide) [] rfl (by decide) (by decide) rfl hl.1 rfl (lv_room (Nat.le_of_ble_eq_true rfl)) dX7_repairs_43 ⟨Nat.zero_le _, Nat.zero_le _⟩ (fun r W1 H locs hp w => ?_)
              obtain ⟨rfl, rfl⟩ := hp
              have w : zW D A s.heap s [(ha, .inl (D.2 1, 86, .inr (.inl (fNow S))))] H locs := w.sub [0] (by decide) rfl
              refine z_if_eq_b (tgt := 55) hx hb dX7_repairs_46 (by decide) (fun c46 => ?_) (fun c46 => ?_)
              · skip
                refine lv_iconst (v := zI 0) hx hb dX7_repairs_55 rfl ?_
                refine z_ior (a := sAdd S k i) (b := 0) hx hb dX7_repairs_56 ?_
                refine lv_istore_n (lv' := [(2, .int (zI ((((sAdd S k i) ||| 0 : Nat) : Int)))), (3, .int (zI (((i : Nat) : Int)))), (0, .ref ha), (1, .int (zI (((set : Nat) : Int))))]) hx hb dX7_repairs_57 rfl hl (by decide) rfl (fun ls hl => ?_)
                refine z_iinc (lv' := [(3, .int (zI (((i : Nat) : Int) + 1))), (2, .int (zI ((((sAdd S k i) ||| 0 : Nat) : Int)))), (0, .ref ha), (1, .int (zI (((set : Nat) : Int))))]) hx hb dX7_repairs_58 hl (k := 1) rfl (by decide) rfl (fun ls hl => ?_)
                refine lv_goto (tgt := 27) hx hb dX7_repairs_61 (by decide) ?_
                exact ih_27 (i + 1) _ _ (by omega) (by omega) (by first | rfl | omega) (by simp only [sAdd]; first | rw [if_pos c46] | (rw [if_neg c46]; simp)) _ _ _ w (lv_sub hl [0, 1, 2, 3] rfl)
              · skip
                refine lv_iconst (v := zI 1) hx hb dX7_repairs_49 rfl ?_
                refine lv_iload_n hx hb dX7_repairs_50 rfl (lv_at hl 0 rfl) ?_
                refine z_ishl1 (b := i) hx hb (by omega) dX7_repairs_51 ?_
                refine lv_goto (tgt := 56) hx hb dX7_repairs_52 (by decide) ?_
                refine z_ior (a := sAdd S k i) (b := 2 ^ i) hx hb dX7_repairs_56 ?_
                refine lv_istore_n (lv' := [(2, .int (zI ((((sAdd S k i) ||| (2 ^ i) : Nat) : Int)))), (3, .int (zI (((i : Nat) : Int)))), (0, .ref ha), (1, .int (zI (((set : Nat) : Int))))]) hx hb dX7_repairs_57 rfl hl (by decide) rfl (fun ls hl => ?_)
                refine z_iinc (lv' := [(3, .int (zI (((i : Nat) : Int) + 1))), (2, .int (zI ((((sAdd S k i) ||| (2 ^ i) : Nat) : Int)))), (0, .ref ha), (1, .int (zI (((set : Nat) : Int))))]) hx hb dX7_repairs_58 hl (k := 1) rfl (by decide) rfl (fun ls hl => ?_)
                refine lv_goto (tgt := 27) hx hb dX7_repairs_61 (by decide) ?_
                exact ih_27 (i + 1) _ _ (by omega) (by omega) (by first | rfl | omega) (by simp only [sAdd]; first | rw [if_pos c46] | (rw [if_neg c46]; simp)) _ _ _ w (lv_sub hl [0, 1, 2, 3] rfl)
        exact lp_27 ((zn S - 0) + 1) 0 _ _ (by omega) (by omega) (by first | rfl | omega) rfl _ _ _ w (lv_sub hl [0, 1, 2, 3] rfl)
      · skip
        refine lv_iload_n hx hb dX7_repairs_10 rfl (lv_at hl 0 rfl) ?_
        refine lv_iconst (v := zI 1) hx hb dX7_repairs_11 rfl ?_
        refine lv_aload_n hx hb dX7_repairs_12 rfl (lv_at hl 1 rfl) ?_
        refine lv_iload_n hx hb dX7_repairs_13 rfl (lv_at hl 0 rfl) ?_
        refine z_S_i (As := [.ref ha, .int (zI (((k : Nat) : Int)))]) (rest := [.int (zI (1)), .int (zI (((k : Nat) : Int)))]) (Wr := []) ⟨hx, hb, hml, hown, hts⟩ (c_X7_first l D ha S hokp k (by omega)) (va_cwS 2 hts gX7_repairs_X7_first rfl rfl rfl (by decide +kernel) ⟨Nat.le_of_ble_eq_true rfl, Nat.le_of_ble_eq_true rfl⟩) w [0] rfl (by decide) [] rfl (by decide) (by decide) rfl hl.1 rfl (lv_room (Nat.le_of_ble_eq_true rfl)) dX7_repairs_14 ⟨Nat.zero_le _, Nat.zero_le _⟩ (fun r W1 H locs hp w => ?_)
        obtain ⟨rfl, rfl⟩ := hp
        have w : zW D A s.heap s [(ha, .inl (D.2 1, 86, .inr (.inl (fNow S))))] H locs := w.sub [0] (by decide) rfl
        have hnf := nofit_lst hok c7
        have hlb := sLst_b S k (zn S)
        have efs : sFs S k (zn S) = (((max 0 (sLst S k (zn S))).toNat : Nat) : Int) := by unfold sFs; rw [if_neg (by omega)]; omega
        refine W.eq (g2 := F0 m 17 ls [.int (zI ((((max 0 (sLst S k (zn S))).toNat : Nat) : Int))), .int (zI (1)), .int (zI (((k : Nat) : Int)))]) (by rw [efs]) ?_
        refine z_ishl1 (b := (max 0 (sLst S k (zn S))).toNat) hx hb (by omega) dX7_repairs_17 ?_
        refine lv_iconst (v := zI (-1)) hx hb dX7_repairs_18 rfl ?_
        refine z_inot (b := 2 ^ ((max 0 (sLst S k (zn S))).toNat)) hx hb dX7_repairs_19 ?_
        refine z_iandn (a := k) (b := 2 ^ ((max 0 (sLst S k (zn S))).toNat)) hx hb dX7_repairs_20 ?_
        refine lv_istore_n (lv' := [(2, .int (zI (((zclr (k) (2 ^ ((max 0 (sLst S k (zn S))).toNat)) : Nat) : Int)))), (0, .ref ha), (1, .int (zI (((set : Nat) : Int))))]) hx hb dX7_repairs_21 rfl hl (by decide) rfl (fun ls hl => ?_)
        obtain ⟨g, hg1, hg2, hg3⟩ := sTake_cnt hkt hkc c7 hok
        refine lv_goto (tgt := 2) hx hb dX7_repairs_22 (by decide) ?_
        exact ih_2 (zclr k (2 ^ (max 0 (sLst S k (zn S))).toNat)) g _ (by omega) (zclr_16 hk) hg1 hg2 (by first | rfl | omega) _ _ _ w (lv_sub hl [0, 1, 2] rfl)
  exact lp_2 ((sCnt set 16) + 1) set 16 _ (by omega) hs rfl (sCnt_le _ _) (by first | rfl | omega) _ _ _ w (lv_sub hl [0, 1, 2] rfl)
set_option maxHeartbeats 6000000 in
set_option maxRecDepth 100000 in
theorem c_X7_price (l : Launch) (D : zD) (ha : Nat) (S : Nat → Int) (hok : OkP S) (i : Nat) (hi : i < 16) : zM l yX7_price wsX7_price (zR (1)) zE0 D [.ref ha, .int (zI (((i : Nat) : Int)))] (wMo D ha S) (zQl D (fun r W1 => r = zL (sPr S (mu S) i) ∧ W1 = (wMo D ha S))) := by
  refine zM.of (cc := cX7_price) (maxL := 5) (ret := (some .long)) (by decide) rfl (Nat.le_of_ble_eq_true rfl) ?_
  intro p e s m below meth c A hx hb hml hown hts hr hlocks hE hnm w ls hl
  have hown : s.vm.findClass RX7 = some m.cls := hown
  have hl : lv_has ls 5 [(0, .ref ha), (1, .int (zI (((i : Nat) : Int))))] := hl
  have hn := zn_eq hok
  have h16 := zn_le hok
  have hlim := hok.2.2
  have hck := hok.2.1 i hi
  have w : zW D A s.heap s [(ha, .inl (D.2 1, 86, .inr (.inl (fNow S))))] s.heap [] := w
  refine lv_ldc2 (v := zL 100) hx hb hown (hts (.constantLong RX7 35 (zL 100)) (by decide +kernel)) dX7_price_0 ?_
  refine lv_aload_n hx hb dX7_price_3 rfl (lv_at hl 0 rfl) ?_
  refine lv_iload_n hx hb dX7_price_4 rfl (lv_at hl 1 rfl) ?_
  refine lv_iconst (v := zI 0) hx hb dX7_price_5 rfl ?_
  refine z_S_i (As := [.ref ha, .int (zI (((i : Nat) : Int))), .int (zI (0))]) (rest := [.long (zL (100))]) (Wr := []) ⟨hx, hb, hml, hown, hts⟩ (c_X7_of l D ha S i 0 (by omega) (by omega)) (va_cwS 3 hts gX7_price_X7_of rfl rfl rfl (by decide +kernel) ⟨Nat.le_of_ble_eq_true rfl, Nat.le_of_ble_eq_true rfl⟩) w [0] rfl (by decide) [] rfl (by decide) (by decide) rfl hl.1 rfl (lv_room (Nat.le_of_ble_eq_true rfl)) dX7_price_6 ⟨Nat.zero_le _, Nat.zero_le _⟩ (fun r W1 H locs hp w => ?_)
  obtain ⟨rfl, rfl⟩ := hp
  have w : zW D A s.heap s [(ha, .inl (D.2 1, 86, .inr (.inl (fNow S))))] H locs := w.sub [0] (by decide) rfl
  refine z_i2l hx hb (by omega) dX7_price_9 ?_
  refine z_lmul hx hb dX7_price_10 ?_
  refine lv_lstore_n (lv' := [(2, .long (zL (100 * (sC S 0 i)))), (0, .ref ha), (1, .int (zI (((i : Nat) : Int))))]) hx hb dX7_price_11 rfl hl (by decide) rfl (fun ls hl => ?_)
  refine lv_iconst (v := zI 0) hx hb dX7_price_12 rfl ?_
  refine lv_istore (lv' := [(4, .int (zI (0))), (2, .long (zL (100 * (sC S 0 i)))), (0, .ref ha), (1, .int (zI (((i : Nat) : Int))))]) hx hb dX7_price_13 hl (by decide) rfl (fun ls hl => ?_)
  refine lv_iload hx hb dX7_price_15 (lv_at hl 0 rfl) ?_
  refine lv_iconst (v := zI 3) hx hb dX7_price_17 rfl ?_
  refine z_icmp_ge (tgt := 48) hx hb (by omega) (by omega) dX7_price_18 (by decide) (fun c18 => ?_) (fun c18 => ?_)
  · skip
    exact absurd c18 (by omega)
  · skip
    refine lv_lload_n hx hb dX7_price_21 rfl (lv_at hl 1 rfl) ?_
    refine lv_aload_n hx hb dX7_price_22 rfl (lv_at hl 2 rfl) ?_
    refine lv_bipush (v := zI 68) hx hb dX7_price_23 (by decide +kernel) ?_
    refine lv_iload hx hb dX7_price_25 (lv_at hl 0 rfl) ?_
    refine z_iadd hx hb dX7_price_27 ?_
    refine z_lald hx hb w 0 rfl 68 (by omega) (by decide) rfl (v := (zL (S 68))) (if_pos (by omega)) dX7_price_28 ?_
    refine lv_aload_n hx hb dX7_price_29 rfl (lv_at hl 2 rfl) ?_
    refine lv_iload_n hx hb dX7_price_30 rfl (lv_at hl 3 rfl) ?_
    refine lv_iconst (v := zI 1) hx hb dX7_price_31 rfl ?_
    refine lv_iload hx hb dX7_price_32 (lv_at hl 0 rfl) ?_
    refine z_iadd hx hb dX7_price_34 ?_
    refine z_S_i (As := [.ref ha, .int (zI (((i : Nat) : Int))), .int (zI (1 + 0))]) (rest := [.long (zL (S 68)), .long (zL (100 * (sC S 0 i)))]) (Wr := []) ⟨hx, hb, hml, hown, hts⟩ (c_X7_of l D ha S i 1 (by omega) (by omega)) (va_cwS 3 hts gX7_price_X7_of rfl rfl rfl (by decide +kernel) ⟨Nat.le_of_ble_eq_true rfl, Nat.le_of_ble_eq_true rfl⟩) w [0] rfl (by decide) [] rfl (by decide) (by decide) rfl hl.1 rfl (lv_room (Nat.le_of_ble_eq_true rfl)) dX7_price_35 ⟨Nat.zero_le _, Nat.zero_le _⟩ (fun r W1 H locs hp w => ?_)
    obtain ⟨rfl, rfl⟩ := hp
    have w : zW D A s.heap s [(ha, .inl (D.2 1, 86, .inr (.inl (fNow S))))] H locs := w.sub [0] (by decide) rfl
    refine z_i2l hx hb (by omega) dX7_price_38 ?_
    refine z_lmul hx hb dX7_price_39 ?_
    refine z_lsub hx hb dX7_price_40 ?_
    refine lv_lstore_n (lv' := [(2, .long (zL ((100 * (sC S 0 i)) - ((S 68) * (sC S 1 i))))), (4, .int (zI (0))), (0, .ref ha), (1, .int (zI (((i : Nat) : Int))))]) hx hb dX7_price_41 rfl hl (by decide) rfl (fun ls hl => ?_)
    refine z_iinc (lv' := [(4, .int (zI (0 + 1))), (2, .long (zL ((100 * (sC S 0 i)) - ((S 68) * (sC S 1 i))))), (0, .ref ha), (1, .int (zI (((i : Nat) : Int))))]) hx hb dX7_price_42 hl (k := 1) rfl (by decide) rfl (fun ls hl => ?_)
    have hl : lv_has ls 5 [(4, .int (zI (1))), (2, .long (zL ((100 * (sC S 0 i)) - ((S 68) * (sC S 1 i))))), (0, .ref ha), (1, .int (zI (((i : Nat) : Int))))] := hl
    refine lv_goto (tgt := 15) hx hb dX7_price_45 (by decide) ?_
    refine lv_iload hx hb dX7_price_15 (lv_at hl 0 rfl) ?_
    refine lv_iconst (v := zI 3) hx hb dX7_price_17 rfl ?_
    refine z_icmp_ge (tgt := 48) hx hb (by omega) (by omega) dX7_price_18 (by decide) (fun c18 => ?_) (fun c18 => ?_)
    · skip
      exact absurd c18 (by omega)
    · skip
      refine lv_lload_n hx hb dX7_price_21 rfl (lv_at hl 1 rfl) ?_
      refine lv_aload_n hx hb dX7_price_22 rfl (lv_at hl 2 rfl) ?_
      refine lv_bipush (v := zI 68) hx hb dX7_price_23 (by decide +kernel) ?_
      refine lv_iload hx hb dX7_price_25 (lv_at hl 0 rfl) ?_
      refine z_iadd hx hb dX7_price_27 ?_
      refine z_lald hx hb w 0 rfl 69 (by omega) (by decide) rfl (v := (zL (S 69))) (if_pos (by omega)) dX7_price_28 ?_
      refine lv_aload_n hx hb dX7_price_29 rfl (lv_at hl 2 rfl) ?_
      refine lv_iload_n hx hb dX7_price_30 rfl (lv_at hl 3 rfl) ?_
      refine lv_iconst (v := zI 1) hx hb dX7_price_31 rfl ?_
      refine lv_iload hx hb dX7_price_32 (lv_at hl 0 rfl) ?_
      refine z_iadd hx hb dX7_price_34 ?_
      refine z_S_i (As := [.ref ha, .int (zI (((i : Nat) : Int))), .int (zI (1 + 1))]) (rest := [.long (zL (S 69)), .long (zL ((100 * (sC S 0 i)) - ((S 68) * (sC S 1 i))))]) (Wr := []) ⟨hx, hb, hml, hown, hts⟩ (c_X7_of l D ha S i 2 (by omega) (by omega)) (va_cwS 3 hts gX7_price_X7_of rfl rfl rfl (by decide +kernel) ⟨Nat.le_of_ble_eq_true rfl, Nat.le_of_ble_eq_true rfl⟩) w [0] rfl (by decide) [] rfl (by decide) (by decide) rfl hl.1 rfl (lv_room (Nat.le_of_ble_eq_true rfl)) dX7_price_35 ⟨Nat.zero_le _, Nat.zero_le _⟩ (fun r W1 H locs hp w => ?_)
      obtain ⟨rfl, rfl⟩ := hp
      have w : zW D A s.heap s [(ha, .inl (D.2 1, 86, .inr (.inl (fNow S))))] H locs := w.sub [0] (by decide) rfl
      refine z_i2l hx hb (by omega) dX7_price_38 ?_
      refine z_lmul hx hb dX7_price_39 ?_
      refine z_lsub hx hb dX7_price_40 ?_
      refine lv_lstore_n (lv' := [(2, .long (zL (((100 * (sC S 0 i)) - ((S 68) * (sC S 1 i))) - ((S 69) * (sC S 2 i))))), (4, .int (zI (1))), (0, .ref ha), (1, .int (zI (((i : Nat) : Int))))]) hx hb dX7_price_41 rfl hl (by decide) rfl (fun ls hl => ?_)
      refine z_iinc (lv' := [(4, .int (zI (1 + 1))), (2, .long (zL (((100 * (sC S 0 i)) - ((S 68) * (sC S 1 i))) - ((S 69) * (sC S 2 i))))), (0, .ref ha), (1, .int (zI (((i : Nat) : Int))))]) hx hb dX7_price_42 hl (k := 1) rfl (by decide) rfl (fun ls hl => ?_)
      have hl : lv_has ls 5 [(4, .int (zI (2))), (2, .long (zL (((100 * (sC S 0 i)) - ((S 68) * (sC S 1 i))) - ((S 69) * (sC S 2 i))))), (0, .ref ha), (1, .int (zI (((i : Nat) : Int))))] := hl
      refine lv_goto (tgt := 15) hx hb dX7_price_45 (by decide) ?_
      refine lv_iload hx hb dX7_price_15 (lv_at hl 0 rfl) ?_
      refine lv_iconst (v := zI 3) hx hb dX7_price_17 rfl ?_
      refine z_icmp_ge (tgt := 48) hx hb (by omega) (by omega) dX7_price_18 (by decide) (fun c18 => ?_) (fun c18 => ?_)
      · skip
        exact absurd c18 (by omega)
      · skip
        refine lv_lload_n hx hb dX7_price_21 rfl (lv_at hl 1 rfl) ?_
        refine lv_aload_n hx hb dX7_price_22 rfl (lv_at hl 2 rfl) ?_
        refine lv_bipush (v := zI 68) hx hb dX7_price_23 (by decide +kernel) ?_
        refine lv_iload hx hb dX7_price_25 (lv_at hl 0 rfl) ?_
        refine z_iadd hx hb dX7_price_27 ?_
        refine z_lald hx hb w 0 rfl 70 (by omega) (by decide) rfl (v := (zL (S 70))) (if_pos (by omega)) dX7_price_28 ?_
        refine lv_aload_n hx hb dX7_price_29 rfl (lv_at hl 2 rfl) ?_
        refine lv_iload_n hx hb dX7_price_30 rfl (lv_at hl 3 rfl) ?_
        refine lv_iconst (v := zI 1) hx hb dX7_price_31 rfl ?_
        refine lv_iload hx hb dX7_price_32 (lv_at hl 0 rfl) ?_
        refine z_iadd hx hb dX7_price_34 ?_
        refine z_S_i (As := [.ref ha, .int (zI (((i : Nat) : Int))), .int (zI (1 + 2))]) (rest := [.long (zL (S 70)), .long (zL (((100 * (sC S 0 i)) - ((S 68) * (sC S 1 i))) - ((S 69) * (sC S 2 i))))]) (Wr := []) ⟨hx, hb, hml, hown, hts⟩ (c_X7_of l D ha S i 3 (by omega) (by omega)) (va_cwS 3 hts gX7_price_X7_of rfl rfl rfl (by decide +kernel) ⟨Nat.le_of_ble_eq_true rfl, Nat.le_of_ble_eq_true rfl⟩) w [0] rfl (by decide) [] rfl (by decide) (by decide) rfl hl.1 rfl (lv_room (Nat.le_of_ble_eq_true rfl)) dX7_price_35 ⟨Nat.zero_le _, Nat.zero_le _⟩ (fun r W1 H locs hp w => ?_)
        obtain ⟨rfl, rfl⟩ := hp
        have w : zW D A s.heap s [(ha, .inl (D.2 1, 86, .inr (.inl (fNow S))))] H locs := w.sub [0] (by decide) rfl
        refine z_i2l hx hb (by omega) dX7_price_38 ?_
        refine z_lmul hx hb dX7_price_39 ?_
        refine z_lsub hx hb dX7_price_40 ?_
        refine lv_lstore_n (lv' := [(2, .long (zL ((((100 * (sC S 0 i)) - ((S 68) * (sC S 1 i))) - ((S 69) * (sC S 2 i))) - ((S 70) * (sC S 3 i))))), (4, .int (zI (2))), (0, .ref ha), (1, .int (zI (((i : Nat) : Int))))]) hx hb dX7_price_41 rfl hl (by decide) rfl (fun ls hl => ?_)
        refine z_iinc (lv' := [(4, .int (zI (2 + 1))), (2, .long (zL ((((100 * (sC S 0 i)) - ((S 68) * (sC S 1 i))) - ((S 69) * (sC S 2 i))) - ((S 70) * (sC S 3 i))))), (0, .ref ha), (1, .int (zI (((i : Nat) : Int))))]) hx hb dX7_price_42 hl (k := 1) rfl (by decide) rfl (fun ls hl => ?_)
        have hl : lv_has ls 5 [(4, .int (zI (3))), (2, .long (zL ((((100 * (sC S 0 i)) - ((S 68) * (sC S 1 i))) - ((S 69) * (sC S 2 i))) - ((S 70) * (sC S 3 i))))), (0, .ref ha), (1, .int (zI (((i : Nat) : Int))))] := hl
        refine lv_goto (tgt := 15) hx hb dX7_price_45 (by decide) ?_
        refine lv_iload hx hb dX7_price_15 (lv_at hl 0 rfl) ?_
        refine lv_iconst (v := zI 3) hx hb dX7_price_17 rfl ?_
        refine z_icmp_ge (tgt := 48) hx hb (by omega) (by omega) dX7_price_18 (by decide) (fun c18 => ?_) (fun c18 => ?_)
        · skip
          refine lv_lload_n hx hb dX7_price_48 rfl (lv_at hl 1 rfl) ?_
          exact z_lret hx hb hr hlocks w dX7_price_49 ⟨rfl, rfl⟩
        · skip
          exact absurd c18 (by omega)
set_option maxHeartbeats 6000000 in
set_option maxRecDepth 100000 in
theorem c_X7_relaxed (l : Launch) (D : zD) (ha : Nat) (S : Nat → Int) (hok : OkP S) (hokm : OkM (mu S)) : zM l yX7_relaxed wsX7_relaxed (zR (2)) zE0 D [.ref ha] (wMo D ha S) (zQi D (fun r W1 => r = zI (((sRel S (mu S) : Nat) : Int)) ∧ W1 = (wMo D ha S))) := by
  refine zM.of (cc := cX7_relaxed) (maxL := 3) (ret := (some .int)) (by decide) rfl (Nat.le_of_ble_eq_true rfl) ?_
  intro p e s m below meth c A hx hb hml hown hts hr hlocks hE hnm w ls hl
  have hown : s.vm.findClass RX7 = some m.cls := hown
  have hl : lv_has ls 3 [(0, .ref ha)] := hl
  have hn := zn_eq hok
  have h16 := zn_le hok
  have hlim := hok.2.2
  have hokp := hok
  have w : zW D A s.heap s [(ha, .inl (D.2 1, 86, .inr (.inl (fNow S))))] s.heap [] := w
  refine lv_iconst (v := zI 0) hx hb dX7_relaxed_0 rfl ?_
  refine lv_istore_n (lv' := [(1, .int (zI (0))), (0, .ref ha)]) hx hb dX7_relaxed_1 rfl hl (by decide) rfl (fun ls hl => ?_)
  refine lv_iconst (v := zI 0) hx hb dX7_relaxed_2 rfl ?_
  refine lv_istore_n (lv' := [(2, .int (zI (0))), (1, .int (zI (0))), (0, .ref ha)]) hx hb dX7_relaxed_3 rfl hl (by decide) rfl (fun ls hl => ?_)
  have lp_4 : ∀ (n_4 : Nat) (i : Nat) (x2 : Int) (x1 : Int) , zn S - i < n_4 → (i ≤ zn S) → x2 = ((i : Nat) : Int) → x1 = ((sRelN S (mu S) i : Nat) : Int) → ∀ (H : Heap) (locs : List Loc) (ls : Array Slot), zW D A s.heap s [(ha, .inl (D.2 1, 86, .inr (.inl (fNow S))))] H locs → lv_has ls 3 [(2, .int (zI (x2))), (1, .int (zI (x1))), (0, .ref ha)] → W p l e (zR (2)) s m [.ref ha].toArray below meth c H locs 0 0 (MQ below ((zQi D (fun r W1 => r = zI (((sRel S (mu S) : Nat) : Int)) ∧ W1 = (wMo D ha S))) A) [.ref ha].toArray s 0 0 A) (F0 m 4 ls []) := by
    intro n_4
    induction n_4 with
    | zero => intro i x2 x1 h_; exact absurd h_ (Nat.not_lt_zero _)
    | succ n_4 ih_4 =>
      intro i x2 x1 hf_4 hi ex2 ex1 H locs ls w hl
      subst ex2
      subst ex1
      have hl : lv_has ls 3 [(2, .int (zI (((i : Nat) : Int)))), (1, .int (zI (((sRelN S (mu S) i : Nat) : Int)))), (0, .ref ha)] := hl
      refine lv_iload_n hx hb dX7_relaxed_4 rfl (lv_at hl 0 rfl) ?_
      refine z_i2l hx hb (by omega) dX7_relaxed_5 ?_
      refine lv_aload_n hx hb dX7_relaxed_6 rfl (lv_at hl 2 rfl) ?_
      refine lv_iconst (v := zI 0) hx hb dX7_relaxed_7 rfl ?_
      refine z_lald hx hb w 0 rfl 0 (by omega) (by decide) rfl (v := (zL (S 0))) (if_pos (by omega)) dX7_relaxed_8 ?_
      refine z_lcmp_ge (tgt := 39) hx hb (by omega) (by omega) dX7_relaxed_9 dX7_relaxed_10 (by decide) (fun c9 => ?_) (fun c9 => ?_)
      · skip
        refine lv_iload_n hx hb dX7_relaxed_39 rfl (lv_at hl 1 rfl) ?_
        exact z_iret hx hb hr hlocks w dX7_relaxed_40 ⟨by have e9 : i = zn S := (by omega); subst e9; rfl, rfl⟩
      · skip
        refine lv_iload_n hx hb dX7_relaxed_13 rfl (lv_at hl 1 rfl) ?_
        refine lv_aload_n hx hb dX7_relaxed_14 rfl (lv_at hl 2 rfl) ?_
        refine lv_iload_n hx hb dX7_relaxed_15 rfl (lv_at hl 0 rfl) ?_
        refine z_S_l (As := [.ref ha, .int (zI (((i : Nat) : Int)))]) (rest := [.int (zI (((sRelN S (mu S) i : Nat) : Int)))]) (Wr := []) ⟨hx, hb, hml, hown, hts⟩ (c_X7_price l D ha S hokp i (by omega)) (va_cwS 2 hts gX7_relaxed_X7_price rfl rfl rfl (by decide +kernel) ⟨Nat.le_of_ble_eq_true rfl, Nat.le_of_ble_eq_true rfl⟩) w [0] rfl (by decide) [] rfl (by decide) (by decide) rfl hl.1 rfl (lv_room (Nat.le_of_ble_eq_true rfl)) dX7_relaxed_16 ⟨Nat.zero_le _, Nat.zero_le _⟩ (fun r W1 H locs hp w => ?_)
        obtain ⟨rfl, rfl⟩ := hp
        have w : zW D A s.heap s [(ha, .inl (D.2 1, 86, .inr (.inl (fNow S))))] H locs := w.sub [0] (by decide) rfl
        refine lv_lconst (v := zL 0) hx hb dX7_relaxed_19 rfl ?_
        have hpb := sPr_b hok hokm (i := i) (by omega)
        refine z_lcmp_le (tgt := 30) hx hb (by omega) (by omega) dX7_relaxed_20 dX7_relaxed_21 (by decide) (fun c20 => ?_) (fun c20 => ?_)
        · skip
          refine lv_iconst (v := zI 0) hx hb dX7_relaxed_30 rfl ?_
          refine z_ior (a := sRelN S (mu S) i) (b := 0) hx hb dX7_relaxed_31 ?_
          refine lv_istore_n (lv' := [(1, .int (zI ((((sRelN S (mu S) i) ||| 0 : Nat) : Int)))), (2, .int (zI (((i : Nat) : Int)))), (0, .ref ha)]) hx hb dX7_relaxed_32 rfl hl (by decide) rfl (fun ls hl => ?_)
          refine z_iinc (lv' := [(2, .int (zI (((i : Nat) : Int) + 1))), (1, .int (zI ((((sRelN S (mu S) i) ||| 0 : Nat) : Int)))), (0, .ref ha)]) hx hb dX7_relaxed_33 hl (k := 1) rfl (by decide) rfl (fun ls hl => ?_)
          refine lv_goto (tgt := 4) hx hb dX7_relaxed_36 (by decide) ?_
          exact ih_4 (i + 1) _ _ (by omega) (by omega) (by first | rfl | omega) (by simp only [sRelN]; first | rw [if_pos c20] | (rw [if_neg (by omega)]; simp)) _ _ _ w (lv_sub hl [0, 1, 2] rfl)
        · skip
          refine lv_iconst (v := zI 1) hx hb dX7_relaxed_24 rfl ?_
          refine lv_iload_n hx hb dX7_relaxed_25 rfl (lv_at hl 0 rfl) ?_
          refine z_ishl1 (b := i) hx hb (by omega) dX7_relaxed_26 ?_
          refine lv_goto (tgt := 31) hx hb dX7_relaxed_27 (by decide) ?_
          refine z_ior (a := sRelN S (mu S) i) (b := 2 ^ i) hx hb dX7_relaxed_31 ?_
          refine lv_istore_n (lv' := [(1, .int (zI ((((sRelN S (mu S) i) ||| (2 ^ i) : Nat) : Int)))), (2, .int (zI (((i : Nat) : Int)))), (0, .ref ha)]) hx hb dX7_relaxed_32 rfl hl (by decide) rfl (fun ls hl => ?_)
          refine z_iinc (lv' := [(2, .int (zI (((i : Nat) : Int) + 1))), (1, .int (zI ((((sRelN S (mu S) i) ||| (2 ^ i) : Nat) : Int)))), (0, .ref ha)]) hx hb dX7_relaxed_33 hl (k := 1) rfl (by decide) rfl (fun ls hl => ?_)
          refine lv_goto (tgt := 4) hx hb dX7_relaxed_36 (by decide) ?_
          exact ih_4 (i + 1) _ _ (by omega) (by omega) (by first | rfl | omega) (by simp only [sRelN]; first | rw [if_pos c20] | (rw [if_neg (by omega)]; simp)) _ _ _ w (lv_sub hl [0, 1, 2] rfl)
  exact lp_4 ((zn S - 0) + 1) 0 _ _ (by omega) (by omega) (by first | rfl | omega) (by first | rfl | omega) _ _ _ w (lv_sub hl [0, 1, 2] rfl)
set_option maxHeartbeats 6000000 in
set_option maxRecDepth 100000 in
theorem c_X7_boundOf (l : Launch) (D : zD) (ha : Nat) (S : Nat → Int) (hok : OkP S) (hokm : OkM (mu S)) : zM l yX7_boundOf wsX7_boundOf (zR (2)) zE0 D [.ref ha] (wMo D ha S) (zQl D (fun r W1 => r = zL (sBd S (mu S)) ∧ W1 = (wMo D ha S))) := by
  refine zM.of (cc := cX7_boundOf) (maxL := 4) (ret := (some .long)) (by decide) rfl (Nat.le_of_ble_eq_true rfl) ?_
  intro p e s m below meth c A hx hb hml hown hts hr hlocks hE hnm w ls hl
  have hown : s.vm.findClass RX7 = some m.cls := hown
  have hl : lv_has ls 4 [(0, .ref ha)] := hl
  have hn := zn_eq hok
  have h16 := zn_le hok
  have hlim := hok.2.2
  have hokp := hok
  have w : zW D A s.heap s [(ha, .inl (D.2 1, 86, .inr (.inl (fNow S))))] s.heap [] := w
  refine lv_lconst (v := zL 0) hx hb dX7_boundOf_0 rfl ?_
  refine lv_lstore_n (lv' := [(1, .long (zL (0))), (0, .ref ha)]) hx hb dX7_boundOf_1 rfl hl (by decide) rfl (fun ls hl => ?_)
  refine lv_iconst (v := zI 0) hx hb dX7_boundOf_2 rfl ?_
  refine lv_istore_n (lv' := [(3, .int (zI (0))), (1, .long (zL (0))), (0, .ref ha)]) hx hb dX7_boundOf_3 rfl hl (by decide) rfl (fun ls hl => ?_)
  have lp_4 : ∀ (n_4 : Nat) (i : Nat) (x3 : Int) (x1 : Int) , zn S - i < n_4 → (i ≤ zn S) → x3 = ((i : Nat) : Int) → x1 = sSum i (fun i => max 0 (sPr S (mu S) i)) → ∀ (H : Heap) (locs : List Loc) (ls : Array Slot), zW D A s.heap s [(ha, .inl (D.2 1, 86, .inr (.inl (fNow S))))] H locs → lv_has ls 4 [(3, .int (zI (x3))), (1, .long (zL (x1))), (0, .ref ha)] → W p l e (zR (2)) s m [.ref ha].toArray below meth c H locs 0 0 (MQ below ((zQl D (fun r W1 => r = zL (sBd S (mu S)) ∧ W1 = (wMo D ha S))) A) [.ref ha].toArray s 0 0 A) (F0 m 4 ls []) := by
    intro n_4
    induction n_4 with
    | zero => intro i x3 x1 h_; exact absurd h_ (Nat.not_lt_zero _)
    | succ n_4 ih_4 =>
      intro i x3 x1 hf_4 hi ex3 ex1 H locs ls w hl
      subst ex3
      subst ex1
      have hl : lv_has ls 4 [(3, .int (zI (((i : Nat) : Int)))), (1, .long (zL (sSum i (fun i => max 0 (sPr S (mu S) i))))), (0, .ref ha)] := hl
      refine lv_iload_n hx hb dX7_boundOf_4 rfl (lv_at hl 0 rfl) ?_
      refine z_i2l hx hb (by omega) dX7_boundOf_5 ?_
      refine lv_aload_n hx hb dX7_boundOf_6 rfl (lv_at hl 2 rfl) ?_
      refine lv_iconst (v := zI 0) hx hb dX7_boundOf_7 rfl ?_
      refine z_lald hx hb w 0 rfl 0 (by omega) (by decide) rfl (v := (zL (S 0))) (if_pos (by omega)) dX7_boundOf_8 ?_
      refine z_lcmp_ge (tgt := 41) hx hb (by omega) (by omega) dX7_boundOf_9 dX7_boundOf_10 (by decide) (fun c9 => ?_) (fun c9 => ?_)
      · skip
        refine lv_iconst (v := zI 0) hx hb dX7_boundOf_41 rfl ?_
        refine lv_istore_n (lv' := [(3, .int (zI (0))), (1, .long (zL (sSum i (fun i => max 0 (sPr S (mu S) i))))), (0, .ref ha)]) hx hb dX7_boundOf_42 rfl hl (by decide) rfl (fun ls hl => ?_)
        refine lv_iload_n hx hb dX7_boundOf_43 rfl (lv_at hl 0 rfl) ?_
        refine lv_iconst (v := zI 3) hx hb dX7_boundOf_44 rfl ?_
        refine z_icmp_ge (tgt := 70) hx hb (by omega) (by omega) dX7_boundOf_45 (by decide) (fun c45 => ?_) (fun c45 => ?_)
        · skip
          exact absurd c45 (by omega)
        · skip
          refine lv_lload_n hx hb dX7_boundOf_48 rfl (lv_at hl 1 rfl) ?_
          refine lv_aload_n hx hb dX7_boundOf_49 rfl (lv_at hl 2 rfl) ?_
          refine lv_bipush (v := zI 68) hx hb dX7_boundOf_50 (by decide +kernel) ?_
          refine lv_iload_n hx hb dX7_boundOf_52 rfl (lv_at hl 0 rfl) ?_
          refine z_iadd hx hb dX7_boundOf_53 ?_
          refine z_lald hx hb w 0 rfl 68 (by omega) (by decide) rfl (v := (zL (S 68))) (if_pos (by omega)) dX7_boundOf_54 ?_
          refine lv_aload_n hx hb dX7_boundOf_55 rfl (lv_at hl 2 rfl) ?_
          refine lv_bipush (v := zI 65) hx hb dX7_boundOf_56 (by decide +kernel) ?_
          refine lv_iload_n hx hb dX7_boundOf_58 rfl (lv_at hl 0 rfl) ?_
          refine z_iadd hx hb dX7_boundOf_59 ?_
          refine z_lald hx hb w 0 rfl 65 (by omega) (by decide) rfl (v := (zL (S 65))) (if_pos (by omega)) dX7_boundOf_60 ?_
          refine z_lmul hx hb dX7_boundOf_61 ?_
          refine z_ladd hx hb dX7_boundOf_62 ?_
          refine lv_lstore_n (lv' := [(1, .long (zL ((sSum i (fun i => max 0 (sPr S (mu S) i))) + ((S 68) * (S 65))))), (3, .int (zI (0))), (0, .ref ha)]) hx hb dX7_boundOf_63 rfl hl (by decide) rfl (fun ls hl => ?_)
          refine z_iinc (lv' := [(3, .int (zI (0 + 1))), (1, .long (zL ((sSum i (fun i => max 0 (sPr S (mu S) i))) + ((S 68) * (S 65))))), (0, .ref ha)]) hx hb dX7_boundOf_64 hl (k := 1) rfl (by decide) rfl (fun ls hl => ?_)
          have hl : lv_has ls 4 [(3, .int (zI (1))), (1, .long (zL ((sSum i (fun i => max 0 (sPr S (mu S) i))) + ((S 68) * (S 65))))), (0, .ref ha)] := hl
          refine lv_goto (tgt := 43) hx hb dX7_boundOf_67 (by decide) ?_
          refine lv_iload_n hx hb dX7_boundOf_43 rfl (lv_at hl 0 rfl) ?_
          refine lv_iconst (v := zI 3) hx hb dX7_boundOf_44 rfl ?_
          refine z_icmp_ge (tgt := 70) hx hb (by omega) (by omega) dX7_boundOf_45 (by decide) (fun c45 => ?_) (fun c45 => ?_)
          · skip
            exact absurd c45 (by omega)
          · skip
            refine lv_lload_n hx hb dX7_boundOf_48 rfl (lv_at hl 1 rfl) ?_
            refine lv_aload_n hx hb dX7_boundOf_49 rfl (lv_at hl 2 rfl) ?_
            refine lv_bipush (v := zI 68) hx hb dX7_boundOf_50 (by decide +kernel) ?_
            refine lv_iload_n hx hb dX7_boundOf_52 rfl (lv_at hl 0 rfl) ?_
            refine z_iadd hx hb dX7_boundOf_53 ?_
            refine z_lald hx hb w 0 rfl 69 (by omega) (by decide) rfl (v := (zL (S 69))) (if_pos (by omega)) dX7_boundOf_54 ?_
            refine lv_aload_n hx hb dX7_boundOf_55 rfl (lv_at hl 2 rfl) ?_
            refine lv_bipush (v := zI 65) hx hb dX7_boundOf_56 (by decide +kernel) ?_
            refine lv_iload_n hx hb dX7_boundOf_58 rfl (lv_at hl 0 rfl) ?_
            refine z_iadd hx hb dX7_boundOf_59 ?_
            refine z_lald hx hb w 0 rfl 66 (by omega) (by decide) rfl (v := (zL (S 66))) (if_pos (by omega)) dX7_boundOf_60 ?_
            refine z_lmul hx hb dX7_boundOf_61 ?_
            refine z_ladd hx hb dX7_boundOf_62 ?_
            refine lv_lstore_n (lv' := [(1, .long (zL (((sSum i (fun i => max 0 (sPr S (mu S) i))) + ((S 68) * (S 65))) + ((S 69) * (S 66))))), (3, .int (zI (1))), (0, .ref ha)]) hx hb dX7_boundOf_63 rfl hl (by decide) rfl (fun ls hl => ?_)
            refine z_iinc (lv' := [(3, .int (zI (1 + 1))), (1, .long (zL (((sSum i (fun i => max 0 (sPr S (mu S) i))) + ((S 68) * (S 65))) + ((S 69) * (S 66))))), (0, .ref ha)]) hx hb dX7_boundOf_64 hl (k := 1) rfl (by decide) rfl (fun ls hl => ?_)
            have hl : lv_has ls 4 [(3, .int (zI (2))), (1, .long (zL (((sSum i (fun i => max 0 (sPr S (mu S) i))) + ((S 68) * (S 65))) + ((S 69) * (S 66))))), (0, .ref ha)] := hl
            refine lv_goto (tgt := 43) hx hb dX7_boundOf_67 (by decide) ?_
            refine lv_iload_n hx hb dX7_boundOf_43 rfl (lv_at hl 0 rfl) ?_
            refine lv_iconst (v := zI 3) hx hb dX7_boundOf_44 rfl ?_
            refine z_icmp_ge (tgt := 70) hx hb (by omega) (by omega) dX7_boundOf_45 (by decide) (fun c45 => ?_) (fun c45 => ?_)
            · skip
              exact absurd c45 (by omega)
            · skip
              refine lv_lload_n hx hb dX7_boundOf_48 rfl (lv_at hl 1 rfl) ?_
              refine lv_aload_n hx hb dX7_boundOf_49 rfl (lv_at hl 2 rfl) ?_
              refine lv_bipush (v := zI 68) hx hb dX7_boundOf_50 (by decide +kernel) ?_
              refine lv_iload_n hx hb dX7_boundOf_52 rfl (lv_at hl 0 rfl) ?_
              refine z_iadd hx hb dX7_boundOf_53 ?_
              refine z_lald hx hb w 0 rfl 70 (by omega) (by decide) rfl (v := (zL (S 70))) (if_pos (by omega)) dX7_boundOf_54 ?_
              refine lv_aload_n hx hb dX7_boundOf_55 rfl (lv_at hl 2 rfl) ?_
              refine lv_bipush (v := zI 65) hx hb dX7_boundOf_56 (by decide +kernel) ?_
              refine lv_iload_n hx hb dX7_boundOf_58 rfl (lv_at hl 0 rfl) ?_
              refine z_iadd hx hb dX7_boundOf_59 ?_
              refine z_lald hx hb w 0 rfl 67 (by omega) (by decide) rfl (v := (zL (S 67))) (if_pos (by omega)) dX7_boundOf_60 ?_
              refine z_lmul hx hb dX7_boundOf_61 ?_
              refine z_ladd hx hb dX7_boundOf_62 ?_
              refine lv_lstore_n (lv' := [(1, .long (zL ((((sSum i (fun i => max 0 (sPr S (mu S) i))) + ((S 68) * (S 65))) + ((S 69) * (S 66))) + ((S 70) * (S 67))))), (3, .int (zI (2))), (0, .ref ha)]) hx hb dX7_boundOf_63 rfl hl (by decide) rfl (fun ls hl => ?_)
              refine z_iinc (lv' := [(3, .int (zI (2 + 1))), (1, .long (zL ((((sSum i (fun i => max 0 (sPr S (mu S) i))) + ((S 68) * (S 65))) + ((S 69) * (S 66))) + ((S 70) * (S 67))))), (0, .ref ha)]) hx hb dX7_boundOf_64 hl (k := 1) rfl (by decide) rfl (fun ls hl => ?_)
              have hl : lv_has ls 4 [(3, .int (zI (3))), (1, .long (zL ((((sSum i (fun i => max 0 (sPr S (mu S) i))) + ((S 68) * (S 65))) + ((S 69) * (S 66))) + ((S 70) * (S 67))))), (0, .ref ha)] := hl
              refine lv_goto (tgt := 43) hx hb dX7_boundOf_67 (by decide) ?_
              refine lv_iload_n hx hb dX7_boundOf_43 rfl (lv_at hl 0 rfl) ?_
              refine lv_iconst (v := zI 3) hx hb dX7_boundOf_44 rfl ?_
              refine z_icmp_ge (tgt := 70) hx hb (by omega) (by omega) dX7_boundOf_45 (by decide) (fun c45 => ?_) (fun c45 => ?_)
              · skip
                refine lv_lload_n hx hb dX7_boundOf_70 rfl (lv_at hl 1 rfl) ?_
                exact z_lret hx hb hr hlocks w dX7_boundOf_71 ⟨by have e9 : i = zn S := (by omega); subst e9; rfl, rfl⟩
              · skip
                exact absurd c45 (by omega)
      · skip
        refine lv_lload_n hx hb dX7_boundOf_13 rfl (lv_at hl 1 rfl) ?_
        refine lv_aload_n hx hb dX7_boundOf_14 rfl (lv_at hl 2 rfl) ?_
        refine lv_iload_n hx hb dX7_boundOf_15 rfl (lv_at hl 0 rfl) ?_
        refine z_S_l (As := [.ref ha, .int (zI (((i : Nat) : Int)))]) (rest := [.long (zL (sSum i (fun i => max 0 (sPr S (mu S) i))))]) (Wr := []) ⟨hx, hb, hml, hown, hts⟩ (c_X7_price l D ha S hokp i (by omega)) (va_cwS 2 hts gX7_boundOf_X7_price rfl rfl rfl (by decide +kernel) ⟨Nat.le_of_ble_eq_true rfl, Nat.le_of_ble_eq_true rfl⟩) w [0] rfl (by decide) [] rfl (by decide) (by decide) rfl hl.1 rfl (lv_room (Nat.le_of_ble_eq_true rfl)) dX7_boundOf_16 ⟨Nat.zero_le _, Nat.zero_le _⟩ (fun r W1 H locs hp w => ?_)
        obtain ⟨rfl, rfl⟩ := hp
        have w : zW D A s.heap s [(ha, .inl (D.2 1, 86, .inr (.inl (fNow S))))] H locs := w.sub [0] (by decide) rfl
        refine lv_lconst (v := zL 0) hx hb dX7_boundOf_19 rfl ?_
        have hpb := sPr_b hok hokm (i := i) (by omega)
        refine z_lcmp_le (tgt := 32) hx hb (by omega) (by omega) dX7_boundOf_20 dX7_boundOf_21 (by decide) (fun c20 => ?_) (fun c20 => ?_)
        · skip
          refine lv_lconst (v := zL 0) hx hb dX7_boundOf_32 rfl ?_
          refine z_ladd hx hb dX7_boundOf_33 ?_
          refine lv_lstore_n (lv' := [(1, .long (zL ((sSum i (fun i => max 0 (sPr S (mu S) i))) + 0))), (3, .int (zI (((i : Nat) : Int)))), (0, .ref ha)]) hx hb dX7_boundOf_34 rfl hl (by decide) rfl (fun ls hl => ?_)
          refine z_iinc (lv' := [(3, .int (zI (((i : Nat) : Int) + 1))), (1, .long (zL ((sSum i (fun i => max 0 (sPr S (mu S) i))) + 0))), (0, .ref ha)]) hx hb dX7_boundOf_35 hl (k := 1) rfl (by decide) rfl (fun ls hl => ?_)
          refine lv_goto (tgt := 4) hx hb dX7_boundOf_38 (by decide) ?_
          exact ih_4 (i + 1) _ _ (by omega) (by omega) (by first | rfl | omega) (by simp only [sSum]; omega) _ _ _ w (lv_sub hl [0, 1, 2] rfl)
        · skip
          refine lv_aload_n hx hb dX7_boundOf_24 rfl (lv_at hl 2 rfl) ?_
          refine lv_iload_n hx hb dX7_boundOf_25 rfl (lv_at hl 0 rfl) ?_
          refine z_S_l (As := [.ref ha, .int (zI (((i : Nat) : Int)))]) (rest := [.long (zL (sSum i (fun i => max 0 (sPr S (mu S) i))))]) (Wr := []) ⟨hx, hb, hml, hown, hts⟩ (c_X7_price l D ha S hokp i (by omega)) (va_cwS 2 hts gX7_boundOf_X7_price rfl rfl rfl (by decide +kernel) ⟨Nat.le_of_ble_eq_true rfl, Nat.le_of_ble_eq_true rfl⟩) w [0] rfl (by decide) [] rfl (by decide) (by decide) rfl hl.1 rfl (lv_room (Nat.le_of_ble_eq_true rfl)) dX7_boundOf_26 ⟨Nat.zero_le _, Nat.zero_le _⟩ (fun r W1 H locs hp w => ?_)
          obtain ⟨rfl, rfl⟩ := hp
          have w : zW D A s.heap s [(ha, .inl (D.2 1, 86, .inr (.inl (fNow S))))] H locs := w.sub [0] (by decide) rfl
          refine lv_goto (tgt := 33) hx hb dX7_boundOf_29 (by decide) ?_
          refine z_ladd hx hb dX7_boundOf_33 ?_
          refine lv_lstore_n (lv' := [(1, .long (zL ((sSum i (fun i => max 0 (sPr S (mu S) i))) + (sPr S (mu S) i)))), (3, .int (zI (((i : Nat) : Int)))), (0, .ref ha)]) hx hb dX7_boundOf_34 rfl hl (by decide) rfl (fun ls hl => ?_)
          refine z_iinc (lv' := [(3, .int (zI (((i : Nat) : Int) + 1))), (1, .long (zL ((sSum i (fun i => max 0 (sPr S (mu S) i))) + (sPr S (mu S) i)))), (0, .ref ha)]) hx hb dX7_boundOf_35 hl (k := 1) rfl (by decide) rfl (fun ls hl => ?_)
          refine lv_goto (tgt := 4) hx hb dX7_boundOf_38 (by decide) ?_
          exact ih_4 (i + 1) _ _ (by omega) (by omega) (by first | rfl | omega) (by simp only [sSum]; omega) _ _ _ w (lv_sub hl [0, 1, 2] rfl)
  exact lp_4 ((zn S - 0) + 1) 0 _ _ (by omega) (by omega) (by first | rfl | omega) (by first | rfl | omega) _ _ _ w (lv_sub hl [0, 1, 2] rfl)
set_option maxHeartbeats 6000000 in
set_option maxRecDepth 100000 in
theorem c_X7_slope (l : Launch) (D : zD) (ha : Nat) (S : Nat → Int) (hok : OkP S) (hokm : OkM (mu S)) (d : Nat) (hd : d < 3) : zM l yX7_slope wsX7_slope (zR (3)) zE0 D [.ref ha, .int (zI (((d : Nat) : Int)))] (wMo D ha S) (zQi D (fun r W1 => r = zI (sSlo S (mu S) d) ∧ W1 = (wMo D ha S))) := by
  refine zM.of (cc := cX7_slope) (maxL := 2) (ret := (some .int)) (by decide) rfl (Nat.le_of_ble_eq_true rfl) ?_
  intro p e s m below meth c A hx hb hml hown hts hr hlocks hE hnm w ls hl
  have hown : s.vm.findClass RX7 = some m.cls := hown
  have hl : lv_has ls 2 [(0, .ref ha), (1, .int (zI (((d : Nat) : Int))))] := hl
  have hn := zn_eq hok
  have h16 := zn_le hok
  have hlim := hok.2.2
  have hokp := hok
  have hrl := sRel_16 (M := mu S) hok
  have w : zW D A s.heap s [(ha, .inl (D.2 1, 86, .inr (.inl (fNow S))))] s.heap [] := w
  refine lv_aload_n hx hb dX7_slope_0 rfl (lv_at hl 0 rfl) ?_
  refine lv_aload_n hx hb dX7_slope_1 rfl (lv_at hl 0 rfl) ?_
  refine z_S_i (As := [.ref ha]) (rest := [.ref ha]) (Wr := []) ⟨hx, hb, hml, hown, hts⟩ (c_X7_relaxed l D ha S hokp hokm) (va_cwS 1 hts gX7_slope_X7_relaxed rfl rfl rfl (by decide +kernel) ⟨Nat.le_of_ble_eq_true rfl, Nat.le_of_ble_eq_true rfl⟩) w [0] rfl (by decide) [] rfl (by decide) (by decide) rfl hl.1 rfl (lv_room (Nat.le_of_ble_eq_true rfl)) dX7_slope_2 ⟨Nat.zero_le _, Nat.zero_le _⟩ (fun r W1 H locs hp w => ?_)
  obtain ⟨rfl, rfl⟩ := hp
  have w : zW D A s.heap s [(ha, .inl (D.2 1, 86, .inr (.inl (fNow S))))] H locs := w.sub [0] (by decide) rfl
  refine lv_iconst (v := zI 1) hx hb dX7_slope_5 rfl ?_
  refine lv_iload_n hx hb dX7_slope_6 rfl (lv_at hl 1 rfl) ?_
  refine z_iadd hx hb dX7_slope_7 ?_
  refine z_S_i (As := [.ref ha, .int (zI (((sRel S (mu S) : Nat) : Int))), .int (zI (1 + ((d : Nat) : Int)))]) (rest := []) (Wr := []) ⟨hx, hb, hml, hown, hts⟩ (c_X7_sum l D ha S hokp (sRel S (mu S)) (1 + d) (by omega) (by omega)) (va_cwS 3 hts gX7_slope_X7_sum rfl rfl rfl (by decide +kernel) ⟨Nat.le_of_ble_eq_true rfl, Nat.le_of_ble_eq_true rfl⟩) w [0] rfl (by decide) [] rfl (by decide) (by decide) rfl hl.1 rfl (lv_room (Nat.le_of_ble_eq_true rfl)) dX7_slope_8 ⟨Nat.zero_le _, Nat.zero_le _⟩ (fun r W1 H locs hp w => ?_)
  obtain ⟨rfl, rfl⟩ := hp
  have w : zW D A s.heap s [(ha, .inl (D.2 1, 86, .inr (.inl (fNow S))))] H locs := w.sub [0] (by decide) rfl
  refine lv_aload_n hx hb dX7_slope_11 rfl (lv_at hl 0 rfl) ?_
  refine lv_bipush (v := zI 65) hx hb dX7_slope_12 (by decide +kernel) ?_
  refine lv_iload_n hx hb dX7_slope_14 rfl (lv_at hl 1 rfl) ?_
  refine z_iadd hx hb dX7_slope_15 ?_
  refine z_lald hx hb w 0 rfl (65 + d) (by omega) (by decide) (by omega) (v := (zL (S (65 + d)))) (if_pos (by omega)) dX7_slope_16 ?_
  refine z_l2i hx hb dX7_slope_17 ?_
  refine z_isub hx hb dX7_slope_18 ?_
  exact z_iret hx hb hr hlocks w dX7_slope_19 ⟨rfl, rfl⟩
set_option maxHeartbeats 6000000 in
set_option maxRecDepth 100000 in
theorem c_X7_bestWorth (l : Launch) (D : zD) (ha : Nat) (S : Nat → Int) (hok : OkP S) (hbe : S 76 = -6 ∨ 0 ≤ S 76 ∧ S 76 ≤ 65535) : zM l yX7_bestWorth wsX7_bestWorth (zR (2)) zE0 D [.ref ha] (wMo D ha S) (zQi D (fun r W1 => r = zI (sBw S) ∧ W1 = (wMo D ha S))) := by
  refine zM.of (cc := cX7_bestWorth) (maxL := 1) (ret := (some .int)) (by decide) rfl (Nat.le_of_ble_eq_true rfl) ?_
  intro p e s m below meth c A hx hb hml hown hts hr hlocks hE hnm w ls hl
  have hown : s.vm.findClass RX7 = some m.cls := hown
  have hl : lv_has ls 1 [(0, .ref ha)] := hl
  have hn := zn_eq hok
  have h16 := zn_le hok
  have hlim := hok.2.2
  have hokp := hok
  have w : zW D A s.heap s [(ha, .inl (D.2 1, 86, .inr (.inl (fNow S))))] s.heap [] := w
  refine lv_aload_n hx hb dX7_bestWorth_0 rfl (lv_at hl 0 rfl) ?_
  refine lv_bipush (v := zI 76) hx hb dX7_bestWorth_1 (by decide +kernel) ?_
  refine z_lald hx hb w 0 rfl 76 (by omega) (by decide) rfl (v := (zL (S 76))) (if_pos (by omega)) dX7_bestWorth_3 ?_
  refine lv_ldc2 (v := zL (-6)) hx hb hown (hts (.constantLong RX7 81 (zL (-6))) (by decide +kernel)) dX7_bestWorth_4 ?_
  refine z_lcmp_ne (tgt := 15) hx hb (by omega) (by omega) dX7_bestWorth_7 dX7_bestWorth_8 (by decide) (fun c7 => ?_) (fun c7 => ?_)
  · skip
    refine lv_aload_n hx hb dX7_bestWorth_15 rfl (lv_at hl 0 rfl) ?_
    refine lv_aload_n hx hb dX7_bestWorth_16 rfl (lv_at hl 0 rfl) ?_
    refine lv_bipush (v := zI 76) hx hb dX7_bestWorth_17 (by decide +kernel) ?_
    refine z_lald hx hb w 0 rfl 76 (by omega) (by decide) rfl (v := (zL (S 76))) (if_pos (by omega)) dX7_bestWorth_19 ?_
    refine z_l2i hx hb dX7_bestWorth_20 ?_
    refine lv_iconst (v := zI 0) hx hb dX7_bestWorth_21 rfl ?_
    have h0 : 0 ≤ S 76 := (by omega)
    refine W.eq (g2 := F0 m 22 ls [.int (zI (0)), .int (zI ((((S 76).toNat : Nat) : Int))), .ref ha]) (by rw [Int.toNat_of_nonneg h0]) ?_
    refine z_S_i (As := [.ref ha, .int (zI ((((S 76).toNat : Nat) : Int))), .int (zI (0))]) (rest := []) (Wr := []) ⟨hx, hb, hml, hown, hts⟩ (c_X7_sum l D ha S hokp ((S 76).toNat) 0 (by omega) (by omega)) (va_cwS 3 hts gX7_bestWorth_X7_sum rfl rfl rfl (by decide +kernel) ⟨Nat.le_of_ble_eq_true rfl, Nat.le_of_ble_eq_true rfl⟩) w [0] rfl (by decide) [] rfl (by decide) (by decide) rfl hl.1 rfl (lv_room (Nat.le_of_ble_eq_true rfl)) dX7_bestWorth_22 ⟨Nat.zero_le _, Nat.zero_le _⟩ (fun r W1 H locs hp w => ?_)
    obtain ⟨rfl, rfl⟩ := hp
    have w : zW D A s.heap s [(ha, .inl (D.2 1, 86, .inr (.inl (fNow S))))] H locs := w.sub [0] (by decide) rfl
    exact z_iret hx hb hr hlocks w dX7_bestWorth_25 ⟨by unfold sBw; first | rw [if_pos (by omega)] | rw [if_neg (by omega)], rfl⟩
  · skip
    refine lv_iconst (v := zI 0) hx hb dX7_bestWorth_11 rfl ?_
    refine lv_goto (tgt := 25) hx hb dX7_bestWorth_12 (by decide) ?_
    exact z_iret hx hb hr hlocks w dX7_bestWorth_25 ⟨by unfold sBw; first | rw [if_pos (by omega)] | rw [if_neg (by omega)], rfl⟩
