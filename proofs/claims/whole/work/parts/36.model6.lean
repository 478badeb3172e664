set_option maxHeartbeats 6000000 in
set_option maxRecDepth 100000 in
theorem c_X7_sumI (l : Launch) (D : zD) (ha : Nat) (S : Nat → Int) (hok : OkI S) (set what : Nat) (hs : set < 2147483648) (hw : what ≤ 3) : zM l yX7_sum wsX7_sum (zR (1)) zE0 D [.ref ha, .int (zI (((set : Nat) : Int))), .int (zI (((what : Nat) : Int)))] (wMo D ha S) (zQi D (fun r W1 => r = zI (sUse S set what) ∧ W1 = (wMo D ha S))) := by
  refine zM.of (cc := cX7_sum) (maxL := 5) (ret := (some .int)) (by decide) rfl (Nat.le_of_ble_eq_true rfl) ?_
  intro p e s m below meth c A hx hb hml hown hts hr hlocks hE hnm w ls hl
  have hown : s.vm.findClass RX7 = some m.cls := hown
  have hl : lv_has ls 5 [(0, .ref ha), (1, .int (zI (((set : Nat) : Int)))), (2, .int (zI (((what : Nat) : Int))))] := hl
  have hn := znI_eq hok
  have h16 := znI_le hok
  have hlim := hok.2.2
  have w : zW D A s.heap s [(ha, .inl (D.2 1, 86, .inr (.inl (fNow S))))] s.heap [] := w
  refine lv_iconst (v := zI 0) hx hb dX7_sum_0 rfl ?_
  refine lv_istore_n (lv' := [(3, .int (zI (0))), (0, .ref ha), (1, .int (zI (((set : Nat) : Int)))), (2, .int (zI (((what : Nat) : Int))))]) hx hb dX7_sum_1 rfl hl (by decide) rfl (fun ls hl => ?_)
  refine lv_iconst (v := zI 0) hx hb dX7_sum_2 rfl ?_
  refine lv_istore (lv' := [(4, .int (zI (0))), (3, .int (zI (0))), (0, .ref ha), (1, .int (zI (((set : Nat) : Int)))), (2, .int (zI (((what : Nat) : Int))))]) hx hb dX7_sum_3 hl (by decide) rfl (fun ls hl => ?_)
  have lp_5 : ∀ (n_5 : Nat) (i : Nat) (x4 : Int) (x3 : Int) , zn S - i < n_5 → (i ≤ zn S) → x4 = ((i : Nat) : Int) → x3 = sSum i (fun i => if set.testBit i = true then sC S what i else 0) → ∀ (H : Heap) (locs : List Loc) (ls : Array Slot), zW D A s.heap s [(ha, .inl (D.2 1, 86, .inr (.inl (fNow S))))] H locs → lv_has ls 5 [(4, .int (zI (x4))), (3, .int (zI (x3))), (0, .ref ha), (1, .int (zI (((set : Nat) : Int)))), (2, .int (zI (((what : Nat) : Int))))] → W p l e (zR (1)) s m [.ref ha, .int (zI (((set : Nat) : Int))), .int (zI (((what : Nat) : Int)))].toArray below meth c H locs 0 0 (MQ below ((zQi D (fun r W1 => r = zI (sUse S set what) ∧ W1 = (wMo D ha S))) A) [.ref ha, .int (zI (((set : Nat) : Int))), .int (zI (((what : Nat) : Int)))].toArray s 0 0 A) (F0 m 5 ls []) := by
    intro n_5
    induction n_5 with
    | zero => intro i x4 x3 h_; exact absurd h_ (Nat.not_lt_zero _)
    | succ n_5 ih_5 =>
      intro i x4 x3 hf_5 hi ex4 ex3 H locs ls w hl
      subst ex4
      subst ex3
      have hl : lv_has ls 5 [(4, .int (zI (((i : Nat) : Int)))), (3, .int (zI (sSum i (fun i => if set.testBit i = true then sC S what i else 0)))), (0, .ref ha), (1, .int (zI (((set : Nat) : Int)))), (2, .int (zI (((what : Nat) : Int))))] := hl
      refine lv_iload hx hb dX7_sum_5 (lv_at hl 0 rfl) ?_
      refine z_i2l hx hb (by omega) dX7_sum_7 ?_
      refine lv_aload_n hx hb dX7_sum_8 rfl (lv_at hl 2 rfl) ?_
      refine lv_iconst (v := zI 0) hx hb dX7_sum_9 rfl ?_
      refine z_lald hx hb w 0 rfl 0 (by omega) (by decide) rfl (v := (zL (S 0))) (if_pos (by omega)) dX7_sum_10 ?_
      refine z_lcmp_ge (tgt := 45) hx hb (by omega) (by omega) dX7_sum_11 dX7_sum_12 (by decide) (fun c11 => ?_) (fun c11 => ?_)
      · skip
        refine lv_iload_n hx hb dX7_sum_45 rfl (lv_at hl 1 rfl) ?_
        exact z_iret hx hb hr hlocks w dX7_sum_46 ⟨by have e9 : i = zn S := (by omega); subst e9; rfl, rfl⟩
      · skip
        refine lv_iload_n hx hb dX7_sum_15 rfl (lv_at hl 1 rfl) ?_
        refine lv_iload_n hx hb dX7_sum_16 rfl (lv_at hl 3 rfl) ?_
        refine lv_iload hx hb dX7_sum_17 (lv_at hl 0 rfl) ?_
        refine z_ishr (a := set) (b := i) hx hb (by omega) dX7_sum_19 ?_
        refine lv_iconst (v := zI 1) hx hb dX7_sum_20 rfl ?_
        refine z_iand (a := set >>> i) (b := 1) hx hb dX7_sum_21 ?_
        refine lv_iconst (v := zI 1) hx hb dX7_sum_22 rfl ?_
        have hq := zt_le set i
        refine z_icmp_ne (tgt := 36) hx hb (by omega) (by omega) dX7_sum_23 (by decide) (fun c23 => ?_) (fun c23 => ?_)
        · skip
          have hbit : ¬ set.testBit i = true := fun q => c23 (by have := (zt_bit set i).mpr q; omega)
          refine lv_iconst (v := zI 0) hx hb dX7_sum_36 rfl ?_
          refine z_iadd hx hb dX7_sum_37 ?_
          refine lv_istore_n (lv' := [(3, .int (zI ((sSum i (fun i => if set.testBit i = true then sC S what i else 0)) + 0))), (4, .int (zI (((i : Nat) : Int)))), (0, .ref ha), (1, .int (zI (((set : Nat) : Int)))), (2, .int (zI (((what : Nat) : Int))))]) hx hb dX7_sum_38 rfl hl (by decide) rfl (fun ls hl => ?_)
          refine z_iinc (lv' := [(4, .int (zI (((i : Nat) : Int) + 1))), (3, .int (zI ((sSum i (fun i => if set.testBit i = true then sC S what i else 0)) + 0))), (0, .ref ha), (1, .int (zI (((set : Nat) : Int)))), (2, .int (zI (((what : Nat) : Int))))]) hx hb dX7_sum_39 hl (k := 1) rfl (by decide) rfl (fun ls hl => ?_)
          refine lv_goto (tgt := 5) hx hb dX7_sum_42 (by decide) ?_
          exact ih_5 (i + 1) _ _ (by omega) (by omega) (by first | rfl | omega) (by simp only [sSum]; first | rw [if_pos hbit] | rw [if_neg hbit]) _ _ _ w (lv_sub hl [0, 1, 2, 3, 4] rfl)
        · skip
          have hbit : set.testBit i = true := (zt_bit set i).mp (by omega)
          refine lv_aload_n hx hb dX7_sum_26 rfl (lv_at hl 2 rfl) ?_
          refine lv_iload hx hb dX7_sum_27 (lv_at hl 0 rfl) ?_
          refine lv_iload_n hx hb dX7_sum_29 rfl (lv_at hl 4 rfl) ?_
          refine z_S_i (As := [.ref ha, .int (zI (((i : Nat) : Int))), .int (zI (((what : Nat) : Int)))]) (rest := [.int (zI (sSum i (fun i => if set.testBit i = true then sC S what i else 0)))]) (Wr := []) ⟨hx, hb, hml, hown, hts⟩ (c_X7_of l D ha S i what (by omega) (by omega)) (va_cwS 3 hts gX7_sum_X7_of rfl rfl rfl (by decide +kernel) ⟨Nat.le_of_ble_eq_true rfl, Nat.le_of_ble_eq_true rfl⟩) w [0] rfl (by decide) [] rfl (by decide) (by decide) rfl hl.1 rfl (lv_room (Nat.le_of_ble_eq_true rfl)) dX7_sum_30 ⟨Nat.zero_le _, Nat.zero_le _⟩ (fun r W1 H locs hp w => ?_)
          obtain ⟨rfl, rfl⟩ := hp
          have w : zW D A s.heap s [(ha, .inl (D.2 1, 86, .inr (.inl (fNow S))))] H locs := w.sub [0] (by decide) rfl
          refine lv_goto (tgt := 37) hx hb dX7_sum_33 (by decide) ?_
          refine z_iadd hx hb dX7_sum_37 ?_
          refine lv_istore_n (lv' := [(3, .int (zI ((sSum i (fun i => if set.testBit i = true then sC S what i else 0)) + (sC S what i)))), (4, .int (zI (((i : Nat) : Int)))), (0, .ref ha), (1, .int (zI (((set : Nat) : Int)))), (2, .int (zI (((what : Nat) : Int))))]) hx hb dX7_sum_38 rfl hl (by decide) rfl (fun ls hl => ?_)
          refine z_iinc (lv' := [(4, .int (zI (((i : Nat) : Int) + 1))), (3, .int (zI ((sSum i (fun i => if set.testBit i = true then sC S what i else 0)) + (sC S what i)))), (0, .ref ha), (1, .int (zI (((set : Nat) : Int)))), (2, .int (zI (((what : Nat) : Int))))]) hx hb dX7_sum_39 hl (k := 1) rfl (by decide) rfl (fun ls hl => ?_)
          refine lv_goto (tgt := 5) hx hb dX7_sum_42 (by decide) ?_
          exact ih_5 (i + 1) _ _ (by omega) (by omega) (by first | rfl | omega) (by simp only [sSum]; first | rw [if_pos hbit] | rw [if_neg hbit]) _ _ _ w (lv_sub hl [0, 1, 2, 3, 4] rfl)
  exact lp_5 ((zn S - 0) + 1) 0 _ _ (by omega) (by omega) (by first | rfl | omega) (by first | rfl | omega) _ _ _ w (lv_sub hl [0, 1, 2, 3, 4] rfl)
set_option maxHeartbeats 6000000 in
set_option maxRecDepth 100000 in
theorem c_X7_fitsI (l : Launch) (D : zD) (ha : Nat) (S : Nat → Int) (hok : OkI S) (set : Nat) (hs : set < 2147483648) : zM l yX7_fits wsX7_fits (zR (2)) zE0 D [.ref ha, .int (zI (((set : Nat) : Int)))] (wMo D ha S) (zQi D (fun r W1 => r = zI (zb (sFit S set)) ∧ W1 = (wMo D ha S))) := by
  refine zM.of (cc := cX7_fits) (maxL := 4) (ret := (some .boolean)) (by decide) rfl (Nat.le_of_ble_eq_true rfl) ?_
  intro p e s m below meth c A hx hb hml hown hts hr hlocks hE hnm w ls hl
  have hown : s.vm.findClass RX7 = some m.cls := hown
  have hl : lv_has ls 4 [(0, .ref ha), (1, .int (zI (((set : Nat) : Int))))] := hl
  have hn := znI_eq hok
  have h16 := znI_le hok
  have hlim := hok.2.2
  have hokp := hok
  have b1 := sUse_bI hok set (what := 1) (by omega)
  have b2 := sUse_bI hok set (what := 2) (by omega)
  have b3 := sUse_bI hok set (what := 3) (by omega)
  have w : zW D A s.heap s [(ha, .inl (D.2 1, 86, .inr (.inl (fNow S))))] s.heap [] := w
  refine lv_iconst (v := zI 1) hx hb dX7_fits_0 rfl ?_
  refine lv_istore_n (lv' := [(2, .int (zI (1))), (0, .ref ha), (1, .int (zI (((set : Nat) : Int))))]) hx hb dX7_fits_1 rfl hl (by decide) rfl (fun ls hl => ?_)
  refine lv_iconst (v := zI 0) hx hb dX7_fits_2 rfl ?_
  refine lv_istore_n (lv' := [(3, .int (zI (0))), (2, .int (zI (1))), (0, .ref ha), (1, .int (zI (((set : Nat) : Int))))]) hx hb dX7_fits_3 rfl hl (by decide) rfl (fun ls hl => ?_)
  refine lv_iload_n hx hb dX7_fits_4 rfl (lv_at hl 0 rfl) ?_
  refine lv_iconst (v := zI 3) hx hb dX7_fits_5 rfl ?_
  refine z_icmp_ge (tgt := 44) hx hb (by omega) (by omega) dX7_fits_6 (by decide) (fun c6 => ?_) (fun c6 => ?_)
  · skip
    exact absurd c6 (by omega)
  · skip
    refine lv_iload_n hx hb dX7_fits_9 rfl (lv_at hl 1 rfl) ?_
    refine z_if_eq (tgt := 36) hx hb (by omega) dX7_fits_10 (by decide) (fun c10 => ?_) (fun c10 => ?_)
    · skip
      exact absurd c10 (by omega)
    · skip
      refine lv_aload_n hx hb dX7_fits_13 rfl (lv_at hl 2 rfl) ?_
      refine lv_iload_n hx hb dX7_fits_14 rfl (lv_at hl 3 rfl) ?_
      refine lv_iconst (v := zI 1) hx hb dX7_fits_15 rfl ?_
      refine lv_iload_n hx hb dX7_fits_16 rfl (lv_at hl 0 rfl) ?_
      refine z_iadd hx hb dX7_fits_17 ?_
      refine z_S_i (As := [.ref ha, .int (zI (((set : Nat) : Int))), .int (zI (1 + 0))]) (rest := []) (Wr := []) ⟨hx, hb, hml, hown, hts⟩ (c_X7_sumI l D ha S hok set 1 (by omega) (by omega)) (va_cwS 3 hts gX7_fits_X7_sum rfl rfl rfl (by decide +kernel) ⟨Nat.le_of_ble_eq_true rfl, Nat.le_of_ble_eq_true rfl⟩) w [0] rfl (by decide) [] rfl (by decide) (by decide) rfl hl.1 rfl (lv_room (Nat.le_of_ble_eq_true rfl)) dX7_fits_18 ⟨Nat.zero_le _, Nat.zero_le _⟩ (fun r W1 H locs hp w => ?_)
      obtain ⟨rfl, rfl⟩ := hp
      have w : zW D A s.heap s [(ha, .inl (D.2 1, 86, .inr (.inl (fNow S))))] H locs := w.sub [0] (by decide) rfl
      refine z_i2l hx hb (by omega) dX7_fits_21 ?_
      refine lv_aload_n hx hb dX7_fits_22 rfl (lv_at hl 2 rfl) ?_
      refine lv_bipush (v := zI 65) hx hb dX7_fits_23 (by decide +kernel) ?_
      refine lv_iload_n hx hb dX7_fits_25 rfl (lv_at hl 0 rfl) ?_
      refine z_iadd hx hb dX7_fits_26 ?_
      refine z_lald hx hb w 0 rfl 65 (by omega) (by decide) rfl (v := (zL (S 65))) (if_pos (by omega)) dX7_fits_27 ?_
      refine z_lcmp_gt (tgt := 36) hx hb (by omega) (by omega) dX7_fits_28 dX7_fits_29 (by decide) (fun c28 => ?_) (fun c28 => ?_)
      · skip
        refine lv_iconst (v := zI 0) hx hb dX7_fits_36 rfl ?_
        refine lv_istore_n (lv' := [(2, .int (zI (0))), (3, .int (zI (0))), (0, .ref ha), (1, .int (zI (((set : Nat) : Int))))]) hx hb dX7_fits_37 rfl hl (by decide) rfl (fun ls hl => ?_)
        refine z_iinc (lv' := [(3, .int (zI (0 + 1))), (2, .int (zI (0))), (0, .ref ha), (1, .int (zI (((set : Nat) : Int))))]) hx hb dX7_fits_38 hl (k := 1) rfl (by decide) rfl (fun ls hl => ?_)
        have hl : lv_has ls 4 [(3, .int (zI (1))), (2, .int (zI (0))), (0, .ref ha), (1, .int (zI (((set : Nat) : Int))))] := hl
        refine lv_goto (tgt := 4) hx hb dX7_fits_41 (by decide) ?_
        refine lv_iload_n hx hb dX7_fits_4 rfl (lv_at hl 0 rfl) ?_
        refine lv_iconst (v := zI 3) hx hb dX7_fits_5 rfl ?_
        refine z_icmp_ge (tgt := 44) hx hb (by omega) (by omega) dX7_fits_6 (by decide) (fun c6 => ?_) (fun c6 => ?_)
        · skip
          exact absurd c6 (by omega)
        · skip
          refine lv_iload_n hx hb dX7_fits_9 rfl (lv_at hl 1 rfl) ?_
          refine z_if_eq (tgt := 36) hx hb (by omega) dX7_fits_10 (by decide) (fun c10 => ?_) (fun c10 => ?_)
          · skip
            refine lv_iconst (v := zI 0) hx hb dX7_fits_36 rfl ?_
            refine lv_istore_n (lv' := [(2, .int (zI (0))), (3, .int (zI (1))), (0, .ref ha), (1, .int (zI (((set : Nat) : Int))))]) hx hb dX7_fits_37 rfl hl (by decide) rfl (fun ls hl => ?_)
            refine z_iinc (lv' := [(3, .int (zI (1 + 1))), (2, .int (zI (0))), (0, .ref ha), (1, .int (zI (((set : Nat) : Int))))]) hx hb dX7_fits_38 hl (k := 1) rfl (by decide) rfl (fun ls hl => ?_)
            have hl : lv_has ls 4 [(3, .int (zI (2))), (2, .int (zI (0))), (0, .ref ha), (1, .int (zI (((set : Nat) : Int))))] := hl
            refine lv_goto (tgt := 4) hx hb dX7_fits_41 (by decide) ?_
            refine lv_iload_n hx hb dX7_fits_4 rfl (lv_at hl 0 rfl) ?_
            refine lv_iconst (v := zI 3) hx hb dX7_fits_5 rfl ?_
            refine z_icmp_ge (tgt := 44) hx hb (by omega) (by omega) dX7_fits_6 (by decide) (fun c6 => ?_) (fun c6 => ?_)
            · skip
              exact absurd c6 (by omega)
            · skip
              refine lv_iload_n hx hb dX7_fits_9 rfl (lv_at hl 1 rfl) ?_
              refine z_if_eq (tgt := 36) hx hb (by omega) dX7_fits_10 (by decide) (fun c10 => ?_) (fun c10 => ?_)
              · skip
                refine lv_iconst (v := zI 0) hx hb dX7_fits_36 rfl ?_
                refine lv_istore_n (lv' := [(2, .int (zI (0))), (3, .int (zI (2))), (0, .ref ha), (1, .int (zI (((set : Nat) : Int))))]) hx hb dX7_fits_37 rfl hl (by decide) rfl (fun ls hl => ?_)
                refine z_iinc (lv' := [(3, .int (zI (2 + 1))), (2, .int (zI (0))), (0, .ref ha), (1, .int (zI (((set : Nat) : Int))))]) hx hb dX7_fits_38 hl (k := 1) rfl (by decide) rfl (fun ls hl => ?_)
                have hl : lv_has ls 4 [(3, .int (zI (3))), (2, .int (zI (0))), (0, .ref ha), (1, .int (zI (((set : Nat) : Int))))] := hl
                refine lv_goto (tgt := 4) hx hb dX7_fits_41 (by decide) ?_
                refine lv_iload_n hx hb dX7_fits_4 rfl (lv_at hl 0 rfl) ?_
                refine lv_iconst (v := zI 3) hx hb dX7_fits_5 rfl ?_
                refine z_icmp_ge (tgt := 44) hx hb (by omega) (by omega) dX7_fits_6 (by decide) (fun c6 => ?_) (fun c6 => ?_)
                · skip
                  refine lv_iload_n hx hb dX7_fits_44 rfl (lv_at hl 1 rfl) ?_
                  exact z_zret hx hb hr hlocks w dX7_fits_45 (by omega) ⟨by first | rw [zb_t (by omega)] | rw [zb_f (by omega)], rfl⟩
                · skip
                  exact absurd c6 (by omega)
              · skip
                exact absurd c10 (by omega)
          · skip
            exact absurd c10 (by omega)
      · skip
        refine lv_iconst (v := zI 1) hx hb dX7_fits_32 rfl ?_
        refine lv_goto (tgt := 37) hx hb dX7_fits_33 (by decide) ?_
        refine lv_istore_n (lv' := [(2, .int (zI (1))), (3, .int (zI (0))), (0, .ref ha), (1, .int (zI (((set : Nat) : Int))))]) hx hb dX7_fits_37 rfl hl (by decide) rfl (fun ls hl => ?_)
        refine z_iinc (lv' := [(3, .int (zI (0 + 1))), (2, .int (zI (1))), (0, .ref ha), (1, .int (zI (((set : Nat) : Int))))]) hx hb dX7_fits_38 hl (k := 1) rfl (by decide) rfl (fun ls hl => ?_)
        have hl : lv_has ls 4 [(3, .int (zI (1))), (2, .int (zI (1))), (0, .ref ha), (1, .int (zI (((set : Nat) : Int))))] := hl
        refine lv_goto (tgt := 4) hx hb dX7_fits_41 (by decide) ?_
        refine lv_iload_n hx hb dX7_fits_4 rfl (lv_at hl 0 rfl) ?_
        refine lv_iconst (v := zI 3) hx hb dX7_fits_5 rfl ?_
        refine z_icmp_ge (tgt := 44) hx hb (by omega) (by omega) dX7_fits_6 (by decide) (fun c6 => ?_) (fun c6 => ?_)
        · skip
          exact absurd c6 (by omega)
        · skip
          refine lv_iload_n hx hb dX7_fits_9 rfl (lv_at hl 1 rfl) ?_
          refine z_if_eq (tgt := 36) hx hb (by omega) dX7_fits_10 (by decide) (fun c10 => ?_) (fun c10 => ?_)
          · skip
            exact absurd c10 (by omega)
          · skip
            refine lv_aload_n hx hb dX7_fits_13 rfl (lv_at hl 2 rfl) ?_
            refine lv_iload_n hx hb dX7_fits_14 rfl (lv_at hl 3 rfl) ?_
            refine lv_iconst (v := zI 1) hx hb dX7_fits_15 rfl ?_
            refine lv_iload_n hx hb dX7_fits_16 rfl (lv_at hl 0 rfl) ?_
            refine z_iadd hx hb dX7_fits_17 ?_
            refine z_S_i (As := [.ref ha, .int (zI (((set : Nat) : Int))), .int (zI (1 + 1))]) (rest := []) (Wr := []) ⟨hx, hb, hml, hown, hts⟩ (c_X7_sumI l D ha S hok set 2 (by omega) (by omega)) (va_cwS 3 hts gX7_fits_X7_sum rfl rfl rfl (by decide +kernel) ⟨Nat.le_of_ble_eq_true rfl, Nat.le_of_ble_eq_true rfl⟩) w [0] rfl (by decide) [] rfl (by decide) (by decide) rfl hl.1 rfl (lv_room (Nat.le_of_ble_eq_true rfl)) dX7_fits_18 ⟨Nat.zero_le _, Nat.zero_le _⟩ (fun r W1 H locs hp w => ?_)
            obtain ⟨rfl, rfl⟩ := hp
            have w : zW D A s.heap s [(ha, .inl (D.2 1, 86, .inr (.inl (fNow S))))] H locs := w.sub [0] (by decide) rfl
            refine z_i2l hx hb (by omega) dX7_fits_21 ?_
            refine lv_aload_n hx hb dX7_fits_22 rfl (lv_at hl 2 rfl) ?_
            refine lv_bipush (v := zI 65) hx hb dX7_fits_23 (by decide +kernel) ?_
            refine lv_iload_n hx hb dX7_fits_25 rfl (lv_at hl 0 rfl) ?_
            refine z_iadd hx hb dX7_fits_26 ?_
            refine z_lald hx hb w 0 rfl 66 (by omega) (by decide) rfl (v := (zL (S 66))) (if_pos (by omega)) dX7_fits_27 ?_
            refine z_lcmp_gt (tgt := 36) hx hb (by omega) (by omega) dX7_fits_28 dX7_fits_29 (by decide) (fun c28 => ?_) (fun c28 => ?_)
            · skip
              refine lv_iconst (v := zI 0) hx hb dX7_fits_36 rfl ?_
              refine lv_istore_n (lv' := [(2, .int (zI (0))), (3, .int (zI (1))), (0, .ref ha), (1, .int (zI (((set : Nat) : Int))))]) hx hb dX7_fits_37 rfl hl (by decide) rfl (fun ls hl => ?_)
              refine z_iinc (lv' := [(3, .int (zI (1 + 1))), (2, .int (zI (0))), (0, .ref ha), (1, .int (zI (((set : Nat) : Int))))]) hx hb dX7_fits_38 hl (k := 1) rfl (by decide) rfl (fun ls hl => ?_)
              have hl : lv_has ls 4 [(3, .int (zI (2))), (2, .int (zI (0))), (0, .ref ha), (1, .int (zI (((set : Nat) : Int))))] := hl
              refine lv_goto (tgt := 4) hx hb dX7_fits_41 (by decide) ?_
              refine lv_iload_n hx hb dX7_fits_4 rfl (lv_at hl 0 rfl) ?_
              refine lv_iconst (v := zI 3) hx hb dX7_fits_5 rfl ?_
              refine z_icmp_ge (tgt := 44) hx hb (by omega) (by omega) dX7_fits_6 (by decide) (fun c6 => ?_) (fun c6 => ?_)
              · skip
                exact absurd c6 (by omega)
              · skip
                refine lv_iload_n hx hb dX7_fits_9 rfl (lv_at hl 1 rfl) ?_
                refine z_if_eq (tgt := 36) hx hb (by omega) dX7_fits_10 (by decide) (fun c10 => ?_) (fun c10 => ?_)
                · skip
                  refine lv_iconst (v := zI 0) hx hb dX7_fits_36 rfl ?_
                  refine lv_istore_n (lv' := [(2, .int (zI (0))), (3, .int (zI (2))), (0, .ref ha), (1, .int (zI (((set : Nat) : Int))))]) hx hb dX7_fits_37 rfl hl (by decide) rfl (fun ls hl => ?_)
                  refine z_iinc (lv' := [(3, .int (zI (2 + 1))), (2, .int (zI (0))), (0, .ref ha), (1, .int (zI (((set : Nat) : Int))))]) hx hb dX7_fits_38 hl (k := 1) rfl (by decide) rfl (fun ls hl => ?_)
                  have hl : lv_has ls 4 [(3, .int (zI (3))), (2, .int (zI (0))), (0, .ref ha), (1, .int (zI (((set : Nat) : Int))))] := hl
                  refine lv_goto (tgt := 4) hx hb dX7_fits_41 (by decide) ?_
                  refine lv_iload_n hx hb dX7_fits_4 rfl (lv_at hl 0 rfl) ?_
                  refine lv_iconst (v := zI 3) hx hb dX7_fits_5 rfl ?_
                  refine z_icmp_ge (tgt := 44) hx hb (by omega) (by omega) dX7_fits_6 (by decide) (fun c6 => ?_) (fun c6 => ?_)
                  · skip
                    refine lv_iload_n hx hb dX7_fits_44 rfl (lv_at hl 1 rfl) ?_
                    exact z_zret hx hb hr hlocks w dX7_fits_45 (by omega) ⟨by first | rw [zb_t (by omega)] | rw [zb_f (by omega)], rfl⟩
                  · skip
                    exact absurd c6 (by omega)
                · skip
                  exact absurd c10 (by omega)
            · skip
              refine lv_iconst (v := zI 1) hx hb dX7_fits_32 rfl ?_
              refine lv_goto (tgt := 37) hx hb dX7_fits_33 (by decide) ?_
              refine lv_istore_n (lv' := [(2, .int (zI (1))), (3, .int (zI (1))), (0, .ref ha), (1, .int (zI (((set : Nat) : Int))))]) hx hb dX7_fits_37 rfl hl (by decide) rfl (fun ls hl => ?_)
              refine z_iinc (lv' := [(3, .int (zI (1 + 1))), (2, .int (zI (1))), (0, .ref ha), (1, .int (zI (((set : Nat) : Int))))]) hx hb dX7_fits_38 hl (k := 1) rfl (by decide) rfl (fun ls hl => ?_)
              have hl : lv_has ls 4 [(3, .int (zI (2))), (2, .int (zI (1))), (0, .ref ha), (1, .int (zI (((set : Nat) : Int))))] := hl
              refine lv_goto (tgt := 4) hx hb dX7_fits_41 (by decide) ?_
              refine lv_iload_n hx hb dX7_fits_4 rfl (lv_at hl 0 rfl) ?_
              refine lv_iconst (v := zI 3) hx hb dX7_fits_5 rfl ?_
              refine z_icmp_ge (tgt := 44) hx hb (by omega) (by omega) dX7_fits_6 (by decide) (fun c6 => ?_) (fun c6 => ?_)
              · skip
                exact absurd c6 (by omega)
              · skip
                refine lv_iload_n hx hb dX7_fits_9 rfl (lv_at hl 1 rfl) ?_
                refine z_if_eq (tgt := 36) hx hb (by omega) dX7_fits_10 (by decide) (fun c10 => ?_) (fun c10 => ?_)
                · skip
                  exact absurd c10 (by omega)
                · skip
                  refine lv_aload_n hx hb dX7_fits_13 rfl (lv_at hl 2 rfl) ?_
                  refine lv_iload_n hx hb dX7_fits_14 rfl (lv_at hl 3 rfl) ?_
                  refine lv_iconst (v := zI 1) hx hb dX7_fits_15 rfl ?_
                  refine lv_iload_n hx hb dX7_fits_16 rfl (lv_at hl 0 rfl) ?_
                  refine z_iadd hx hb dX7_fits_17 ?_
                  refine z_S_i (As := [.ref ha, .int (zI (((set : Nat) : Int))), .int (zI (1 + 2))]) (rest := []) (Wr := []) ⟨hx, hb, hml, hown, hts⟩ (c_X7_sumI l D ha S hok set 3 (by omega) (by omega)) (va_cwS 3 hts gX7_fits_X7_sum rfl rfl rfl (by decide +kernel) ⟨Nat.le_of_ble_eq_true rfl, Nat.le_of_ble_eq_true rfl⟩) w [0] rfl (by decide) [] rfl (by decide) (by decide) rfl hl.1 rfl (lv_room (Nat.le_of_ble_eq_true rfl)) dX7_fits_18 ⟨Nat.zero_le _, Nat.zero_le _⟩ (fun r W1 H locs hp w => ?_)
                  obtain ⟨rfl, rfl⟩ := hp
                  have w : zW D A s.heap s [(ha, .inl (D.2 1, 86, .inr (.inl (fNow S))))] H locs := w.sub [0] (by decide) rfl
                  refine z_i2l hx hb (by omega) dX7_fits_21 ?_
                  refine lv_aload_n hx hb dX7_fits_22 rfl (lv_at hl 2 rfl) ?_
                  refine lv_bipush (v := zI 65) hx hb dX7_fits_23 (by decide +kernel) ?_
                  refine lv_iload_n hx hb dX7_fits_25 rfl (lv_at hl 0 rfl) ?_
                  refine z_iadd hx hb dX7_fits_26 ?_
                  refine z_lald hx hb w 0 rfl 67 (by omega) (by decide) rfl (v := (zL (S 67))) (if_pos (by omega)) dX7_fits_27 ?_
                  refine z_lcmp_gt (tgt := 36) hx hb (by omega) (by omega) dX7_fits_28 dX7_fits_29 (by decide) (fun c28 => ?_) (fun c28 => ?_)
                  · skip
                    refine lv_iconst (v := zI 0) hx hb dX7_fits_36 rfl ?_
                    refine lv_istore_n (lv' := [(2, .int (zI (0))), (3, .int (zI (2))), (0, .ref ha), (1, .int (zI (((set : Nat) : Int))))]) hx hb dX7_fits_37 rfl hl (by decide) rfl (fun ls hl => ?_)
                    refine z_iinc (lv' := [(3, .int (zI (2 + 1))), (2, .int (zI (0))), (0, .ref ha), (1, .int (zI (((set : Nat) : Int))))]) hx hb dX7_fits_38 hl (k := 1) rfl (by decide) rfl (fun ls hl => ?_)
                    have hl : lv_has ls 4 [(3, .int (zI (3))), (2, .int (zI (0))), (0, .ref ha), (1, .int (zI (((set : Nat) : Int))))] := hl
                    refine lv_goto (tgt := 4) hx hb dX7_fits_41 (by decide) ?_
                    refine lv_iload_n hx hb dX7_fits_4 rfl (lv_at hl 0 rfl) ?_
                    refine lv_iconst (v := zI 3) hx hb dX7_fits_5 rfl ?_
                    refine z_icmp_ge (tgt := 44) hx hb (by omega) (by omega) dX7_fits_6 (by decide) (fun c6 => ?_) (fun c6 => ?_)
                    · skip
                      refine lv_iload_n hx hb dX7_fits_44 rfl (lv_at hl 1 rfl) ?_
                      exact z_zret hx hb hr hlocks w dX7_fits_45 (by omega) ⟨by first | rw [zb_t (by omega)] | rw [zb_f (by omega)], rfl⟩
                    · skip
                      exact absurd c6 (by omega)
                  · skip
                    refine lv_iconst (v := zI 1) hx hb dX7_fits_32 rfl ?_
                    refine lv_goto (tgt := 37) hx hb dX7_fits_33 (by decide) ?_
                    refine lv_istore_n (lv' := [(2, .int (zI (1))), (3, .int (zI (2))), (0, .ref ha), (1, .int (zI (((set : Nat) : Int))))]) hx hb dX7_fits_37 rfl hl (by decide) rfl (fun ls hl => ?_)
                    refine z_iinc (lv' := [(3, .int (zI (2 + 1))), (2, .int (zI (1))), (0, .ref ha), (1, .int (zI (((set : Nat) : Int))))]) hx hb dX7_fits_38 hl (k := 1) rfl (by decide) rfl (fun ls hl => ?_)
                    have hl : lv_has ls 4 [(3, .int (zI (3))), (2, .int (zI (1))), (0, .ref ha), (1, .int (zI (((set : Nat) : Int))))] := hl
                    refine lv_goto (tgt := 4) hx hb dX7_fits_41 (by decide) ?_
                    refine lv_iload_n hx hb dX7_fits_4 rfl (lv_at hl 0 rfl) ?_
                    refine lv_iconst (v := zI 3) hx hb dX7_fits_5 rfl ?_
                    refine z_icmp_ge (tgt := 44) hx hb (by omega) (by omega) dX7_fits_6 (by decide) (fun c6 => ?_) (fun c6 => ?_)
                    · skip
                      refine lv_iload_n hx hb dX7_fits_44 rfl (lv_at hl 1 rfl) ?_
                      exact z_zret hx hb hr hlocks w dX7_fits_45 (by omega) ⟨by first | rw [zb_t (by omega)] | rw [zb_f (by omega)], rfl⟩
                    · skip
                      exact absurd c6 (by omega)
set_option maxHeartbeats 6000000 in
set_option maxRecDepth 100000 in
theorem c_X7_bestSet (l : Launch) (D : zD) (ha : Nat) (S : Nat → Int) (hok : OkI S) : zM l yX7_bestSet wsX7_bestSet (zR (3)) zE0 D [.ref ha] (wMo D ha S) (zQi D (fun r W1 => r = zI (((sBst S : Nat) : Int)) ∧ W1 = (wMo D ha S))) := by
  refine zM.of (cc := cX7_bestSet) (maxL := 5) (ret := (some .int)) (by decide) rfl (Nat.le_of_ble_eq_true rfl) ?_
  intro p e s m below meth c A hx hb hml hown hts hr hlocks hE hnm w ls hl
  have hown : s.vm.findClass RX7 = some m.cls := hown
  have hl : lv_has ls 5 [(0, .ref ha)] := hl
  have hn := znI_eq hok
  have h16 := znI_le hok
  have hlim := hok.2.2
  have h2p := zt_2p h16
  have h2q : 0 < 2 ^ zn S := Nat.pow_pos (by decide)
  have w : zW D A s.heap s [(ha, .inl (D.2 1, 86, .inr (.inl (fNow S))))] s.heap [] := w
  refine lv_iconst (v := zI 0) hx hb dX7_bestSet_0 rfl ?_
  refine lv_istore_n (lv' := [(1, .int (zI (0))), (0, .ref ha)]) hx hb dX7_bestSet_1 rfl hl (by decide) rfl (fun ls hl => ?_)
  refine lv_iconst (v := zI 0) hx hb dX7_bestSet_2 rfl ?_
  refine lv_istore_n (lv' := [(2, .int (zI (0))), (1, .int (zI (0))), (0, .ref ha)]) hx hb dX7_bestSet_3 rfl hl (by decide) rfl (fun ls hl => ?_)
  refine lv_iconst (v := zI 1) hx hb dX7_bestSet_4 rfl ?_
  refine lv_istore_n (lv' := [(3, .int (zI (1))), (2, .int (zI (0))), (1, .int (zI (0))), (0, .ref ha)]) hx hb dX7_bestSet_5 rfl hl (by decide) rfl (fun ls hl => ?_)
  have lp_6 : ∀ (n_6 : Nat) (k : Nat) (x3 : Int) (x2 : Int) (x1 : Int) , 2 ^ zn S - k < n_6 → (k + 1 ≤ 2 ^ zn S) → x3 = ((k + 1 : Nat) : Int) → x2 = (sBs S k).2 → x1 = (((sBs S k).1 : Nat) : Int) → ∀ (H : Heap) (locs : List Loc) (ls : Array Slot), zW D A s.heap s [(ha, .inl (D.2 1, 86, .inr (.inl (fNow S))))] H locs → lv_has ls 5 [(3, .int (zI (x3))), (2, .int (zI (x2))), (1, .int (zI (x1))), (0, .ref ha)] → W p l e (zR (3)) s m [.ref ha].toArray below meth c H locs 0 0 (MQ below ((zQi D (fun r W1 => r = zI (((sBst S : Nat) : Int)) ∧ W1 = (wMo D ha S))) A) [.ref ha].toArray s 0 0 A) (F0 m 6 ls []) := by
    intro n_6
    induction n_6 with
    | zero => intro k x3 x2 x1 h_; exact absurd h_ (Nat.not_lt_zero _)
    | succ n_6 ih_6 =>
      intro k x3 x2 x1 hf_6 hk ex3 ex2 ex1 H locs ls w hl
      subst ex3
      subst ex2
      subst ex1
      have hbb := sBs_b hok k
      have hl : lv_has ls 5 [(3, .int (zI (((k + 1 : Nat) : Int)))), (2, .int (zI ((sBs S k).2))), (1, .int (zI ((((sBs S k).1 : Nat) : Int)))), (0, .ref ha)] := hl
      refine lv_iload_n hx hb dX7_bestSet_6 rfl (lv_at hl 0 rfl) ?_
      refine lv_iconst (v := zI 1) hx hb dX7_bestSet_7 rfl ?_
      refine lv_aload_n hx hb dX7_bestSet_8 rfl (lv_at hl 3 rfl) ?_
      refine lv_iconst (v := zI 0) hx hb dX7_bestSet_9 rfl ?_
      refine z_lald hx hb w 0 rfl 0 (by omega) (by decide) rfl (v := (zL (S 0))) (if_pos (by omega)) dX7_bestSet_10 ?_
      refine z_l2i hx hb dX7_bestSet_11 ?_
      refine W.eq (g2 := F0 m 12 ls [.int (zI (((zn S : Nat) : Int))), .int (zI (1)), .int (zI (((k + 1 : Nat) : Int)))]) (by rw [hn]) ?_
      refine z_ishl1 (b := zn S) hx hb (by omega) dX7_bestSet_12 ?_
      refine z_icmp_ge (tgt := 49) hx hb (by omega) (by omega) dX7_bestSet_13 (by decide) (fun c13 => ?_) (fun c13 => ?_)
      · skip
        refine lv_iload_n hx hb dX7_bestSet_49 rfl (lv_at hl 2 rfl) ?_
        exact z_iret hx hb hr hlocks w dX7_bestSet_50 ⟨by have e9 : k = 2 ^ zn S - 1 := (by omega); subst e9; rfl, rfl⟩
      · skip
        refine lv_aload_n hx hb dX7_bestSet_16 rfl (lv_at hl 3 rfl) ?_
        refine lv_iload_n hx hb dX7_bestSet_17 rfl (lv_at hl 0 rfl) ?_
        refine lv_iconst (v := zI 0) hx hb dX7_bestSet_18 rfl ?_
        refine z_S_i (As := [.ref ha, .int (zI (((k + 1 : Nat) : Int))), .int (zI (0))]) (rest := []) (Wr := []) ⟨hx, hb, hml, hown, hts⟩ (c_X7_sumI l D ha S hok (k + 1) 0 (by omega) (by omega)) (va_cwS 3 hts gX7_bestSet_X7_sum rfl rfl rfl (by decide +kernel) ⟨Nat.le_of_ble_eq_true rfl, Nat.le_of_ble_eq_true rfl⟩) w [0] rfl (by decide) [] rfl (by decide) (by decide) rfl hl.1 rfl (lv_room (Nat.le_of_ble_eq_true rfl)) dX7_bestSet_19 ⟨Nat.zero_le _, Nat.zero_le _⟩ (fun r W1 H locs hp w => ?_)
        obtain ⟨rfl, rfl⟩ := hp
        have w : zW D A s.heap s [(ha, .inl (D.2 1, 86, .inr (.inl (fNow S))))] H locs := w.sub [0] (by decide) rfl
        refine lv_istore (lv' := [(4, .int (zI (sUse S (k + 1) 0))), (3, .int (zI (((k + 1 : Nat) : Int)))), (2, .int (zI ((sBs S k).2))), (1, .int (zI ((((sBs S k).1 : Nat) : Int)))), (0, .ref ha)]) hx hb dX7_bestSet_22 hl (by decide) rfl (fun ls hl => ?_)
        have hub := sUse_bI hok (k + 1) (what := 0) (by omega)
        refine lv_iload hx hb dX7_bestSet_24 (lv_at hl 0 rfl) ?_
        refine lv_iload_n hx hb dX7_bestSet_26 rfl (lv_at hl 2 rfl) ?_
        refine z_icmp_le (tgt := 43) hx hb (by omega) (by omega) dX7_bestSet_27 (by decide) (fun c27 => ?_) (fun c27 => ?_)
        · skip
          have hno : ¬ ((sBs S k).2 < sUse S (k + 1) 0 ∧ sFit S (k + 1)) := fun q => absurd q.1 (by omega)
          refine z_iinc (lv' := [(3, .int (zI (((k + 1 : Nat) : Int) + 1))), (4, .int (zI (sUse S (k + 1) 0))), (2, .int (zI ((sBs S k).2))), (1, .int (zI ((((sBs S k).1 : Nat) : Int)))), (0, .ref ha)]) hx hb dX7_bestSet_43 hl (k := 1) rfl (by decide) rfl (fun ls hl => ?_)
          refine lv_goto (tgt := 6) hx hb dX7_bestSet_46 (by decide) ?_
          exact ih_6 (k + 1) _ _ _ (by omega) (by omega) (by first | rfl | omega) (by rw [sBs_s]; first | rw [if_pos hyes] | rw [if_neg hno]) (by rw [sBs_s]; first | rw [if_pos hyes] | rw [if_neg hno]) _ _ _ w (lv_sub hl [0, 2, 3, 4] rfl)
        · skip
          refine lv_aload_n hx hb dX7_bestSet_30 rfl (lv_at hl 4 rfl) ?_
          refine lv_iload_n hx hb dX7_bestSet_31 rfl (lv_at hl 1 rfl) ?_
          refine z_S_i (As := [.ref ha, .int (zI (((k + 1 : Nat) : Int)))]) (rest := []) (Wr := []) ⟨hx, hb, hml, hown, hts⟩ (c_X7_fitsI l D ha S hok (k + 1) (by omega)) (va_cwS 2 hts gX7_bestSet_X7_fits rfl rfl rfl (by decide +kernel) ⟨Nat.le_of_ble_eq_true rfl, Nat.le_of_ble_eq_true rfl⟩) w [0] rfl (by decide) [] rfl (by decide) (by decide) rfl hl.1 rfl (lv_room (Nat.le_of_ble_eq_true rfl)) dX7_bestSet_32 ⟨Nat.zero_le _, Nat.zero_le _⟩ (fun r W1 H locs hp w => ?_)
          obtain ⟨rfl, rfl⟩ := hp
          have w : zW D A s.heap s [(ha, .inl (D.2 1, 86, .inr (.inl (fNow S))))] H locs := w.sub [0] (by decide) rfl
          refine z_if_eq_b (tgt := 43) hx hb dX7_bestSet_35 (by decide) (fun c35 => ?_) (fun c35 => ?_)
          · skip
            have hno : ¬ ((sBs S k).2 < sUse S (k + 1) 0 ∧ sFit S (k + 1)) := fun q => c35 q.2
            refine z_iinc (lv' := [(3, .int (zI (((k + 1 : Nat) : Int) + 1))), (4, .int (zI (sUse S (k + 1) 0))), (2, .int (zI ((sBs S k).2))), (1, .int (zI ((((sBs S k).1 : Nat) : Int)))), (0, .ref ha)]) hx hb dX7_bestSet_43 hl (k := 1) rfl (by decide) rfl (fun ls hl => ?_)
            refine lv_goto (tgt := 6) hx hb dX7_bestSet_46 (by decide) ?_
            exact ih_6 (k + 1) _ _ _ (by omega) (by omega) (by first | rfl | omega) (by rw [sBs_s]; first | rw [if_pos hyes] | rw [if_neg hno]) (by rw [sBs_s]; first | rw [if_pos hyes] | rw [if_neg hno]) _ _ _ w (lv_sub hl [0, 2, 3, 4] rfl)
          · skip
            have hyes : (sBs S k).2 < sUse S (k + 1) 0 ∧ sFit S (k + 1) := And.intro c27 c35
            refine lv_iload_n hx hb dX7_bestSet_38 rfl (lv_at hl 1 rfl) ?_
            refine lv_istore_n (lv' := [(1, .int (zI (((k + 1 : Nat) : Int)))), (4, .int (zI (sUse S (k + 1) 0))), (3, .int (zI (((k + 1 : Nat) : Int)))), (2, .int (zI ((sBs S k).2))), (0, .ref ha)]) hx hb dX7_bestSet_39 rfl hl (by decide) rfl (fun ls hl => ?_)
            refine lv_iload hx hb dX7_bestSet_40 (lv_at hl 1 rfl) ?_
            refine lv_istore_n (lv' := [(2, .int (zI (sUse S (k + 1) 0))), (1, .int (zI (((k + 1 : Nat) : Int)))), (4, .int (zI (sUse S (k + 1) 0))), (3, .int (zI (((k + 1 : Nat) : Int)))), (0, .ref ha)]) hx hb dX7_bestSet_42 rfl hl (by decide) rfl (fun ls hl => ?_)
            refine z_iinc (lv' := [(3, .int (zI (((k + 1 : Nat) : Int) + 1))), (2, .int (zI (sUse S (k + 1) 0))), (1, .int (zI (((k + 1 : Nat) : Int)))), (4, .int (zI (sUse S (k + 1) 0))), (0, .ref ha)]) hx hb dX7_bestSet_43 hl (k := 3) rfl (by decide) rfl (fun ls hl => ?_)
            refine lv_goto (tgt := 6) hx hb dX7_bestSet_46 (by decide) ?_
            exact ih_6 (k + 1) _ _ _ (by omega) (by omega) (by first | rfl | omega) (by rw [sBs_s]; first | rw [if_pos hyes] | rw [if_neg hno]) (by rw [sBs_s]; first | rw [if_pos hyes] | rw [if_neg hno]) _ _ _ w (lv_sub hl [0, 1, 2, 4] rfl)
  exact lp_6 ((2 ^ zn S - 0) + 1) 0 _ _ _ (by omega) (by omega) (by first | rfl | omega) (by first | rfl | omega) (by first | rfl | omega) _ _ _ w (lv_sub hl [0, 1, 2, 3] rfl)
set_option maxHeartbeats 6000000 in
set_option maxRecDepth 100000 in
theorem c_X7_lays (l : Launch) (D : zD) (a1 a2 n1 n2 fa ta : Nat) (F G : Nat → Int64) (h1 : fa + 86 ≤ n1) (h2 : ta + 86 ≤ n2) (h3 : n1 < 2147483648) (h4 : n2 < 2147483648) : zM l yX7_lays wsX7_lays (zR (0)) zE0 D [.ref a1, .int (zI (((fa : Nat) : Int))), .ref a2, .int (zI (((ta : Nat) : Int)))] [(a1, .inl (D.2 1, n1, .inr (.inl (F)))), (a2, .inl (D.2 1, n2, .inr (.inl (G))))] (zQv D (fun W1 => W1 = [(a1, .inl (D.2 1, n1, .inr (.inl (F)))), (a2, .inl (D.2 1, n2, .inr (.inl (fLy F G fa ta 86))))])) := by
  refine zM.of (cc := cX7_lays) (maxL := 5) (ret := none) (by decide) rfl (Nat.le_of_ble_eq_true rfl) ?_
  intro p e s m below meth c A hx hb hml hown hts hr hlocks hE hnm w ls hl
  have hown : s.vm.findClass RX7 = some m.cls := hown
  have hl : lv_has ls 5 [(0, .ref a1), (1, .int (zI (((fa : Nat) : Int)))), (2, .ref a2), (3, .int (zI (((ta : Nat) : Int))))] := hl
  have w : zW D A s.heap s [(a1, .inl (D.2 1, n1, .inr (.inl (F)))), (a2, .inl (D.2 1, n2, .inr (.inl (G))))] s.heap [] := w
  refine lv_iconst (v := zI 0) hx hb dX7_lays_0 rfl ?_
  refine lv_istore (lv' := [(4, .int (zI (0))), (0, .ref a1), (1, .int (zI (((fa : Nat) : Int)))), (2, .ref a2), (3, .int (zI (((ta : Nat) : Int))))]) hx hb dX7_lays_1 hl (by decide) rfl (fun ls hl => ?_)
  have lp_3 : ∀ (n_3 : Nat) (k : Nat) (x4 : Int) , 86 - k < n_3 → (k ≤ 86) → x4 = ((k : Nat) : Int) → ∀ (H : Heap) (locs : List Loc) (ls : Array Slot), zW D A s.heap s [(a1, .inl (D.2 1, n1, .inr (.inl (F)))), (a2, .inl (D.2 1, n2, .inr (.inl (fLy F G fa ta k))))] H locs → lv_has ls 5 [(4, .int (zI (x4))), (0, .ref a1), (1, .int (zI (((fa : Nat) : Int)))), (2, .ref a2), (3, .int (zI (((ta : Nat) : Int))))] → W p l e (zR (0)) s m [.ref a1, .int (zI (((fa : Nat) : Int))), .ref a2, .int (zI (((ta : Nat) : Int)))].toArray below meth c H locs 0 0 (MQ below ((zQv D (fun W1 => W1 = [(a1, .inl (D.2 1, n1, .inr (.inl (F)))), (a2, .inl (D.2 1, n2, .inr (.inl (fLy F G fa ta 86))))])) A) [.ref a1, .int (zI (((fa : Nat) : Int))), .ref a2, .int (zI (((ta : Nat) : Int)))].toArray s 0 0 A) (F0 m 3 ls []) := by
    intro n_3
    induction n_3 with
    | zero => intro k x4 h_; exact absurd h_ (Nat.not_lt_zero _)
    | succ n_3 ih_3 =>
      intro k x4 hf_3 hk ex4 H locs ls w hl
      subst ex4
      have hl : lv_has ls 5 [(4, .int (zI (((k : Nat) : Int)))), (0, .ref a1), (1, .int (zI (((fa : Nat) : Int)))), (2, .ref a2), (3, .int (zI (((ta : Nat) : Int))))] := hl
      refine lv_iload hx hb dX7_lays_3 (lv_at hl 0 rfl) ?_
      refine lv_bipush (v := zI 86) hx hb dX7_lays_5 (by decide +kernel) ?_
      refine z_icmp_ge (tgt := 28) hx hb (by omega) (by omega) dX7_lays_7 (by decide) (fun c7 => ?_) (fun c7 => ?_)
      · skip
        exact z_vret hx hb hr hlocks w dX7_lays_28 (by have e9 : k = 86 := (by omega); subst e9; rfl)
      · skip
        refine lv_aload_n hx hb dX7_lays_10 rfl (lv_at hl 3 rfl) ?_
        refine lv_iload_n hx hb dX7_lays_11 rfl (lv_at hl 4 rfl) ?_
        refine lv_iload hx hb dX7_lays_12 (lv_at hl 0 rfl) ?_
        refine z_iadd hx hb dX7_lays_14 ?_
        refine lv_aload_n hx hb dX7_lays_15 rfl (lv_at hl 1 rfl) ?_
        refine lv_iload_n hx hb dX7_lays_16 rfl (lv_at hl 2 rfl) ?_
        refine lv_iload hx hb dX7_lays_17 (lv_at hl 0 rfl) ?_
        refine z_iadd hx hb dX7_lays_19 ?_
        refine z_lald hx hb w 0 rfl (fa + k) (by omega) (by omega) (by omega) (v := (F (fa + k))) rfl dX7_lays_20 ?_
        refine z_last hx hb w 1 rfl (ta + k) (by omega) (by omega) (by omega) dX7_lays_21 (vp_updL (fLy F G fa ta k) (ta + k) (F (fa + k))) (fun _ _ => rfl) (fun H locs w => ?_)
        have w : zW D A s.heap s [(a1, .inl (D.2 1, n1, .inr (.inl (F)))), (a2, .inl (D.2 1, n2, .inr (.inl (vp_updL (fLy F G fa ta k) (ta + k) (F (fa + k))))))] H locs := w
        refine z_iinc (lv' := [(4, .int (zI (((k : Nat) : Int) + 1))), (0, .ref a1), (1, .int (zI (((fa : Nat) : Int)))), (2, .ref a2), (3, .int (zI (((ta : Nat) : Int))))]) hx hb dX7_lays_22 hl (k := 0) rfl (by decide) rfl (fun ls hl => ?_)
        refine lv_goto (tgt := 3) hx hb dX7_lays_25 (by decide) ?_
        exact ih_3 (k + 1) _ (by omega) (by omega) (by first | rfl | omega) _ _ _ (w.to (by rw [fLy_s])) (lv_sub hl [0, 1, 2, 3, 4] rfl)
  exact lp_3 ((86 - 0) + 1) 0 _ (by omega) (by omega) (by first | rfl | omega) _ _ _ (w.to (by rw [fLy_0])) (lv_sub hl [0, 1, 2, 3, 4] rfl)
