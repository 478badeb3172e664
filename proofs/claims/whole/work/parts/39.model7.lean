set_option maxHeartbeats 6000000 in
set_option maxRecDepth 100000 in
theorem c_X7_records (l : Launch) (D : zD) (hmo ha hth hpa hsl hhe hpd hor : Nat) (pd ap od : Int) (c9 : Nat) (P S : Nat → Int) (hc9 : c9 ≤ 6) : zM l yX7_records wsX7_records (zR (1)) zE0 D [.ref hmo] (wMh D hmo ha hth hpa hsl hhe hpd hor pd ap od c9 P S) (zQv D (fun W1 => W1 = (wMh D hmo ha hth hpa hsl hhe hpd hor pd ap od (min 6 (c9 + 1)) (hP P c9 S) S))) := by
  refine zM.of (cc := cX7_records) (maxL := 2) (ret := none) (by decide) rfl (Nat.le_of_ble_eq_true rfl) ?_
  intro p e s m below meth c A hx hb hml hown hts hr hlocks hE hnm w ls hl
  have hown : s.vm.findClass RX7 = some m.cls := hown
  have hl : lv_has ls 2 [(0, .ref hmo)] := hl
  have f_44 : (Cond.fieldLink RX7 44 "RelaxedStepsModel" "kept" "I").before _ s = true := hts _ (by decide +kernel)
  have f_7 : (Cond.fieldLink RX7 7 "RelaxedStepsModel" "now" "[J").before _ s = true := hts _ (by decide +kernel)
  have f_16 : (Cond.fieldLink RX7 16 "RelaxedStepsModel" "past" "[J").before _ s = true := hts _ (by decide +kernel)
  have inX7 : ∀ w ∈ u_ws RX7 TX7 11, w ∈ wsX7_records := by decide +kernel
  have w : zW D A s.heap s [(hmo, .inr (7, [.ref ha, .ref hth, .ref hpa, .int (zI (((c9 : Nat) : Int))), .ref hsl, .ref hhe, .ref hpd, .int (zI (pd)), .int (zI (ap)), .ref hor, .int (zI (od))])), (ha, .inl (D.2 1, 86, .inr (.inl (fNow S)))), (hpa, .inl (D.2 1, 516, .inr (.inl (fFl 516 P))))] s.heap [] := w
  refine lv_aload_n hx hb dX7_records_0 rfl (lv_at hl 0 rfl) ?_
  refine z_get hx hb hown hts w inX7 0 3 rfl rfl (by decide) f_44 rfl rfl dX7_records_1 ?_
  refine lv_bipush (v := zI 6) hx hb dX7_records_4 (by decide +kernel) ?_
  refine z_icmp_ne (tgt := 49) hx hb (by omega) (by omega) dX7_records_6 (by decide) (fun c6 => ?_) (fun c6 => ?_)
  · skip
    refine lv_aload_n hx hb dX7_records_49 rfl (lv_at hl 0 rfl) ?_
    refine z_get hx hb hown hts w inX7 0 0 rfl rfl (by decide) f_7 rfl rfl dX7_records_50 ?_
    refine lv_iconst (v := zI 0) hx hb dX7_records_53 rfl ?_
    refine lv_aload_n hx hb dX7_records_54 rfl (lv_at hl 0 rfl) ?_
    refine z_get hx hb hown hts w inX7 0 2 rfl rfl (by decide) f_16 rfl rfl dX7_records_55 ?_
    refine lv_bipush (v := zI 86) hx hb dX7_records_58 (by decide +kernel) ?_
    refine lv_aload_n hx hb dX7_records_60 rfl (lv_at hl 0 rfl) ?_
    refine z_get hx hb hown hts w inX7 0 3 rfl rfl (by decide) f_44 rfl rfl dX7_records_61 ?_
    refine z_imul hx hb dX7_records_64 ?_
    refine W.eq (g2 := F0 m 65 ls [.int (zI (((86 * min c9 5 : Nat) : Int))), .ref hpa, .int (zI (0)), .ref ha]) (by rw [show 86 * ((c9 : Nat) : Int) = ((86 * min c9 5 : Nat) : Int) by omega]) ?_
    refine z_S_v (As := [.ref ha, .int (zI (0)), .ref hpa, .int (zI (((86 * min c9 5 : Nat) : Int)))]) (rest := []) (Wr := [(hmo, .inr (7, [.ref ha, .ref hth, .ref hpa, .int (zI (((c9 : Nat) : Int))), .ref hsl, .ref hhe, .ref hpd, .int (zI (pd)), .int (zI (ap)), .ref hor, .int (zI (od))]))]) ⟨hx, hb, hml, hown, hts⟩ (c_X7_lays l D ha hpa 86 516 0 (86 * min c9 5) (fNow S) (fFl 516 P) (by omega) (by omega) (by omega) (by omega)) (va_cwS 4 hts gX7_records_X7_lays rfl rfl rfl (by decide +kernel) ⟨Nat.le_of_ble_eq_true rfl, Nat.le_of_ble_eq_true rfl⟩) w [1, 2] rfl (by decide) [0] rfl (by decide) (by decide) rfl hl.1 rfl (lv_room (Nat.le_of_ble_eq_true rfl)) dX7_records_65 ⟨Nat.zero_le _, Nat.zero_le _⟩ (fun W1 H locs hp w => ?_)
    subst hp
    have w : zW D A s.heap s [(hmo, .inr (7, [.ref ha, .ref hth, .ref hpa, .int (zI (((c9 : Nat) : Int))), .ref hsl, .ref hhe, .ref hpd, .int (zI (pd)), .int (zI (ap)), .ref hor, .int (zI (od))])), (ha, .inl (D.2 1, 86, .inr (.inl (fNow S)))), (hpa, .inl (D.2 1, 516, .inr (.inl (fLy (fNow S) (fFl 516 P) 0 (86 * min c9 5) 86))))] H locs := w.sub [0, 1, 2] (by decide) rfl
    have w : zW D A s.heap s [(hmo, .inr (7, [.ref ha, .ref hth, .ref hpa, .int (zI (((c9 : Nat) : Int))), .ref hsl, .ref hhe, .ref hpd, .int (zI (pd)), .int (zI (ap)), .ref hor, .int (zI (od))])), (ha, .inl (D.2 1, 86, .inr (.inl (fNow S)))), (hpa, .inl (D.2 1, 516, .inr (.inl (fFl 516 (hP P c9 S)))))] H locs := w.to (by rw [show hP P c9 S = lay P (86 * min c9 5) S by unfold hP; first | rw [if_pos (by omega)] | rw [if_neg (by omega)], ← fLy_in (n1 := 86) (by omega) (by omega)]; rfl)
    refine lv_aload_n hx hb dX7_records_68 rfl (lv_at hl 0 rfl) ?_
    refine lv_dup hx hb dX7_records_69 rfl ?_
    refine z_get hx hb hown hts w inX7 0 3 rfl rfl (by decide) f_44 rfl rfl dX7_records_70 ?_
    refine lv_iconst (v := zI 1) hx hb dX7_records_73 rfl ?_
    refine z_iadd hx hb dX7_records_74 ?_
    refine W.eq (g2 := F0 m 75 ls [.int (zI (((min 6 (c9 + 1) : Nat) : Int))), .ref hmo]) (by rw [show ((c9 : Nat) : Int) + 1 = ((min 6 (c9 + 1) : Nat) : Int) by omega]) ?_
    refine z_put hx hb hown hts w inX7 tyX7 tyX7_ok nmX7 0 3 rfl rfl (by decide) f_44 rfl rfl (ty := .int) rfl rfl rfl (Nat.le_of_ble_eq_true rfl) dX7_records_75 (fun H locs w => ?_)
    have w : zW D A s.heap s [(hmo, .inr (7, [.ref ha, .ref hth, .ref hpa, .int (zI (((min 6 (c9 + 1) : Nat) : Int))), .ref hsl, .ref hhe, .ref hpd, .int (zI (pd)), .int (zI (ap)), .ref hor, .int (zI (od))])), (ha, .inl (D.2 1, 86, .inr (.inl (fNow S)))), (hpa, .inl (D.2 1, 516, .inr (.inl (fFl 516 (hP P c9 S)))))] H locs := w
    exact z_vret hx hb hr hlocks w dX7_records_78 rfl
  · skip
    refine lv_iconst (v := zI 0) hx hb dX7_records_9 rfl ?_
    refine lv_istore_n (lv' := [(1, .int (zI (0))), (0, .ref hmo)]) hx hb dX7_records_10 rfl hl (by decide) rfl (fun ls hl => ?_)
    have lp_11 : ∀ (n_11 : Nat) (m9 : Nat) (x1 : Int) , 430 - m9 < n_11 → (m9 ≤ 430) → x1 = ((m9 : Nat) : Int) → ∀ (H : Heap) (locs : List Loc) (ls : Array Slot), zW D A s.heap s [(hmo, .inr (7, [.ref ha, .ref hth, .ref hpa, .int (zI (((c9 : Nat) : Int))), .ref hsl, .ref hhe, .ref hpd, .int (zI (pd)), .int (zI (ap)), .ref hor, .int (zI (od))])), (ha, .inl (D.2 1, 86, .inr (.inl (fNow S)))), (hpa, .inl (D.2 1, 516, .inr (.inl (fFl 516 (shk P m9)))))] H locs → lv_has ls 2 [(1, .int (zI (x1))), (0, .ref hmo)] → W p l e (zR (1)) s m [.ref hmo].toArray below meth c H locs 0 0 (MQ below ((zQv D (fun W1 => W1 = (wMh D hmo ha hth hpa hsl hhe hpd hor pd ap od (min 6 (c9 + 1)) (hP P c9 S) S))) A) [.ref hmo].toArray s 0 0 A) (F0 m 11 ls []) := by
      intro n_11
      induction n_11 with
      | zero => intro m9 x1 h_; exact absurd h_ (Nat.not_lt_zero _)
      | succ n_11 ih_11 =>
        intro m9 x1 hf_11 hm9 ex1 H locs ls w hl
        subst ex1
        have hl : lv_has ls 2 [(1, .int (zI (((m9 : Nat) : Int)))), (0, .ref hmo)] := hl
        refine lv_iload_n hx hb dX7_records_11 rfl (lv_at hl 0 rfl) ?_
        refine lv_sipush (v := zI 430) hx hb dX7_records_12 (by decide +kernel) ?_
        refine z_icmp_ge (tgt := 39) hx hb (by omega) (by omega) dX7_records_15 (by decide) (fun c15 => ?_) (fun c15 => ?_)
        · skip
          have e9 : m9 = 430 := (by omega)
          subst e9
          have w : zW D A s.heap s [(hmo, .inr (7, [.ref ha, .ref hth, .ref hpa, .int (zI (((c9 : Nat) : Int))), .ref hsl, .ref hhe, .ref hpd, .int (zI (pd)), .int (zI (ap)), .ref hor, .int (zI (od))])), (ha, .inl (D.2 1, 86, .inr (.inl (fNow S)))), (hpa, .inl (D.2 1, 516, .inr (.inl (fFl 516 (shf P)))))] H locs := w.to (by rw [shk_e])
          refine lv_aload_n hx hb dX7_records_39 rfl (lv_at hl 1 rfl) ?_
          refine lv_dup hx hb dX7_records_40 rfl ?_
          refine z_get hx hb hown hts w inX7 0 3 rfl rfl (by decide) f_44 rfl rfl dX7_records_41 ?_
          refine lv_iconst (v := zI 1) hx hb dX7_records_44 rfl ?_
          refine z_isub hx hb dX7_records_45 ?_
          refine z_put hx hb hown hts w inX7 tyX7 tyX7_ok nmX7 0 3 rfl rfl (by decide) f_44 rfl rfl (ty := .int) rfl rfl rfl (Nat.le_of_ble_eq_true rfl) dX7_records_46 (fun H locs w => ?_)
          have w : zW D A s.heap s [(hmo, .inr (7, [.ref ha, .ref hth, .ref hpa, .int (zI (((c9 : Nat) : Int) - 1)), .ref hsl, .ref hhe, .ref hpd, .int (zI (pd)), .int (zI (ap)), .ref hor, .int (zI (od))])), (ha, .inl (D.2 1, 86, .inr (.inl (fNow S)))), (hpa, .inl (D.2 1, 516, .inr (.inl (fFl 516 (shf P)))))] H locs := w
          refine lv_aload_n hx hb dX7_records_49 rfl (lv_at hl 1 rfl) ?_
          refine z_get hx hb hown hts w inX7 0 0 rfl rfl (by decide) f_7 rfl rfl dX7_records_50 ?_
          refine lv_iconst (v := zI 0) hx hb dX7_records_53 rfl ?_
          refine lv_aload_n hx hb dX7_records_54 rfl (lv_at hl 1 rfl) ?_
          refine z_get hx hb hown hts w inX7 0 2 rfl rfl (by decide) f_16 rfl rfl dX7_records_55 ?_
          refine lv_bipush (v := zI 86) hx hb dX7_records_58 (by decide +kernel) ?_
          refine lv_aload_n hx hb dX7_records_60 rfl (lv_at hl 1 rfl) ?_
          refine z_get hx hb hown hts w inX7 0 3 rfl rfl (by decide) f_44 rfl rfl dX7_records_61 ?_
          refine z_imul hx hb dX7_records_64 ?_
          refine W.eq (g2 := F0 m 65 ls [.int (zI (((86 * min c9 5 : Nat) : Int))), .ref hpa, .int (zI (0)), .ref ha]) (by rw [show 86 * (((c9 : Nat) : Int) - 1) = ((86 * min c9 5 : Nat) : Int) by omega]) ?_
          refine z_S_v (As := [.ref ha, .int (zI (0)), .ref hpa, .int (zI (((86 * min c9 5 : Nat) : Int)))]) (rest := []) (Wr := [(hmo, .inr (7, [.ref ha, .ref hth, .ref hpa, .int (zI (((c9 : Nat) : Int) - 1)), .ref hsl, .ref hhe, .ref hpd, .int (zI (pd)), .int (zI (ap)), .ref hor, .int (zI (od))]))]) ⟨hx, hb, hml, hown, hts⟩ (c_X7_lays l D ha hpa 86 516 0 (86 * min c9 5) (fNow S) (fFl 516 (shf P)) (by omega) (by omega) (by omega) (by omega)) (va_cwS 4 hts gX7_records_X7_lays rfl rfl rfl (by decide +kernel) ⟨Nat.le_of_ble_eq_true rfl, Nat.le_of_ble_eq_true rfl⟩) w [1, 2] rfl (by decide) [0] rfl (by decide) (by decide) rfl hl.1 rfl (lv_room (Nat.le_of_ble_eq_true rfl)) dX7_records_65 ⟨Nat.zero_le _, Nat.zero_le _⟩ (fun W1 H locs hp w => ?_)
          subst hp
          have w : zW D A s.heap s [(hmo, .inr (7, [.ref ha, .ref hth, .ref hpa, .int (zI (((c9 : Nat) : Int) - 1)), .ref hsl, .ref hhe, .ref hpd, .int (zI (pd)), .int (zI (ap)), .ref hor, .int (zI (od))])), (ha, .inl (D.2 1, 86, .inr (.inl (fNow S)))), (hpa, .inl (D.2 1, 516, .inr (.inl (fLy (fNow S) (fFl 516 (shf P)) 0 (86 * min c9 5) 86))))] H locs := w.sub [0, 1, 2] (by decide) rfl
          have w : zW D A s.heap s [(hmo, .inr (7, [.ref ha, .ref hth, .ref hpa, .int (zI (((c9 : Nat) : Int) - 1)), .ref hsl, .ref hhe, .ref hpd, .int (zI (pd)), .int (zI (ap)), .ref hor, .int (zI (od))])), (ha, .inl (D.2 1, 86, .inr (.inl (fNow S)))), (hpa, .inl (D.2 1, 516, .inr (.inl (fFl 516 (hP P c9 S)))))] H locs := w.to (by rw [show hP P c9 S = lay (shf P) (86 * min c9 5) S by unfold hP; first | rw [if_pos (by omega)] | rw [if_neg (by omega)], ← fLy_in (n1 := 86) (by omega) (by omega)]; rfl)
          refine lv_aload_n hx hb dX7_records_68 rfl (lv_at hl 1 rfl) ?_
          refine lv_dup hx hb dX7_records_69 rfl ?_
          refine z_get hx hb hown hts w inX7 0 3 rfl rfl (by decide) f_44 rfl rfl dX7_records_70 ?_
          refine lv_iconst (v := zI 1) hx hb dX7_records_73 rfl ?_
          refine z_iadd hx hb dX7_records_74 ?_
          refine W.eq (g2 := F0 m 75 ls [.int (zI (((min 6 (c9 + 1) : Nat) : Int))), .ref hmo]) (by rw [show (((c9 : Nat) : Int) - 1) + 1 = ((min 6 (c9 + 1) : Nat) : Int) by omega]) ?_
          refine z_put hx hb hown hts w inX7 tyX7 tyX7_ok nmX7 0 3 rfl rfl (by decide) f_44 rfl rfl (ty := .int) rfl rfl rfl (Nat.le_of_ble_eq_true rfl) dX7_records_75 (fun H locs w => ?_)
          have w : zW D A s.heap s [(hmo, .inr (7, [.ref ha, .ref hth, .ref hpa, .int (zI (((min 6 (c9 + 1) : Nat) : Int))), .ref hsl, .ref hhe, .ref hpd, .int (zI (pd)), .int (zI (ap)), .ref hor, .int (zI (od))])), (ha, .inl (D.2 1, 86, .inr (.inl (fNow S)))), (hpa, .inl (D.2 1, 516, .inr (.inl (fFl 516 (hP P c9 S)))))] H locs := w
          exact z_vret hx hb hr hlocks w dX7_records_78 rfl
        · skip
          refine lv_aload_n hx hb dX7_records_18 rfl (lv_at hl 1 rfl) ?_
          refine z_get hx hb hown hts w inX7 0 2 rfl rfl (by decide) f_16 rfl rfl dX7_records_19 ?_
          refine lv_iload_n hx hb dX7_records_22 rfl (lv_at hl 0 rfl) ?_
          refine lv_aload_n hx hb dX7_records_23 rfl (lv_at hl 1 rfl) ?_
          refine z_get hx hb hown hts w inX7 0 2 rfl rfl (by decide) f_16 rfl rfl dX7_records_24 ?_
          refine lv_iload_n hx hb dX7_records_27 rfl (lv_at hl 0 rfl) ?_
          refine lv_bipush (v := zI 86) hx hb dX7_records_28 (by decide +kernel) ?_
          refine z_iadd hx hb dX7_records_30 ?_
          refine z_lald hx hb w 2 rfl (m9 + 86) (by omega) (by decide) (by omega) (v := (zL (shk P m9 (m9 + 86)))) (if_pos (by omega)) dX7_records_31 ?_
          refine z_last hx hb w 2 rfl m9 (by omega) (by decide) rfl dX7_records_32 (fFl 516 (shk P (m9 + 1))) (fun i hi => fFl_s hi) (fun H locs w => ?_)
          have w : zW D A s.heap s [(hmo, .inr (7, [.ref ha, .ref hth, .ref hpa, .int (zI (((c9 : Nat) : Int))), .ref hsl, .ref hhe, .ref hpd, .int (zI (pd)), .int (zI (ap)), .ref hor, .int (zI (od))])), (ha, .inl (D.2 1, 86, .inr (.inl (fNow S)))), (hpa, .inl (D.2 1, 516, .inr (.inl (fFl 516 (shk P (m9 + 1))))))] H locs := w
          refine z_iinc (lv' := [(1, .int (zI (((m9 : Nat) : Int) + 1))), (0, .ref hmo)]) hx hb dX7_records_33 hl (k := 0) rfl (by decide) rfl (fun ls hl => ?_)
          refine lv_goto (tgt := 11) hx hb dX7_records_36 (by decide) ?_
          exact ih_11 (m9 + 1) _ (by omega) (by omega) (by first | rfl | omega) _ _ _ w (lv_sub hl [0, 1] rfl)
    exact lp_11 ((430 - 0) + 1) 0 _ (by omega) (by omega) (by first | rfl | omega) _ _ _ (w.to (by rw [shk_0])) (lv_sub hl [0, 1] rfl)
set_option maxHeartbeats 6000000 in
set_option maxRecDepth 100000 in
theorem c_X7_undo0 (l : Launch) (D : zD) (hmo ha hth hpa hsl hhe hpd hor : Nat) (pd ap od : Int) (P S : Nat → Int) : zM l yX7_undo wsX7_undo (zR (1)) zE0 D [.ref hmo] (wMh D hmo ha hth hpa hsl hhe hpd hor pd ap od 0 P S) (zQi D (fun r W1 => r = zI (-5) ∧ W1 = (wMh D hmo ha hth hpa hsl hhe hpd hor pd ap od 0 P S))) := by
  refine zM.of (cc := cX7_undo) (maxL := 1) (ret := (some .int)) (by decide) rfl (Nat.le_of_ble_eq_true rfl) ?_
  intro p e s m below meth c A hx hb hml hown hts hr hlocks hE hnm w ls hl
  have hown : s.vm.findClass RX7 = some m.cls := hown
  have hl : lv_has ls 1 [(0, .ref hmo)] := hl
  have f_44 : (Cond.fieldLink RX7 44 "RelaxedStepsModel" "kept" "I").before _ s = true := hts _ (by decide +kernel)
  have inX7 : ∀ w ∈ u_ws RX7 TX7 11, w ∈ wsX7_undo := by decide +kernel
  have w : zW D A s.heap s [(hmo, .inr (7, [.ref ha, .ref hth, .ref hpa, .int (zI (0)), .ref hsl, .ref hhe, .ref hpd, .int (zI (pd)), .int (zI (ap)), .ref hor, .int (zI (od))])), (ha, .inl (D.2 1, 86, .inr (.inl (fNow S)))), (hpa, .inl (D.2 1, 516, .inr (.inl (fFl 516 P))))] s.heap [] := w
  refine lv_aload_n hx hb dX7_undo_0 rfl (lv_at hl 0 rfl) ?_
  refine z_get hx hb hown hts w inX7 0 3 rfl rfl (by decide) f_44 rfl rfl dX7_undo_1 ?_
  refine z_if_ne (tgt := 10) hx hb (by omega) dX7_undo_4 (by decide) (fun c4 => ?_) (fun c4 => ?_)
  · skip
    exact absurd c4 (by omega)
  · skip
    refine lv_bipush (v := zI (-5)) hx hb dX7_undo_7 (by decide +kernel) ?_
    exact z_iret hx hb hr hlocks w dX7_undo_9 ⟨rfl, rfl⟩
set_option maxHeartbeats 6000000 in
set_option maxRecDepth 100000 in
theorem c_X7_undoS (l : Launch) (D : zD) (hmo ha hth hpa hsl hhe hpd hor : Nat) (pd ap od : Int) (c9 : Nat) (P S : Nat → Int) (hc9 : c9 + 1 ≤ 6) : zM l yX7_undo wsX7_undo (zR (1)) zE0 D [.ref hmo] (wMh D hmo ha hth hpa hsl hhe hpd hor pd ap od (c9 + 1) P S) (zQi D (fun r W1 => r = zI ((c9 : Nat) : Int) ∧ W1 = (wMh D hmo ha hth hpa hsl hhe hpd hor pd ap od c9 P (fun k => P (86 * c9 + k))))) := by
  refine zM.of (cc := cX7_undo) (maxL := 1) (ret := (some .int)) (by decide) rfl (Nat.le_of_ble_eq_true rfl) ?_
  intro p e s m below meth c A hx hb hml hown hts hr hlocks hE hnm w ls hl
  have hown : s.vm.findClass RX7 = some m.cls := hown
  have hl : lv_has ls 1 [(0, .ref hmo)] := hl
  have f_44 : (Cond.fieldLink RX7 44 "RelaxedStepsModel" "kept" "I").before _ s = true := hts _ (by decide +kernel)
  have f_16 : (Cond.fieldLink RX7 16 "RelaxedStepsModel" "past" "[J").before _ s = true := hts _ (by decide +kernel)
  have f_7 : (Cond.fieldLink RX7 7 "RelaxedStepsModel" "now" "[J").before _ s = true := hts _ (by decide +kernel)
  have inX7 : ∀ w ∈ u_ws RX7 TX7 11, w ∈ wsX7_undo := by decide +kernel
  have w : zW D A s.heap s [(hmo, .inr (7, [.ref ha, .ref hth, .ref hpa, .int (zI (((c9 + 1 : Nat) : Int))), .ref hsl, .ref hhe, .ref hpd, .int (zI (pd)), .int (zI (ap)), .ref hor, .int (zI (od))])), (ha, .inl (D.2 1, 86, .inr (.inl (fNow S)))), (hpa, .inl (D.2 1, 516, .inr (.inl (fFl 516 P))))] s.heap [] := w
  refine lv_aload_n hx hb dX7_undo_0 rfl (lv_at hl 0 rfl) ?_
  refine z_get hx hb hown hts w inX7 0 3 rfl rfl (by decide) f_44 rfl rfl dX7_undo_1 ?_
  refine z_if_ne (tgt := 10) hx hb (by omega) dX7_undo_4 (by decide) (fun c4 => ?_) (fun c4 => ?_)
  · skip
    refine lv_aload_n hx hb dX7_undo_10 rfl (lv_at hl 0 rfl) ?_
    refine lv_dup hx hb dX7_undo_11 rfl ?_
    refine z_get hx hb hown hts w inX7 0 3 rfl rfl (by decide) f_44 rfl rfl dX7_undo_12 ?_
    refine lv_iconst (v := zI 1) hx hb dX7_undo_15 rfl ?_
    refine z_isub hx hb dX7_undo_16 ?_
    refine W.eq (g2 := F0 m 17 ls [.int (zI (((c9 : Nat) : Int))), .ref hmo]) (by rw [show ((c9 + 1 : Nat) : Int) - 1 = ((c9 : Nat) : Int) by omega]) ?_
    refine z_put hx hb hown hts w inX7 tyX7 tyX7_ok nmX7 0 3 rfl rfl (by decide) f_44 rfl rfl (ty := .int) rfl rfl rfl (Nat.le_of_ble_eq_true rfl) dX7_undo_17 (fun H locs w => ?_)
    have w : zW D A s.heap s [(hmo, .inr (7, [.ref ha, .ref hth, .ref hpa, .int (zI (((c9 : Nat) : Int))), .ref hsl, .ref hhe, .ref hpd, .int (zI (pd)), .int (zI (ap)), .ref hor, .int (zI (od))])), (ha, .inl (D.2 1, 86, .inr (.inl (fNow S)))), (hpa, .inl (D.2 1, 516, .inr (.inl (fFl 516 P))))] H locs := w
    refine lv_aload_n hx hb dX7_undo_20 rfl (lv_at hl 0 rfl) ?_
    refine z_get hx hb hown hts w inX7 0 2 rfl rfl (by decide) f_16 rfl rfl dX7_undo_21 ?_
    refine lv_bipush (v := zI 86) hx hb dX7_undo_24 (by decide +kernel) ?_
    refine lv_aload_n hx hb dX7_undo_26 rfl (lv_at hl 0 rfl) ?_
    refine z_get hx hb hown hts w inX7 0 3 rfl rfl (by decide) f_44 rfl rfl dX7_undo_27 ?_
    refine z_imul hx hb dX7_undo_30 ?_
    refine lv_aload_n hx hb dX7_undo_31 rfl (lv_at hl 0 rfl) ?_
    refine z_get hx hb hown hts w inX7 0 0 rfl rfl (by decide) f_7 rfl rfl dX7_undo_32 ?_
    refine lv_iconst (v := zI 0) hx hb dX7_undo_35 rfl ?_
    refine W.eq (g2 := F0 m 36 ls [.int (zI (0)), .ref ha, .int (zI (((86 * c9 : Nat) : Int))), .ref hpa]) (by rw [show 86 * ((c9 : Nat) : Int) = ((86 * c9 : Nat) : Int) by omega]) ?_
    refine z_S_v (As := [.ref hpa, .int (zI (((86 * c9 : Nat) : Int))), .ref ha, .int (zI (0))]) (rest := []) (Wr := [(hmo, .inr (7, [.ref ha, .ref hth, .ref hpa, .int (zI (((c9 : Nat) : Int))), .ref hsl, .ref hhe, .ref hpd, .int (zI (pd)), .int (zI (ap)), .ref hor, .int (zI (od))]))]) ⟨hx, hb, hml, hown, hts⟩ (c_X7_lays l D hpa ha 516 86 (86 * c9) 0 (fFl 516 P) (fNow S) (by omega) (by omega) (by omega) (by omega)) (va_cwS 4 hts gX7_undo_X7_lays rfl rfl rfl (by decide +kernel) ⟨Nat.le_of_ble_eq_true rfl, Nat.le_of_ble_eq_true rfl⟩) w [2, 1] rfl (by decide) [0] rfl (by decide) (by decide) rfl hl.1 rfl (lv_room (Nat.le_of_ble_eq_true rfl)) dX7_undo_36 ⟨Nat.zero_le _, Nat.zero_le _⟩ (fun W1 H locs hp w => ?_)
    subst hp
    have w : zW D A s.heap s [(hmo, .inr (7, [.ref ha, .ref hth, .ref hpa, .int (zI (((c9 : Nat) : Int))), .ref hsl, .ref hhe, .ref hpd, .int (zI (pd)), .int (zI (ap)), .ref hor, .int (zI (od))])), (ha, .inl (D.2 1, 86, .inr (.inl (fLy (fFl 516 P) (fNow S) (86 * c9) 0 86)))), (hpa, .inl (D.2 1, 516, .inr (.inl (fFl 516 P))))] H locs := w.sub [0, 2, 1] (by decide) rfl
    have w : zW D A s.heap s [(hmo, .inr (7, [.ref ha, .ref hth, .ref hpa, .int (zI (((c9 : Nat) : Int))), .ref hsl, .ref hhe, .ref hpd, .int (zI (pd)), .int (zI (ap)), .ref hor, .int (zI (od))])), (ha, .inl (D.2 1, 86, .inr (.inl (fNow (fun k => P (86 * c9 + k)))))), (hpa, .inl (D.2 1, 516, .inr (.inl (fFl 516 P))))] H locs := w.to (by rw [fLy_out (by omega)])
    refine lv_aload_n hx hb dX7_undo_39 rfl (lv_at hl 0 rfl) ?_
    refine z_get hx hb hown hts w inX7 0 3 rfl rfl (by decide) f_44 rfl rfl dX7_undo_40 ?_
    exact z_iret hx hb hr hlocks w dX7_undo_43 ⟨rfl, rfl⟩
  · skip
    exact absurd c4 (by omega)
set_option maxHeartbeats 6000000 in
set_option maxRecDepth 100000 in
theorem c_X7_item (l : Launch) (D : zD) (hmo ha hth hpa hsl hhe hpd hor : Nat) (pd ap od : Int) (c9 : Nat) (P S : Nat → Int) (hc9 : c9 ≤ 6) (B : Int) (hB : B ≤ 2000000000) (hokS : OkS B S) (w0 a b c0 : Int) (hw0 : zB w0) (hza : zB a) (hzb : zB b) (hc0 : zB c0) : zM l yX7_item wsX7_item (zR (5)) zE0 D [.ref hmo, .int (zI (w0)), .int (zI (a)), .int (zI (b)), .int (zI (c0))] (wMh D hmo ha hth hpa hsl hhe hpd hor pd ap od c9 P S) (zQi D (fun r W1 => r = zI (aItem S w0 a b c0).1 ∧ W1 = (wMh D hmo ha hth hpa hsl hhe hpd hor pd ap od (eC (aItem S w0 a b c0).1 c9) (eP (aItem S w0 a b c0).1 P c9 S) (aItem S w0 a b c0).2))) := by
  refine zM.of (cc := cX7_item) (maxL := 6) (ret := (some .int)) (by decide) rfl (Nat.le_of_ble_eq_true rfl) ?_
  intro p e s m below meth c A hx hb hml hown hts hr hlocks hE hnm w ls hl
  have hown : s.vm.findClass RX7 = some m.cls := hown
  have hl : lv_has ls 6 [(0, .ref hmo), (1, .int (zI (w0))), (2, .int (zI (a))), (3, .int (zI (b))), (4, .int (zI (c0)))] := hl
  obtain ⟨hok, hokm, hokb, hsc, hbe⟩ := id hokS
  have hokp := hok
  have hn := zn_eq hok
  have h16 := zn_le hok
  have hlim := hok.2.2
  have hm1 := hokm
  unfold OkM mu at hm1
  have hbd := sBd_b hok hokm
  have hkb := hokb.1
  have hbw := sBw_b hok
  have hqq := hok.1
  have hmb := mCome_b S w0 a b c0
  have w : zW D A s.heap s [(hmo, .inr (7, [.ref ha, .ref hth, .ref hpa, .int (zI (((c9 : Nat) : Int))), .ref hsl, .ref hhe, .ref hpd, .int (zI (pd)), .int (zI (ap)), .ref hor, .int (zI (od))])), (ha, .inl (D.2 1, 86, .inr (.inl (fNow S)))), (hpa, .inl (D.2 1, 516, .inr (.inl (fFl 516 P))))] s.heap [] := w
  refine lv_aload_n hx hb dX7_item_0 rfl (lv_at hl 0 rfl) ?_
  refine lv_iload_n hx hb dX7_item_1 rfl (lv_at hl 1 rfl) ?_
  refine lv_iload_n hx hb dX7_item_2 rfl (lv_at hl 2 rfl) ?_
  refine lv_iload_n hx hb dX7_item_3 rfl (lv_at hl 3 rfl) ?_
  refine lv_iload hx hb dX7_item_4 (lv_at hl 4 rfl) ?_
  refine z_V_i (As := [.int (zI (w0)), .int (zI (a)), .int (zI (b)), .int (zI (c0))]) (rest := []) (Wr := [(hpa, .inl (D.2 1, 516, .inr (.inl (fFl 516 P))))]) ⟨hx, hb, hml, hown, hts⟩ (c_X7_mayCome l D hmo ha hth hpa hsl hhe hpd hor ((c9 : Nat) : Int) pd ap od S hok w0 a b c0 (by omega) (by omega) (by omega) (by omega)) (cwV 4 hts gX7_item_X7_mayCome rfl rfl rfl (by decide +kernel) ⟨Nat.le_of_ble_eq_true rfl, Nat.le_of_ble_eq_true rfl⟩) w (q0 := 0) rfl rfl rfl [0, 1] rfl (by decide) [2] rfl (by decide) (by decide) rfl hl.1 rfl (lv_room (Nat.le_of_ble_eq_true rfl)) dX7_item_6 ⟨Nat.zero_le _, Nat.zero_le _⟩ (fun r W1 H locs hp w => ?_)
  obtain ⟨rfl, rfl⟩ := hp
  have w : zW D A s.heap s [(hmo, .inr (7, [.ref ha, .ref hth, .ref hpa, .int (zI (((c9 : Nat) : Int))), .ref hsl, .ref hhe, .ref hpd, .int (zI (pd)), .int (zI (ap)), .ref hor, .int (zI (od))])), (ha, .inl (D.2 1, 86, .inr (.inl (fNow S)))), (hpa, .inl (D.2 1, 516, .inr (.inl (fFl 516 P))))] H locs := w.sub [1, 2, 0] (by decide) rfl
  refine lv_istore (lv' := [(5, .int (zI (mCome S w0 a b c0))), (0, .ref hmo), (1, .int (zI (w0))), (2, .int (zI (a))), (3, .int (zI (b))), (4, .int (zI (c0)))]) hx hb dX7_item_9 hl (by decide) rfl (fun ls hl => ?_)
  refine lv_iload hx hb dX7_item_11 (lv_at hl 0 rfl) ?_
  refine z_if_eq (tgt := 19) hx hb (by omega) dX7_item_13 (by decide) (fun c13 => ?_) (fun c13 => ?_)
  · skip
    obtain ⟨hi1, hi2, hi3⟩ := mCome_ok hok (show mCome S w0 a b c0 = 0 by omega)
    refine lv_aload_n hx hb dX7_item_19 rfl (lv_at hl 1 rfl) ?_
    refine z_V_v (As := []) (rest := []) (Wr := []) ⟨hx, hb, hml, hown, hts⟩ (c_X7_records l D hmo ha hth hpa hsl hhe hpd hor pd ap od c9 P S hc9) (cwV 0 hts gX7_item_X7_records rfl rfl rfl (by decide +kernel) ⟨Nat.le_of_ble_eq_true rfl, Nat.le_of_ble_eq_true rfl⟩) w (q0 := 0) rfl rfl rfl [0, 1, 2] rfl (by decide) [] rfl (by decide) (by decide) rfl hl.1 rfl (lv_room (Nat.le_of_ble_eq_true rfl)) dX7_item_20 ⟨Nat.zero_le _, Nat.zero_le _⟩ (fun W1 H locs hp w => ?_)
    subst hp
    have w : zW D A s.heap s [(hmo, .inr (7, [.ref ha, .ref hth, .ref hpa, .int (zI (((min 6 (c9 + 1) : Nat) : Int))), .ref hsl, .ref hhe, .ref hpd, .int (zI (pd)), .int (zI (ap)), .ref hor, .int (zI (od))])), (ha, .inl (D.2 1, 86, .inr (.inl (fNow S)))), (hpa, .inl (D.2 1, 516, .inr (.inl (fFl 516 (hP P c9 S)))))] H locs := w.sub [0, 1, 2] (by decide) rfl
    refine lv_aload_n hx hb dX7_item_23 rfl (lv_at hl 1 rfl) ?_
    refine lv_iload_n hx hb dX7_item_24 rfl (lv_at hl 2 rfl) ?_
    refine lv_iload_n hx hb dX7_item_25 rfl (lv_at hl 3 rfl) ?_
    refine lv_iload_n hx hb dX7_item_26 rfl (lv_at hl 4 rfl) ?_
    refine lv_iload hx hb dX7_item_27 (lv_at hl 5 rfl) ?_
    refine z_V_i (As := [.int (zI (w0)), .int (zI (a)), .int (zI (b)), .int (zI (c0))]) (rest := []) (Wr := [(hpa, .inl (D.2 1, 516, .inr (.inl (fFl 516 (hP P c9 S)))))]) ⟨hx, hb, hml, hown, hts⟩ (c_X7_comes l D hmo ha hth hpa hsl hhe hpd hor ((min 6 (c9 + 1) : Nat) : Int) pd ap od S hok hokm w0 a b c0 (by omega) (by omega) (by omega) (by omega) (by omega) (by omega)) (cwV 4 hts gX7_item_X7_comes rfl rfl rfl (by decide +kernel) ⟨Nat.le_of_ble_eq_true rfl, Nat.le_of_ble_eq_true rfl⟩) w (q0 := 0) rfl rfl rfl [0, 1] rfl (by decide) [2] rfl (by decide) (by decide) rfl hl.1 rfl (lv_room (Nat.le_of_ble_eq_true rfl)) dX7_item_29 ⟨Nat.zero_le _, Nat.zero_le _⟩ (fun r W1 H locs hp w => ?_)
    obtain ⟨rfl, rfl⟩ := hp
    have w : zW D A s.heap s [(hmo, .inr (7, [.ref ha, .ref hth, .ref hpa, .int (zI (((min 6 (c9 + 1) : Nat) : Int))), .ref hsl, .ref hhe, .ref hpd, .int (zI (pd)), .int (zI (ap)), .ref hor, .int (zI (od))])), (ha, .inl (D.2 1, 86, .inr (.inl (fNow (oItem S w0 a b c0))))), (hpa, .inl (D.2 1, 516, .inr (.inl (fFl 516 (hP P c9 S)))))] H locs := w.sub [1, 2, 0] (by decide) rfl
    exact z_iret hx hb hr hlocks w dX7_item_32 (by rw [hi1]; exact ⟨rfl, by rw [eC_ok (by omega), eP_ok (by omega)]; rfl⟩)
  · skip
    refine lv_iload hx hb dX7_item_16 (lv_at hl 0 rfl) ?_
    exact z_iret hx hb hr hlocks w dX7_item_18 (by rw [mCome_no hok (w := w0) (a := a) (b := b) (c := c0) (by omega)]; exact ⟨rfl, by rw [eC, eP, if_pos (by omega), if_pos (by omega)]; rfl⟩)
set_option maxHeartbeats 6000000 in
set_option maxRecDepth 100000 in
theorem c_X7_isItem (l : Launch) (D : zD) (hmo ha hth hpa hsl hhe hpd hor : Nat) (kp pd ap od : Int) (S : Nat → Int) (hok : OkP S) (i : Int) (hi : zB i) : zM l yX7_isItem wsX7_isItem (zR (1)) zE0 D [.ref hmo, .int (zI (i))] (wMb D hmo ha hth hpa hsl hhe hpd hor kp pd ap od S) (zQi D (fun r W1 => r = zI (zb (0 ≤ i ∧ i ≤ S 0 - 1)) ∧ W1 = (wMb D hmo ha hth hpa hsl hhe hpd hor kp pd ap od S))) := by
  refine zM.of (cc := cX7_isItem) (maxL := 2) (ret := (some .boolean)) (by decide) rfl (Nat.le_of_ble_eq_true rfl) ?_
  intro p e s m below meth c A hx hb hml hown hts hr hlocks hE hnm w ls hl
  have hown : s.vm.findClass RX7 = some m.cls := hown
  have hl : lv_has ls 2 [(0, .ref hmo), (1, .int (zI (i)))] := hl
  have f_7 : (Cond.fieldLink RX7 7 "RelaxedStepsModel" "now" "[J").before _ s = true := hts _ (by decide +kernel)
  have inX7 : ∀ w ∈ u_ws RX7 TX7 11, w ∈ wsX7_isItem := by decide +kernel
  have hn := zn_eq hok
  have h16 := zn_le hok
  have hlim := hok.2.2
  have w : zW D A s.heap s [(hmo, .inr (7, [.ref ha, .ref hth, .ref hpa, .int (zI (kp)), .ref hsl, .ref hhe, .ref hpd, .int (zI (pd)), .int (zI (ap)), .ref hor, .int (zI (od))])), (ha, .inl (D.2 1, 86, .inr (.inl (fNow S))))] s.heap [] := w
  refine lv_iload_n hx hb dX7_isItem_0 rfl (lv_at hl 1 rfl) ?_
  refine lv_iconst (v := zI 0) hx hb dX7_isItem_1 rfl ?_
  refine lv_aload_n hx hb dX7_isItem_2 rfl (lv_at hl 0 rfl) ?_
  refine z_get hx hb hown hts w inX7 0 0 rfl rfl (by decide) f_7 rfl rfl dX7_isItem_3 ?_
  refine lv_iconst (v := zI 0) hx hb dX7_isItem_6 rfl ?_
  refine z_lald hx hb w 1 rfl 0 (by omega) (by decide) rfl (v := (zL (S 0))) (if_pos (by omega)) dX7_isItem_7 ?_
  refine z_l2i hx hb dX7_isItem_8 ?_
  refine lv_iconst (v := zI 1) hx hb dX7_isItem_9 rfl ?_
  refine z_isub hx hb dX7_isItem_10 ?_
  refine z_S_i (As := [.int (zI (i)), .int (zI (0)), .int (zI ((S 0) - 1))]) (rest := []) (Wr := [(hmo, .inr (7, [.ref ha, .ref hth, .ref hpa, .int (zI (kp)), .ref hsl, .ref hhe, .ref hpd, .int (zI (pd)), .int (zI (ap)), .ref hor, .int (zI (od))])), (ha, .inl (D.2 1, 86, .inr (.inl (fNow S))))]) ⟨hx, hb, hml, hown, hts⟩ (c_X7_in l D i 0 ((S 0) - 1) (by omega) (by omega) (by omega)) (va_cwS 3 hts gX7_isItem_X7_in rfl rfl rfl (by decide +kernel) ⟨Nat.le_of_ble_eq_true rfl, Nat.le_of_ble_eq_true rfl⟩) w [] rfl (by decide) [0, 1] rfl (by decide) (by decide) rfl hl.1 rfl (lv_room (Nat.le_of_ble_eq_true rfl)) dX7_isItem_11 ⟨Nat.zero_le _, Nat.zero_le _⟩ (fun r W1 H locs hp w => ?_)
  obtain ⟨rfl, rfl⟩ := hp
  have w : zW D A s.heap s [(hmo, .inr (7, [.ref ha, .ref hth, .ref hpa, .int (zI (kp)), .ref hsl, .ref hhe, .ref hpd, .int (zI (pd)), .int (zI (ap)), .ref hor, .int (zI (od))])), (ha, .inl (D.2 1, 86, .inr (.inl (fNow S))))] H locs := w.sub [0, 1] (by decide) rfl
  exact z_zret hx hb hr hlocks w dX7_isItem_14 (zb_01 _) ⟨rfl, rfl⟩
set_option maxHeartbeats 6000000 in
set_option maxRecDepth 100000 in
theorem c_X7_drop (l : Launch) (D : zD) (hmo ha hth hpa hsl hhe hpd hor : Nat) (pd ap od : Int) (c9 : Nat) (P S : Nat → Int) (hc9 : c9 ≤ 6) (B : Int) (hB : B ≤ 2000000000) (hokS : OkS B S) (i0 : Int) (hi0 : zB i0) : zM l yX7_drop wsX7_drop (zR (5)) zE0 D [.ref hmo, .int (zI (i0))] (wMh D hmo ha hth hpa hsl hhe hpd hor pd ap od c9 P S) (zQi D (fun r W1 => r = zI (aDrop S i0).1 ∧ W1 = (wMh D hmo ha hth hpa hsl hhe hpd hor pd ap od (eC (aDrop S i0).1 c9) (eP (aDrop S i0).1 P c9 S) (aDrop S i0).2))) := by
  refine zM.of (cc := cX7_drop) (maxL := 2) (ret := (some .int)) (by decide) rfl (Nat.le_of_ble_eq_true rfl) ?_
  intro p e s m below meth c A hx hb hml hown hts hr hlocks hE hnm w ls hl
  have hown : s.vm.findClass RX7 = some m.cls := hown
  have hl : lv_has ls 2 [(0, .ref hmo), (1, .int (zI (i0)))] := hl
  obtain ⟨hok, hokm, hokb, hsc, hbe⟩ := id hokS
  have hokp := hok
  have hn := zn_eq hok
  have h16 := zn_le hok
  have hlim := hok.2.2
  have hm1 := hokm
  unfold OkM mu at hm1
  have hbd := sBd_b hok hokm
  have hkb := hokb.1
  have hbw := sBw_b hok
  have hqq := hok.1
  have w : zW D A s.heap s [(hmo, .inr (7, [.ref ha, .ref hth, .ref hpa, .int (zI (((c9 : Nat) : Int))), .ref hsl, .ref hhe, .ref hpd, .int (zI (pd)), .int (zI (ap)), .ref hor, .int (zI (od))])), (ha, .inl (D.2 1, 86, .inr (.inl (fNow S)))), (hpa, .inl (D.2 1, 516, .inr (.inl (fFl 516 P))))] s.heap [] := w
  refine lv_aload_n hx hb dX7_drop_0 rfl (lv_at hl 0 rfl) ?_
  refine lv_iload_n hx hb dX7_drop_1 rfl (lv_at hl 1 rfl) ?_
  refine z_V_i (As := [.int (zI (i0))]) (rest := []) (Wr := [(hpa, .inl (D.2 1, 516, .inr (.inl (fFl 516 P))))]) ⟨hx, hb, hml, hown, hts⟩ (c_X7_isItem l D hmo ha hth hpa hsl hhe hpd hor ((c9 : Nat) : Int) pd ap od S hok i0 (by omega)) (cwV 1 hts gX7_drop_X7_isItem rfl rfl rfl (by decide +kernel) ⟨Nat.le_of_ble_eq_true rfl, Nat.le_of_ble_eq_true rfl⟩) w (q0 := 0) rfl rfl rfl [0, 1] rfl (by decide) [2] rfl (by decide) (by decide) rfl hl.1 rfl (lv_room (Nat.le_of_ble_eq_true rfl)) dX7_drop_2 ⟨Nat.zero_le _, Nat.zero_le _⟩ (fun r W1 H locs hp w => ?_)
  obtain ⟨rfl, rfl⟩ := hp
  have w : zW D A s.heap s [(hmo, .inr (7, [.ref ha, .ref hth, .ref hpa, .int (zI (((c9 : Nat) : Int))), .ref hsl, .ref hhe, .ref hpd, .int (zI (pd)), .int (zI (ap)), .ref hor, .int (zI (od))])), (ha, .inl (D.2 1, 86, .inr (.inl (fNow S)))), (hpa, .inl (D.2 1, 516, .inr (.inl (fFl 516 P))))] H locs := w.sub [1, 2, 0] (by decide) rfl
  refine z_if_ne_b (tgt := 10) hx hb dX7_drop_5 (by decide) (fun c5 => ?_) (fun c5 => ?_)
  · skip
    refine lv_aload_n hx hb dX7_drop_10 rfl (lv_at hl 0 rfl) ?_
    refine z_V_v (As := []) (rest := []) (Wr := []) ⟨hx, hb, hml, hown, hts⟩ (c_X7_records l D hmo ha hth hpa hsl hhe hpd hor pd ap od c9 P S hc9) (cwV 0 hts gX7_drop_X7_records rfl rfl rfl (by decide +kernel) ⟨Nat.le_of_ble_eq_true rfl, Nat.le_of_ble_eq_true rfl⟩) w (q0 := 0) rfl rfl rfl [0, 1, 2] rfl (by decide) [] rfl (by decide) (by decide) rfl hl.1 rfl (lv_room (Nat.le_of_ble_eq_true rfl)) dX7_drop_11 ⟨Nat.zero_le _, Nat.zero_le _⟩ (fun W1 H locs hp w => ?_)
    subst hp
    have w : zW D A s.heap s [(hmo, .inr (7, [.ref ha, .ref hth, .ref hpa, .int (zI (((min 6 (c9 + 1) : Nat) : Int))), .ref hsl, .ref hhe, .ref hpd, .int (zI (pd)), .int (zI (ap)), .ref hor, .int (zI (od))])), (ha, .inl (D.2 1, 86, .inr (.inl (fNow S)))), (hpa, .inl (D.2 1, 516, .inr (.inl (fFl 516 (hP P c9 S)))))] H locs := w.sub [0, 1, 2] (by decide) rfl
    refine lv_aload_n hx hb dX7_drop_14 rfl (lv_at hl 0 rfl) ?_
    refine lv_iload_n hx hb dX7_drop_15 rfl (lv_at hl 1 rfl) ?_
    have hi9 : 0 ≤ i0 := (by omega)
    refine W.eq (g2 := F0 m 16 ls [.int (zI (((i0.toNat : Nat) : Int))), .ref hmo]) (by rw [Int.toNat_of_nonneg hi9]) ?_
    refine z_V_i (As := [.int (zI (((i0.toNat : Nat) : Int)))]) (rest := []) (Wr := [(hpa, .inl (D.2 1, 516, .inr (.inl (fFl 516 (hP P c9 S)))))]) ⟨hx, hb, hml, hown, hts⟩ (c_X7_drops l D hmo ha hth hpa hsl hhe hpd hor ((min 6 (c9 + 1) : Nat) : Int) pd ap od S hok hokm i0.toNat (by omega)) (cwV 1 hts gX7_drop_X7_drops rfl rfl rfl (by decide +kernel) ⟨Nat.le_of_ble_eq_true rfl, Nat.le_of_ble_eq_true rfl⟩) w (q0 := 0) rfl rfl rfl [0, 1] rfl (by decide) [2] rfl (by decide) (by decide) rfl hl.1 rfl (lv_room (Nat.le_of_ble_eq_true rfl)) dX7_drop_16 ⟨Nat.zero_le _, Nat.zero_le _⟩ (fun r W1 H locs hp w => ?_)
    obtain ⟨rfl, rfl⟩ := hp
    have w : zW D A s.heap s [(hmo, .inr (7, [.ref ha, .ref hth, .ref hpa, .int (zI (((min 6 (c9 + 1) : Nat) : Int))), .ref hsl, .ref hhe, .ref hpd, .int (zI (pd)), .int (zI (ap)), .ref hor, .int (zI (od))])), (ha, .inl (D.2 1, 86, .inr (.inl (fNow (oDrop S i0.toNat))))), (hpa, .inl (D.2 1, 516, .inr (.inl (fFl 516 (hP P c9 S)))))] H locs := w.sub [1, 2, 0] (by decide) rfl
    exact z_iret hx hb hr hlocks w dX7_drop_19 (by rw [show aDrop S i0 = (S 0 - 1, oDrop S i0.toNat) from if_pos c5]; exact ⟨rfl, by rw [eC_ok (show 0 ≤ S 0 - 1 by omega), eP_ok (show 0 ≤ S 0 - 1 by omega)]; rfl⟩)
  · skip
    refine lv_iconst (v := zI (-1)) hx hb dX7_drop_8 rfl ?_
    exact z_iret hx hb hr hlocks w dX7_drop_9 (by rw [show aDrop S i0 = (-1, S) from if_neg c5]; exact ⟨rfl, rfl⟩)
set_option maxHeartbeats 6000000 in
set_option maxRecDepth 100000 in
theorem c_X7_limit (l : Launch) (D : zD) (hmo ha hth hpa hsl hhe hpd hor : Nat) (pd ap od : Int) (c9 : Nat) (P S : Nat → Int) (hc9 : c9 ≤ 6) (B : Int) (hB : B ≤ 2000000000) (hokS : OkS B S) (d0 v0 : Int) (hd0 : zB d0) (hv0 : zB v0) : zM l yX7_limit wsX7_limit (zR (5)) zE0 D [.ref hmo, .int (zI (d0)), .int (zI (v0))] (wMh D hmo ha hth hpa hsl hhe hpd hor pd ap od c9 P S) (zQi D (fun r W1 => r = zI (aLimit S d0 v0).1 ∧ W1 = (wMh D hmo ha hth hpa hsl hhe hpd hor pd ap od (eC (aLimit S d0 v0).1 c9) (eP (aLimit S d0 v0).1 P c9 S) (aLimit S d0 v0).2))) := by
  refine zM.of (cc := cX7_limit) (maxL := 4) (ret := (some .int)) (by decide) rfl (Nat.le_of_ble_eq_true rfl) ?_
  intro p e s m below meth c A hx hb hml hown hts hr hlocks hE hnm w ls hl
  have hown : s.vm.findClass RX7 = some m.cls := hown
  have hl : lv_has ls 4 [(0, .ref hmo), (1, .int (zI (d0))), (2, .int (zI (v0)))] := hl
  obtain ⟨hok, hokm, hokb, hsc, hbe⟩ := id hokS
  have hokp := hok
  have hn := zn_eq hok
  have h16 := zn_le hok
  have hlim := hok.2.2
  have hm1 := hokm
  unfold OkM mu at hm1
  have hbd := sBd_b hok hokm
  have hkb := hokb.1
  have hbw := sBw_b hok
  have hqq := hok.1
  have hmb := mLim_b d0 v0
  have w : zW D A s.heap s [(hmo, .inr (7, [.ref ha, .ref hth, .ref hpa, .int (zI (((c9 : Nat) : Int))), .ref hsl, .ref hhe, .ref hpd, .int (zI (pd)), .int (zI (ap)), .ref hor, .int (zI (od))])), (ha, .inl (D.2 1, 86, .inr (.inl (fNow S)))), (hpa, .inl (D.2 1, 516, .inr (.inl (fFl 516 P))))] s.heap [] := w
  refine lv_iload_n hx hb dX7_limit_0 rfl (lv_at hl 1 rfl) ?_
  refine lv_iload_n hx hb dX7_limit_1 rfl (lv_at hl 2 rfl) ?_
  refine z_S_i (As := [.int (zI (d0)), .int (zI (v0))]) (rest := []) (Wr := [(hmo, .inr (7, [.ref ha, .ref hth, .ref hpa, .int (zI (((c9 : Nat) : Int))), .ref hsl, .ref hhe, .ref hpd, .int (zI (pd)), .int (zI (ap)), .ref hor, .int (zI (od))])), (ha, .inl (D.2 1, 86, .inr (.inl (fNow S)))), (hpa, .inl (D.2 1, 516, .inr (.inl (fFl 516 P))))]) ⟨hx, hb, hml, hown, hts⟩ (c_X7_mayLimit l D d0 v0 (by omega) (by omega)) (va_cwS 2 hts gX7_limit_X7_mayLimit rfl rfl rfl (by decide +kernel) ⟨Nat.le_of_ble_eq_true rfl, Nat.le_of_ble_eq_true rfl⟩) w [] rfl (by decide) [0, 1, 2] rfl (by decide) (by decide) rfl hl.1 rfl (lv_room (Nat.le_of_ble_eq_true rfl)) dX7_limit_2 ⟨Nat.zero_le _, Nat.zero_le _⟩ (fun r W1 H locs hp w => ?_)
  obtain ⟨rfl, rfl⟩ := hp
  have w : zW D A s.heap s [(hmo, .inr (7, [.ref ha, .ref hth, .ref hpa, .int (zI (((c9 : Nat) : Int))), .ref hsl, .ref hhe, .ref hpd, .int (zI (pd)), .int (zI (ap)), .ref hor, .int (zI (od))])), (ha, .inl (D.2 1, 86, .inr (.inl (fNow S)))), (hpa, .inl (D.2 1, 516, .inr (.inl (fFl 516 P))))] H locs := w.sub [0, 1, 2] (by decide) rfl
  refine lv_istore_n (lv' := [(3, .int (zI (mLim d0 v0))), (0, .ref hmo), (1, .int (zI (d0))), (2, .int (zI (v0)))]) hx hb dX7_limit_5 rfl hl (by decide) rfl (fun ls hl => ?_)
  refine lv_iload_n hx hb dX7_limit_6 rfl (lv_at hl 0 rfl) ?_
  refine z_if_eq (tgt := 12) hx hb (by omega) dX7_limit_7 (by decide) (fun c7 => ?_) (fun c7 => ?_)
  · skip
    obtain ⟨hi1, hi2, hi3⟩ := mLim_ok (S := S) (show mLim d0 v0 = 0 by omega)
    refine lv_aload_n hx hb dX7_limit_12 rfl (lv_at hl 1 rfl) ?_
    refine z_V_v (As := []) (rest := []) (Wr := []) ⟨hx, hb, hml, hown, hts⟩ (c_X7_records l D hmo ha hth hpa hsl hhe hpd hor pd ap od c9 P S hc9) (cwV 0 hts gX7_limit_X7_records rfl rfl rfl (by decide +kernel) ⟨Nat.le_of_ble_eq_true rfl, Nat.le_of_ble_eq_true rfl⟩) w (q0 := 0) rfl rfl rfl [0, 1, 2] rfl (by decide) [] rfl (by decide) (by decide) rfl hl.1 rfl (lv_room (Nat.le_of_ble_eq_true rfl)) dX7_limit_13 ⟨Nat.zero_le _, Nat.zero_le _⟩ (fun W1 H locs hp w => ?_)
    subst hp
    have w : zW D A s.heap s [(hmo, .inr (7, [.ref ha, .ref hth, .ref hpa, .int (zI (((min 6 (c9 + 1) : Nat) : Int))), .ref hsl, .ref hhe, .ref hpd, .int (zI (pd)), .int (zI (ap)), .ref hor, .int (zI (od))])), (ha, .inl (D.2 1, 86, .inr (.inl (fNow S)))), (hpa, .inl (D.2 1, 516, .inr (.inl (fFl 516 (hP P c9 S)))))] H locs := w.sub [0, 1, 2] (by decide) rfl
    refine lv_aload_n hx hb dX7_limit_16 rfl (lv_at hl 1 rfl) ?_
    refine lv_iload_n hx hb dX7_limit_17 rfl (lv_at hl 2 rfl) ?_
    refine lv_iload_n hx hb dX7_limit_18 rfl (lv_at hl 3 rfl) ?_
    have hi9 : 0 ≤ d0 := (by omega)
    refine W.eq (g2 := F0 m 19 ls [.int (zI (v0)), .int (zI (((d0.toNat : Nat) : Int))), .ref hmo]) (by rw [Int.toNat_of_nonneg hi9]) ?_
    refine z_V_i (As := [.int (zI (((d0.toNat : Nat) : Int))), .int (zI (v0))]) (rest := []) (Wr := [(hpa, .inl (D.2 1, 516, .inr (.inl (fFl 516 (hP P c9 S)))))]) ⟨hx, hb, hml, hown, hts⟩ (c_X7_limits l D hmo ha hth hpa hsl hhe hpd hor ((min 6 (c9 + 1) : Nat) : Int) pd ap od S hok hokm d0.toNat v0 (by omega) (by omega)) (cwV 2 hts gX7_limit_X7_limits rfl rfl rfl (by decide +kernel) ⟨Nat.le_of_ble_eq_true rfl, Nat.le_of_ble_eq_true rfl⟩) w (q0 := 0) rfl rfl rfl [0, 1] rfl (by decide) [2] rfl (by decide) (by decide) rfl hl.1 rfl (lv_room (Nat.le_of_ble_eq_true rfl)) dX7_limit_19 ⟨Nat.zero_le _, Nat.zero_le _⟩ (fun r W1 H locs hp w => ?_)
    obtain ⟨rfl, rfl⟩ := hp
    have w : zW D A s.heap s [(hmo, .inr (7, [.ref ha, .ref hth, .ref hpa, .int (zI (((min 6 (c9 + 1) : Nat) : Int))), .ref hsl, .ref hhe, .ref hpd, .int (zI (pd)), .int (zI (ap)), .ref hor, .int (zI (od))])), (ha, .inl (D.2 1, 86, .inr (.inl (fNow (oLimit S d0.toNat v0))))), (hpa, .inl (D.2 1, 516, .inr (.inl (fFl 516 (hP P c9 S)))))] H locs := w.sub [1, 2, 0] (by decide) rfl
    exact z_iret hx hb hr hlocks w dX7_limit_22 (by rw [hi1]; exact ⟨rfl, by rw [eC_ok (show 0 ≤ S (65 + d0.toNat) from lim_nn hok hi2), eP_ok (show 0 ≤ S (65 + d0.toNat) from lim_nn hok hi2)]; rfl⟩)
  · skip
    refine lv_iload_n hx hb dX7_limit_10 rfl (lv_at hl 0 rfl) ?_
    exact z_iret hx hb hr hlocks w dX7_limit_11 (by rw [mLim_no (S := S) (d := d0) (v := v0) (by omega)]; exact ⟨rfl, by rw [eC, eP, if_pos (by omega), if_pos (by omega)]; rfl⟩)
set_option maxHeartbeats 6000000 in
set_option maxRecDepth 100000 in
theorem c_X7_rule (l : Launch) (D : zD) (hmo ha hth hpa hsl hhe hpd hor : Nat) (pd ap od : Int) (c9 : Nat) (P S : Nat → Int) (hc9 : c9 ≤ 6) (B : Int) (hB : B ≤ 2000000000) (hokS : OkS B S) (r0 t0 : Int) (hr0 : zB r0) (ht0 : zB t0) : zM l yX7_rule wsX7_rule (zR (5)) zE0 D [.ref hmo, .int (zI (r0)), .int (zI (t0))] (wMh D hmo ha hth hpa hsl hhe hpd hor pd ap od c9 P S) (zQi D (fun r W1 => r = zI (aRule S r0 t0).1 ∧ W1 = (wMh D hmo ha hth hpa hsl hhe hpd hor pd ap od (eC (aRule S r0 t0).1 c9) (eP (aRule S r0 t0).1 P c9 S) (aRule S r0 t0).2))) := by
  refine zM.of (cc := cX7_rule) (maxL := 3) (ret := (some .int)) (by decide) rfl (Nat.le_of_ble_eq_true rfl) ?_
  intro p e s m below meth c A hx hb hml hown hts hr hlocks hE hnm w ls hl
  have hown : s.vm.findClass RX7 = some m.cls := hown
  have hl : lv_has ls 3 [(0, .ref hmo), (1, .int (zI (r0))), (2, .int (zI (t0)))] := hl
  have f_7 : (Cond.fieldLink RX7 7 "RelaxedStepsModel" "now" "[J").before _ s = true := hts _ (by decide +kernel)
  have inX7 : ∀ w ∈ u_ws RX7 TX7 11, w ∈ wsX7_rule := by decide +kernel
  obtain ⟨hok, hokm, hokb, hsc, hbe⟩ := id hokS
  have hokp := hok
  have hn := zn_eq hok
  have h16 := zn_le hok
  have hlim := hok.2.2
  have hm1 := hokm
  unfold OkM mu at hm1
  have hbd := sBd_b hok hokm
  have hkb := hokb.1
  have hbw := sBw_b hok
  have hqq := hok.1
  have w : zW D A s.heap s [(hmo, .inr (7, [.ref ha, .ref hth, .ref hpa, .int (zI (((c9 : Nat) : Int))), .ref hsl, .ref hhe, .ref hpd, .int (zI (pd)), .int (zI (ap)), .ref hor, .int (zI (od))])), (ha, .inl (D.2 1, 86, .inr (.inl (fNow S)))), (hpa, .inl (D.2 1, 516, .inr (.inl (fFl 516 P))))] s.heap [] := w
  refine lv_iload_n hx hb dX7_rule_0 rfl (lv_at hl 1 rfl) ?_
  refine lv_iconst (v := zI 0) hx hb dX7_rule_1 rfl ?_
  refine lv_iconst (v := zI 2) hx hb dX7_rule_2 rfl ?_
  refine z_S_i (As := [.int (zI (r0)), .int (zI (0)), .int (zI (2))]) (rest := []) (Wr := [(hmo, .inr (7, [.ref ha, .ref hth, .ref hpa, .int (zI (((c9 : Nat) : Int))), .ref hsl, .ref hhe, .ref hpd, .int (zI (pd)), .int (zI (ap)), .ref hor, .int (zI (od))])), (ha, .inl (D.2 1, 86, .inr (.inl (fNow S)))), (hpa, .inl (D.2 1, 516, .inr (.inl (fFl 516 P))))]) ⟨hx, hb, hml, hown, hts⟩ (c_X7_in l D r0 0 2 (by omega) (by omega) (by omega)) (va_cwS 3 hts gX7_rule_X7_in rfl rfl rfl (by decide +kernel) ⟨Nat.le_of_ble_eq_true rfl, Nat.le_of_ble_eq_true rfl⟩) w [] rfl (by decide) [0, 1, 2] rfl (by decide) (by decide) rfl hl.1 rfl (lv_room (Nat.le_of_ble_eq_true rfl)) dX7_rule_3 ⟨Nat.zero_le _, Nat.zero_le _⟩ (fun r W1 H locs hp w => ?_)
  obtain ⟨rfl, rfl⟩ := hp
  have w : zW D A s.heap s [(hmo, .inr (7, [.ref ha, .ref hth, .ref hpa, .int (zI (((c9 : Nat) : Int))), .ref hsl, .ref hhe, .ref hpd, .int (zI (pd)), .int (zI (ap)), .ref hor, .int (zI (od))])), (ha, .inl (D.2 1, 86, .inr (.inl (fNow S)))), (hpa, .inl (D.2 1, 516, .inr (.inl (fFl 516 P))))] H locs := w.sub [0, 1, 2] (by decide) rfl
  refine z_if_eq_b (tgt := 20) hx hb dX7_rule_6 (by decide) (fun c6 => ?_) (fun c6 => ?_)
  · skip
    refine lv_bipush (v := zI (-2)) hx hb dX7_rule_20 (by decide +kernel) ?_
    exact z_iret hx hb hr hlocks w dX7_rule_22 (by rw [show aRule S r0 t0 = (-2, S) from if_neg (by omega)]; exact ⟨rfl, rfl⟩)
  · skip
    refine lv_iload_n hx hb dX7_rule_9 rfl (lv_at hl 2 rfl) ?_
    refine lv_iconst (v := zI 1) hx hb dX7_rule_10 rfl ?_
    refine lv_sipush (v := zI 9999) hx hb dX7_rule_11 (by decide +kernel) ?_
    refine z_S_i (As := [.int (zI (t0)), .int (zI (1)), .int (zI (9999))]) (rest := []) (Wr := [(hmo, .inr (7, [.ref ha, .ref hth, .ref hpa, .int (zI (((c9 : Nat) : Int))), .ref hsl, .ref hhe, .ref hpd, .int (zI (pd)), .int (zI (ap)), .ref hor, .int (zI (od))])), (ha, .inl (D.2 1, 86, .inr (.inl (fNow S)))), (hpa, .inl (D.2 1, 516, .inr (.inl (fFl 516 P))))]) ⟨hx, hb, hml, hown, hts⟩ (c_X7_in l D t0 1 9999 (by omega) (by omega) (by omega)) (va_cwS 3 hts gX7_rule_X7_in rfl rfl rfl (by decide +kernel) ⟨Nat.le_of_ble_eq_true rfl, Nat.le_of_ble_eq_true rfl⟩) w [] rfl (by decide) [0, 1, 2] rfl (by decide) (by decide) rfl hl.1 rfl (lv_room (Nat.le_of_ble_eq_true rfl)) dX7_rule_14 ⟨Nat.zero_le _, Nat.zero_le _⟩ (fun r W1 H locs hp w => ?_)
    obtain ⟨rfl, rfl⟩ := hp
    have w : zW D A s.heap s [(hmo, .inr (7, [.ref ha, .ref hth, .ref hpa, .int (zI (((c9 : Nat) : Int))), .ref hsl, .ref hhe, .ref hpd, .int (zI (pd)), .int (zI (ap)), .ref hor, .int (zI (od))])), (ha, .inl (D.2 1, 86, .inr (.inl (fNow S)))), (hpa, .inl (D.2 1, 516, .inr (.inl (fFl 516 P))))] H locs := w.sub [0, 1, 2] (by decide) rfl
    refine z_if_ne_b (tgt := 23) hx hb dX7_rule_17 (by decide) (fun c17 => ?_) (fun c17 => ?_)
    · skip
      refine lv_aload_n hx hb dX7_rule_23 rfl (lv_at hl 0 rfl) ?_
      refine z_V_v (As := []) (rest := []) (Wr := []) ⟨hx, hb, hml, hown, hts⟩ (c_X7_records l D hmo ha hth hpa hsl hhe hpd hor pd ap od c9 P S hc9) (cwV 0 hts gX7_rule_X7_records rfl rfl rfl (by decide +kernel) ⟨Nat.le_of_ble_eq_true rfl, Nat.le_of_ble_eq_true rfl⟩) w (q0 := 0) rfl rfl rfl [0, 1, 2] rfl (by decide) [] rfl (by decide) (by decide) rfl hl.1 rfl (lv_room (Nat.le_of_ble_eq_true rfl)) dX7_rule_24 ⟨Nat.zero_le _, Nat.zero_le _⟩ (fun W1 H locs hp w => ?_)
      subst hp
      have w : zW D A s.heap s [(hmo, .inr (7, [.ref ha, .ref hth, .ref hpa, .int (zI (((min 6 (c9 + 1) : Nat) : Int))), .ref hsl, .ref hhe, .ref hpd, .int (zI (pd)), .int (zI (ap)), .ref hor, .int (zI (od))])), (ha, .inl (D.2 1, 86, .inr (.inl (fNow S)))), (hpa, .inl (D.2 1, 516, .inr (.inl (fFl 516 (hP P c9 S)))))] H locs := w.sub [0, 1, 2] (by decide) rfl
      refine lv_aload_n hx hb dX7_rule_27 rfl (lv_at hl 0 rfl) ?_
      refine z_get hx hb hown hts w inX7 0 0 rfl rfl (by decide) f_7 rfl rfl dX7_rule_28 ?_
      refine lv_bipush (v := zI 72) hx hb dX7_rule_31 (by decide +kernel) ?_
      refine lv_iload_n hx hb dX7_rule_33 rfl (lv_at hl 2 rfl) ?_
      refine z_i2l hx hb (by omega) dX7_rule_34 ?_
      refine z_last hx hb w 1 rfl 72 (by omega) (by decide) rfl dX7_rule_35 (fNow (zu S 72 t0)) (fun i hi => fNow_zu hi) (fun H locs w => ?_)
      have w : zW D A s.heap s [(hmo, .inr (7, [.ref ha, .ref hth, .ref hpa, .int (zI (((min 6 (c9 + 1) : Nat) : Int))), .ref hsl, .ref hhe, .ref hpd, .int (zI (pd)), .int (zI (ap)), .ref hor, .int (zI (od))])), (ha, .inl (D.2 1, 86, .inr (.inl (fNow (zu S 72 t0))))), (hpa, .inl (D.2 1, 516, .inr (.inl (fFl 516 (hP P c9 S)))))] H locs := w
      refine lv_aload_n hx hb dX7_rule_36 rfl (lv_at hl 0 rfl) ?_
      refine lv_bipush (v := zI 71) hx hb dX7_rule_37 (by decide +kernel) ?_
      refine lv_iload_n hx hb dX7_rule_39 rfl (lv_at hl 1 rfl) ?_
      refine z_V_i (As := [.int (zI (71)), .int (zI (r0))]) (rest := []) (Wr := [(hpa, .inl (D.2 1, 516, .inr (.inl (fFl 516 (hP P c9 S)))))]) ⟨hx, hb, hml, hown, hts⟩ (c_X7_changes l D hmo ha hth hpa hsl hhe hpd hor ((min 6 (c9 + 1) : Nat) : Int) pd ap od (zu S 72 t0) 71 r0 (by omega) (by omega)) (cwV 2 hts gX7_rule_X7_changes rfl rfl rfl (by decide +kernel) ⟨Nat.le_of_ble_eq_true rfl, Nat.le_of_ble_eq_true rfl⟩) w (q0 := 0) rfl rfl rfl [0, 1] rfl (by decide) [2] rfl (by decide) (by decide) rfl hl.1 rfl (lv_room (Nat.le_of_ble_eq_true rfl)) dX7_rule_40 ⟨Nat.zero_le _, Nat.zero_le _⟩ (fun r W1 H locs hp w => ?_)
      obtain ⟨rfl, rfl⟩ := hp
      have w : zW D A s.heap s [(hmo, .inr (7, [.ref ha, .ref hth, .ref hpa, .int (zI (((min 6 (c9 + 1) : Nat) : Int))), .ref hsl, .ref hhe, .ref hpd, .int (zI (pd)), .int (zI (ap)), .ref hor, .int (zI (od))])), (ha, .inl (D.2 1, 86, .inr (.inl (fNow (zu (zu S 72 t0) 71 r0))))), (hpa, .inl (D.2 1, 516, .inr (.inl (fFl 516 (hP P c9 S)))))] H locs := w.sub [1, 2, 0] (by decide) rfl
      exact z_iret hx hb hr hlocks w dX7_rule_43 (by rw [show aRule S r0 t0 = (S 71, oRule S r0 t0) from if_pos (by omega)]; exact ⟨by rw [zu_n _ _ (by omega)], by rw [eC_ok (show 0 ≤ S 71 by omega), eP_ok (show 0 ≤ S 71 by omega), show oRule S r0 t0 = zu (zu S 72 t0) 71 r0 from zu_comm (by omega) _ _]; rfl⟩)
    · skip
      refine lv_bipush (v := zI (-2)) hx hb dX7_rule_20 (by decide +kernel) ?_
      exact z_iret hx hb hr hlocks w dX7_rule_22 (by rw [show aRule S r0 t0 = (-2, S) from if_neg (by omega)]; exact ⟨rfl, rfl⟩)
set_option maxHeartbeats 6000000 in
set_option maxRecDepth 100000 in
theorem c_X7_multiplier (l : Launch) (D : zD) (hmo ha hth hpa hsl hhe hpd hor : Nat) (pd ap od : Int) (c9 : Nat) (P S : Nat → Int) (hc9 : c9 ≤ 6) (B : Int) (hB : B ≤ 2000000000) (hokS : OkS B S) (d0 v0 : Int) (hd0 : zB d0) (hv0 : zB v0) : zM l yX7_multiplier wsX7_multiplier (zR (5)) zE0 D [.ref hmo, .int (zI (d0)), .int (zI (v0))] (wMh D hmo ha hth hpa hsl hhe hpd hor pd ap od c9 P S) (zQi D (fun r W1 => r = zI (aMult S d0 v0).1 ∧ W1 = (wMh D hmo ha hth hpa hsl hhe hpd hor pd ap od (eC (aMult S d0 v0).1 c9) (eP (aMult S d0 v0).1 P c9 S) (aMult S d0 v0).2))) := by
  refine zM.of (cc := cX7_multiplier) (maxL := 4) (ret := (some .int)) (by decide) rfl (Nat.le_of_ble_eq_true rfl) ?_
  intro p e s m below meth c A hx hb hml hown hts hr hlocks hE hnm w ls hl
  have hown : s.vm.findClass RX7 = some m.cls := hown
  have hl : lv_has ls 4 [(0, .ref hmo), (1, .int (zI (d0))), (2, .int (zI (v0)))] := hl
  have f_7 : (Cond.fieldLink RX7 7 "RelaxedStepsModel" "now" "[J").before _ s = true := hts _ (by decide +kernel)
  have inX7 : ∀ w ∈ u_ws RX7 TX7 11, w ∈ wsX7_multiplier := by decide +kernel
  obtain ⟨hok, hokm, hokb, hsc, hbe⟩ := id hokS
  have hokp := hok
  have hn := zn_eq hok
  have h16 := zn_le hok
  have hlim := hok.2.2
  have hm1 := hokm
  unfold OkM mu at hm1
  have hbd := sBd_b hok hokm
  have hkb := hokb.1
  have hbw := sBw_b hok
  have hqq := hok.1
  have w : zW D A s.heap s [(hmo, .inr (7, [.ref ha, .ref hth, .ref hpa, .int (zI (((c9 : Nat) : Int))), .ref hsl, .ref hhe, .ref hpd, .int (zI (pd)), .int (zI (ap)), .ref hor, .int (zI (od))])), (ha, .inl (D.2 1, 86, .inr (.inl (fNow S)))), (hpa, .inl (D.2 1, 516, .inr (.inl (fFl 516 P))))] s.heap [] := w
  refine lv_iload_n hx hb dX7_multiplier_0 rfl (lv_at hl 1 rfl) ?_
  refine z_S_i (As := [.int (zI (d0))]) (rest := []) (Wr := [(hmo, .inr (7, [.ref ha, .ref hth, .ref hpa, .int (zI (((c9 : Nat) : Int))), .ref hsl, .ref hhe, .ref hpd, .int (zI (pd)), .int (zI (ap)), .ref hor, .int (zI (od))])), (ha, .inl (D.2 1, 86, .inr (.inl (fNow S)))), (hpa, .inl (D.2 1, 516, .inr (.inl (fFl 516 P))))]) ⟨hx, hb, hml, hown, hts⟩ (c_X7_isWay l D d0 (by omega)) (va_cwS 1 hts gX7_multiplier_X7_isWay rfl rfl rfl (by decide +kernel) ⟨Nat.le_of_ble_eq_true rfl, Nat.le_of_ble_eq_true rfl⟩) w [] rfl (by decide) [0, 1, 2] rfl (by decide) (by decide) rfl hl.1 rfl (lv_room (Nat.le_of_ble_eq_true rfl)) dX7_multiplier_1 ⟨Nat.zero_le _, Nat.zero_le _⟩ (fun r W1 H locs hp w => ?_)
  obtain ⟨rfl, rfl⟩ := hp
  have w : zW D A s.heap s [(hmo, .inr (7, [.ref ha, .ref hth, .ref hpa, .int (zI (((c9 : Nat) : Int))), .ref hsl, .ref hhe, .ref hpd, .int (zI (pd)), .int (zI (ap)), .ref hor, .int (zI (od))])), (ha, .inl (D.2 1, 86, .inr (.inl (fNow S)))), (hpa, .inl (D.2 1, 516, .inr (.inl (fFl 516 P))))] H locs := w.sub [0, 1, 2] (by decide) rfl
  refine z_if_ne_b (tgt := 9) hx hb dX7_multiplier_4 (by decide) (fun c4 => ?_) (fun c4 => ?_)
  · skip
    refine lv_iload_n hx hb dX7_multiplier_9 rfl (lv_at hl 2 rfl) ?_
    refine lv_iconst (v := zI 0) hx hb dX7_multiplier_10 rfl ?_
    refine lv_ldc (v := zI 999999) hx hb hown (hts (.constant RX7 143 (zI 999999)) (by decide +kernel)) dX7_multiplier_11 ?_
    refine z_S_i (As := [.int (zI (v0)), .int (zI (0)), .int (zI (999999))]) (rest := []) (Wr := [(hmo, .inr (7, [.ref ha, .ref hth, .ref hpa, .int (zI (((c9 : Nat) : Int))), .ref hsl, .ref hhe, .ref hpd, .int (zI (pd)), .int (zI (ap)), .ref hor, .int (zI (od))])), (ha, .inl (D.2 1, 86, .inr (.inl (fNow S)))), (hpa, .inl (D.2 1, 516, .inr (.inl (fFl 516 P))))]) ⟨hx, hb, hml, hown, hts⟩ (c_X7_in l D v0 0 999999 (by omega) (by omega) (by omega)) (va_cwS 3 hts gX7_multiplier_X7_in rfl rfl rfl (by decide +kernel) ⟨Nat.le_of_ble_eq_true rfl, Nat.le_of_ble_eq_true rfl⟩) w [] rfl (by decide) [0, 1, 2] rfl (by decide) (by decide) rfl hl.1 rfl (lv_room (Nat.le_of_ble_eq_true rfl)) dX7_multiplier_13 ⟨Nat.zero_le _, Nat.zero_le _⟩ (fun r W1 H locs hp w => ?_)
    obtain ⟨rfl, rfl⟩ := hp
    have w : zW D A s.heap s [(hmo, .inr (7, [.ref ha, .ref hth, .ref hpa, .int (zI (((c9 : Nat) : Int))), .ref hsl, .ref hhe, .ref hpd, .int (zI (pd)), .int (zI (ap)), .ref hor, .int (zI (od))])), (ha, .inl (D.2 1, 86, .inr (.inl (fNow S)))), (hpa, .inl (D.2 1, 516, .inr (.inl (fFl 516 P))))] H locs := w.sub [0, 1, 2] (by decide) rfl
    refine z_if_ne_b (tgt := 22) hx hb dX7_multiplier_16 (by decide) (fun c16 => ?_) (fun c16 => ?_)
    · skip
      refine lv_aload_n hx hb dX7_multiplier_22 rfl (lv_at hl 0 rfl) ?_
      refine z_V_v (As := []) (rest := []) (Wr := []) ⟨hx, hb, hml, hown, hts⟩ (c_X7_records l D hmo ha hth hpa hsl hhe hpd hor pd ap od c9 P S hc9) (cwV 0 hts gX7_multiplier_X7_records rfl rfl rfl (by decide +kernel) ⟨Nat.le_of_ble_eq_true rfl, Nat.le_of_ble_eq_true rfl⟩) w (q0 := 0) rfl rfl rfl [0, 1, 2] rfl (by decide) [] rfl (by decide) (by decide) rfl hl.1 rfl (lv_room (Nat.le_of_ble_eq_true rfl)) dX7_multiplier_23 ⟨Nat.zero_le _, Nat.zero_le _⟩ (fun W1 H locs hp w => ?_)
      subst hp
      have w : zW D A s.heap s [(hmo, .inr (7, [.ref ha, .ref hth, .ref hpa, .int (zI (((min 6 (c9 + 1) : Nat) : Int))), .ref hsl, .ref hhe, .ref hpd, .int (zI (pd)), .int (zI (ap)), .ref hor, .int (zI (od))])), (ha, .inl (D.2 1, 86, .inr (.inl (fNow S)))), (hpa, .inl (D.2 1, 516, .inr (.inl (fFl 516 (hP P c9 S)))))] H locs := w.sub [0, 1, 2] (by decide) rfl
      refine lv_aload_n hx hb dX7_multiplier_26 rfl (lv_at hl 0 rfl) ?_
      refine lv_bipush (v := zI 68) hx hb dX7_multiplier_27 (by decide +kernel) ?_
      refine lv_iload_n hx hb dX7_multiplier_29 rfl (lv_at hl 1 rfl) ?_
      have hi9 : 0 ≤ d0 := (by omega)
      refine W.eq (g2 := F0 m 30 ls [.int (zI (((d0.toNat : Nat) : Int))), .int (zI (68)), .ref hmo]) (by rw [Int.toNat_of_nonneg hi9]) ?_
      refine z_iadd hx hb dX7_multiplier_30 ?_
      refine lv_iload_n hx hb dX7_multiplier_31 rfl (lv_at hl 2 rfl) ?_
      refine z_V_i (As := [.int (zI (68 + ((d0.toNat : Nat) : Int))), .int (zI (v0))]) (rest := []) (Wr := [(hpa, .inl (D.2 1, 516, .inr (.inl (fFl 516 (hP P c9 S)))))]) ⟨hx, hb, hml, hown, hts⟩ (c_X7_changes l D hmo ha hth hpa hsl hhe hpd hor ((min 6 (c9 + 1) : Nat) : Int) pd ap od S (68 + d0.toNat) v0 (by omega) (by omega)) (cwV 2 hts gX7_multiplier_X7_changes rfl rfl rfl (by decide +kernel) ⟨Nat.le_of_ble_eq_true rfl, Nat.le_of_ble_eq_true rfl⟩) w (q0 := 0) rfl rfl rfl [0, 1] rfl (by decide) [2] rfl (by decide) (by decide) rfl hl.1 rfl (lv_room (Nat.le_of_ble_eq_true rfl)) dX7_multiplier_32 ⟨Nat.zero_le _, Nat.zero_le _⟩ (fun r W1 H locs hp w => ?_)
      obtain ⟨rfl, rfl⟩ := hp
      have w : zW D A s.heap s [(hmo, .inr (7, [.ref ha, .ref hth, .ref hpa, .int (zI (((min 6 (c9 + 1) : Nat) : Int))), .ref hsl, .ref hhe, .ref hpd, .int (zI (pd)), .int (zI (ap)), .ref hor, .int (zI (od))])), (ha, .inl (D.2 1, 86, .inr (.inl (fNow (zu S (68 + d0.toNat) v0))))), (hpa, .inl (D.2 1, 516, .inr (.inl (fFl 516 (hP P c9 S)))))] H locs := w.sub [1, 2, 0] (by decide) rfl
      refine lv_istore_n (lv' := [(3, .int (zI (S (68 + d0.toNat)))), (0, .ref hmo), (1, .int (zI (d0))), (2, .int (zI (v0)))]) hx hb dX7_multiplier_35 rfl hl (by decide) rfl (fun ls hl => ?_)
      refine lv_aload_n hx hb dX7_multiplier_36 rfl (lv_at hl 1 rfl) ?_
      refine z_get hx hb hown hts w inX7 0 0 rfl rfl (by decide) f_7 rfl rfl dX7_multiplier_37 ?_
      have hok2 : OkP (zu S (68 + d0.toNat) v0) := Ag_OkP (zu_Ag (by omega)) hok
      have hokm2 : OkM (mu (zu S (68 + d0.toNat) v0)) := OkM_mul hokm (by omega) c16
      have h752 : zu S (68 + d0.toNat) v0 75 = S 75 := zu_n _ _ (by omega)
      refine z_S_i (As := [.ref ha]) (rest := []) (Wr := [(hmo, .inr (7, [.ref ha, .ref hth, .ref hpa, .int (zI (((min 6 (c9 + 1) : Nat) : Int))), .ref hsl, .ref hhe, .ref hpd, .int (zI (pd)), .int (zI (ap)), .ref hor, .int (zI (od))])), (hpa, .inl (D.2 1, 516, .inr (.inl (fFl 516 (hP P c9 S)))))]) ⟨hx, hb, hml, hown, hts⟩ (c_X7_isLess l D ha (zu S (68 + d0.toNat) v0) hok2 hokm2 (by omega)) (va_cwS 1 hts gX7_multiplier_X7_isLess rfl rfl rfl (by decide +kernel) ⟨Nat.le_of_ble_eq_true rfl, Nat.le_of_ble_eq_true rfl⟩) w [1] rfl (by decide) [0, 2] rfl (by decide) (by decide) rfl hl.1 rfl (lv_room (Nat.le_of_ble_eq_true rfl)) dX7_multiplier_40 ⟨Nat.zero_le _, Nat.zero_le _⟩ (fun r W1 H locs hp w => ?_)
      obtain ⟨rfl, rfl⟩ := hp
      have w : zW D A s.heap s [(hmo, .inr (7, [.ref ha, .ref hth, .ref hpa, .int (zI (((min 6 (c9 + 1) : Nat) : Int))), .ref hsl, .ref hhe, .ref hpd, .int (zI (pd)), .int (zI (ap)), .ref hor, .int (zI (od))])), (ha, .inl (D.2 1, 86, .inr (.inl (fNow (sLs (zu S (68 + d0.toNat) v0)))))), (hpa, .inl (D.2 1, 516, .inr (.inl (fFl 516 (hP P c9 S)))))] H locs := w.sub [0, 2, 1] (by decide) rfl
      refine lv_pop hx hb dX7_multiplier_43 rfl ?_
      refine lv_iload_n hx hb dX7_multiplier_44 rfl (lv_at hl 0 rfl) ?_
      exact z_iret hx hb hr hlocks w dX7_multiplier_45 (by rw [show aMult S d0 v0 = (S (68 + d0.toNat), oMult S d0.toNat v0) from (if_pos (by omega)).trans (if_pos c16)]; exact ⟨rfl, by rw [eC_ok (show 0 ≤ S (68 + d0.toNat) from mul_nn hokm c4), eP_ok (show 0 ≤ S (68 + d0.toNat) from mul_nn hokm c4)]; rfl⟩)
    · skip
      refine lv_bipush (v := zI (-2)) hx hb dX7_multiplier_19 (by decide +kernel) ?_
      exact z_iret hx hb hr hlocks w dX7_multiplier_21 (by rw [show aMult S d0 v0 = (-2, S) from (if_pos (by omega)).trans (if_neg c16)]; exact ⟨rfl, rfl⟩)
  · skip
    refine lv_iconst (v := zI (-1)) hx hb dX7_multiplier_7 rfl ?_
    exact z_iret hx hb hr hlocks w dX7_multiplier_8 (by rw [show aMult S d0 v0 = (-1, S) from if_neg c4]; exact ⟨rfl, rfl⟩)
set_option maxHeartbeats 6000000 in
set_option maxRecDepth 100000 in
theorem c_X7_step (l : Launch) (D : zD) (hmo ha hth hpa hsl hhe hpd hor : Nat) (pd ap od : Int) (c9 : Nat) (P S : Nat → Int) (hc9 : c9 ≤ 6) (B : Int) (hB : B ≤ 1900000000) (hokS : OkS B S) (n0 : Int) (hn0 : zB n0) : zM l yX7_step wsX7_step (zR (7)) zE0 D [.ref hmo, .int (zI (n0))] (wMh D hmo ha hth hpa hsl hhe hpd hor pd ap od c9 P S) (zQi D (fun r W1 => r = zI (aStep S n0).1 ∧ W1 = (wMh D hmo ha hth hpa hsl hhe hpd hor pd ap od (eC (aStep S n0).1 c9) (eP (aStep S n0).1 P c9 S) (aStep S n0).2))) := by
  refine zM.of (cc := cX7_step) (maxL := 2) (ret := (some .int)) (by decide) rfl (Nat.le_of_ble_eq_true rfl) ?_
  intro p e s m below meth c A hx hb hml hown hts hr hlocks hE hnm w ls hl
  have hown : s.vm.findClass RX7 = some m.cls := hown
  have hl : lv_has ls 2 [(0, .ref hmo), (1, .int (zI (n0)))] := hl
  obtain ⟨hok, hokm, hokb, hsc, hbe⟩ := id hokS
  have hokp := hok
  have hn := zn_eq hok
  have h16 := zn_le hok
  have hlim := hok.2.2
  have hm1 := hokm
  unfold OkM mu at hm1
  have hbd := sBd_b hok hokm
  have hkb := hokb.1
  have hbw := sBw_b hok
  have hqq := hok.1
  have w : zW D A s.heap s [(hmo, .inr (7, [.ref ha, .ref hth, .ref hpa, .int (zI (((c9 : Nat) : Int))), .ref hsl, .ref hhe, .ref hpd, .int (zI (pd)), .int (zI (ap)), .ref hor, .int (zI (od))])), (ha, .inl (D.2 1, 86, .inr (.inl (fNow S)))), (hpa, .inl (D.2 1, 516, .inr (.inl (fFl 516 P))))] s.heap [] := w
  refine lv_iload_n hx hb dX7_step_0 rfl (lv_at hl 1 rfl) ?_
  refine lv_iconst (v := zI 1) hx hb dX7_step_1 rfl ?_
  refine lv_bipush (v := zI 99) hx hb dX7_step_2 (by decide +kernel) ?_
  refine z_S_i (As := [.int (zI (n0)), .int (zI (1)), .int (zI (99))]) (rest := []) (Wr := [(hmo, .inr (7, [.ref ha, .ref hth, .ref hpa, .int (zI (((c9 : Nat) : Int))), .ref hsl, .ref hhe, .ref hpd, .int (zI (pd)), .int (zI (ap)), .ref hor, .int (zI (od))])), (ha, .inl (D.2 1, 86, .inr (.inl (fNow S)))), (hpa, .inl (D.2 1, 516, .inr (.inl (fFl 516 P))))]) ⟨hx, hb, hml, hown, hts⟩ (c_X7_in l D n0 1 99 (by omega) (by omega) (by omega)) (va_cwS 3 hts gX7_step_X7_in rfl rfl rfl (by decide +kernel) ⟨Nat.le_of_ble_eq_true rfl, Nat.le_of_ble_eq_true rfl⟩) w [] rfl (by decide) [0, 1, 2] rfl (by decide) (by decide) rfl hl.1 rfl (lv_room (Nat.le_of_ble_eq_true rfl)) dX7_step_4 ⟨Nat.zero_le _, Nat.zero_le _⟩ (fun r W1 H locs hp w => ?_)
  obtain ⟨rfl, rfl⟩ := hp
  have w : zW D A s.heap s [(hmo, .inr (7, [.ref ha, .ref hth, .ref hpa, .int (zI (((c9 : Nat) : Int))), .ref hsl, .ref hhe, .ref hpd, .int (zI (pd)), .int (zI (ap)), .ref hor, .int (zI (od))])), (ha, .inl (D.2 1, 86, .inr (.inl (fNow S)))), (hpa, .inl (D.2 1, 516, .inr (.inl (fFl 516 P))))] H locs := w.sub [0, 1, 2] (by decide) rfl
  refine z_if_ne_b (tgt := 13) hx hb dX7_step_7 (by decide) (fun c7 => ?_) (fun c7 => ?_)
  · skip
    refine lv_aload_n hx hb dX7_step_13 rfl (lv_at hl 0 rfl) ?_
    refine z_V_v (As := []) (rest := []) (Wr := []) ⟨hx, hb, hml, hown, hts⟩ (c_X7_records l D hmo ha hth hpa hsl hhe hpd hor pd ap od c9 P S hc9) (cwV 0 hts gX7_step_X7_records rfl rfl rfl (by decide +kernel) ⟨Nat.le_of_ble_eq_true rfl, Nat.le_of_ble_eq_true rfl⟩) w (q0 := 0) rfl rfl rfl [0, 1, 2] rfl (by decide) [] rfl (by decide) (by decide) rfl hl.1 rfl (lv_room (Nat.le_of_ble_eq_true rfl)) dX7_step_14 ⟨Nat.zero_le _, Nat.zero_le _⟩ (fun W1 H locs hp w => ?_)
    subst hp
    have w : zW D A s.heap s [(hmo, .inr (7, [.ref ha, .ref hth, .ref hpa, .int (zI (((min 6 (c9 + 1) : Nat) : Int))), .ref hsl, .ref hhe, .ref hpd, .int (zI (pd)), .int (zI (ap)), .ref hor, .int (zI (od))])), (ha, .inl (D.2 1, 86, .inr (.inl (fNow S)))), (hpa, .inl (D.2 1, 516, .inr (.inl (fFl 516 (hP P c9 S)))))] H locs := w.sub [0, 1, 2] (by decide) rfl
    refine lv_aload_n hx hb dX7_step_17 rfl (lv_at hl 0 rfl) ?_
    refine lv_iload_n hx hb dX7_step_18 rfl (lv_at hl 1 rfl) ?_
    refine z_V_i (As := [.int (zI (n0))]) (rest := []) (Wr := [(hpa, .inl (D.2 1, 516, .inr (.inl (fFl 516 (hP P c9 S)))))]) ⟨hx, hb, hml, hown, hts⟩ (c_X7_stepsMany l D hmo ha hth hpa hsl hhe hpd hor ((min 6 (c9 + 1) : Nat) : Int) pd ap od S B (by omega) hokS n0 (by omega)) (cwV 1 hts gX7_step_X7_stepsMany rfl rfl rfl (by decide +kernel) ⟨Nat.le_of_ble_eq_true rfl, Nat.le_of_ble_eq_true rfl⟩) w (q0 := 0) rfl rfl rfl [0, 1] rfl (by decide) [2] rfl (by decide) (by decide) rfl hl.1 rfl (lv_room (Nat.le_of_ble_eq_true rfl)) dX7_step_19 ⟨Nat.zero_le _, Nat.zero_le _⟩ (fun r W1 H locs hp w => ?_)
    obtain ⟨rfl, rfl⟩ := hp
    have w : zW D A s.heap s [(hmo, .inr (7, [.ref ha, .ref hth, .ref hpa, .int (zI (((min 6 (c9 + 1) : Nat) : Int))), .ref hsl, .ref hhe, .ref hpd, .int (zI (pd)), .int (zI (ap)), .ref hor, .int (zI (od))])), (ha, .inl (D.2 1, 86, .inr (.inl (fNow (sStN S (n0).toNat))))), (hpa, .inl (D.2 1, 516, .inr (.inl (fFl 516 (hP P c9 S)))))] H locs := w.sub [1, 2, 0] (by decide) rfl
    exact z_iret hx hb hr hlocks w dX7_step_22 (by rw [show aStep S n0 = (sBet S n0.toNat, sStN S n0.toNat) from if_pos c7]; exact ⟨rfl, by rw [eC_ok (sBet_b S n0.toNat).1, eP_ok (sBet_b S n0.toNat).1]; rfl⟩)
  · skip
    refine lv_bipush (v := zI (-2)) hx hb dX7_step_10 (by decide +kernel) ?_
    exact z_iret hx hb hr hlocks w dX7_step_12 (by rw [show aStep S n0 = (-2, S) from if_neg c7]; exact ⟨rfl, rfl⟩)
set_option maxHeartbeats 6000000 in
set_option maxRecDepth 100000 in
theorem c_X7_repair (l : Launch) (D : zD) (hmo ha hth hpa hsl hhe hpd hor : Nat) (pd ap od : Int) (c9 : Nat) (P S : Nat → Int) (hc9 : c9 ≤ 6) (B : Int) (hB : B ≤ 2000000000) (hokS : OkS B S) : zM l yX7_repair wsX7_repair (zR (6)) zE0 D [.ref hmo] (wMh D hmo ha hth hpa hsl hhe hpd hor pd ap od c9 P S) (zQi D (fun r W1 => r = zI (aRep S).1 ∧ W1 = (wMh D hmo ha hth hpa hsl hhe hpd hor pd ap od (eC (aRep S).1 c9) (eP (aRep S).1 P c9 S) (aRep S).2))) := by
  refine zM.of (cc := cX7_repair) (maxL := 1) (ret := (some .int)) (by decide) rfl (Nat.le_of_ble_eq_true rfl) ?_
  intro p e s m below meth c A hx hb hml hown hts hr hlocks hE hnm w ls hl
  have hown : s.vm.findClass RX7 = some m.cls := hown
  have hl : lv_has ls 1 [(0, .ref hmo)] := hl
  obtain ⟨hok, hokm, hokb, hsc, hbe⟩ := id hokS
  have hokp := hok
  have hn := zn_eq hok
  have h16 := zn_le hok
  have hlim := hok.2.2
  have hm1 := hokm
  unfold OkM mu at hm1
  have hbd := sBd_b hok hokm
  have hkb := hokb.1
  have hbw := sBw_b hok
  have hqq := hok.1
  have hub := sUse_b hok (sRp S) (what := 0) (by omega)
  have w : zW D A s.heap s [(hmo, .inr (7, [.ref ha, .ref hth, .ref hpa, .int (zI (((c9 : Nat) : Int))), .ref hsl, .ref hhe, .ref hpd, .int (zI (pd)), .int (zI (ap)), .ref hor, .int (zI (od))])), (ha, .inl (D.2 1, 86, .inr (.inl (fNow S)))), (hpa, .inl (D.2 1, 516, .inr (.inl (fFl 516 P))))] s.heap [] := w
  refine lv_aload_n hx hb dX7_repair_0 rfl (lv_at hl 0 rfl) ?_
  refine z_V_v (As := []) (rest := []) (Wr := []) ⟨hx, hb, hml, hown, hts⟩ (c_X7_records l D hmo ha hth hpa hsl hhe hpd hor pd ap od c9 P S hc9) (cwV 0 hts gX7_repair_X7_records rfl rfl rfl (by decide +kernel) ⟨Nat.le_of_ble_eq_true rfl, Nat.le_of_ble_eq_true rfl⟩) w (q0 := 0) rfl rfl rfl [0, 1, 2] rfl (by decide) [] rfl (by decide) (by decide) rfl hl.1 rfl (lv_room (Nat.le_of_ble_eq_true rfl)) dX7_repair_1 ⟨Nat.zero_le _, Nat.zero_le _⟩ (fun W1 H locs hp w => ?_)
  subst hp
  have w : zW D A s.heap s [(hmo, .inr (7, [.ref ha, .ref hth, .ref hpa, .int (zI (((min 6 (c9 + 1) : Nat) : Int))), .ref hsl, .ref hhe, .ref hpd, .int (zI (pd)), .int (zI (ap)), .ref hor, .int (zI (od))])), (ha, .inl (D.2 1, 86, .inr (.inl (fNow S)))), (hpa, .inl (D.2 1, 516, .inr (.inl (fFl 516 (hP P c9 S)))))] H locs := w.sub [0, 1, 2] (by decide) rfl
  refine lv_aload_n hx hb dX7_repair_4 rfl (lv_at hl 0 rfl) ?_
  refine z_V_i (As := []) (rest := []) (Wr := [(hpa, .inl (D.2 1, 516, .inr (.inl (fFl 516 (hP P c9 S)))))]) ⟨hx, hb, hml, hown, hts⟩ (c_X7_repairsNow l D hmo ha hth hpa hsl hhe hpd hor ((min 6 (c9 + 1) : Nat) : Int) pd ap od S B (by omega) hokS) (cwV 0 hts gX7_repair_X7_repairsNow rfl rfl rfl (by decide +kernel) ⟨Nat.le_of_ble_eq_true rfl, Nat.le_of_ble_eq_true rfl⟩) w (q0 := 0) rfl rfl rfl [0, 1] rfl (by decide) [2] rfl (by decide) (by decide) rfl hl.1 rfl (lv_room (Nat.le_of_ble_eq_true rfl)) dX7_repair_5 ⟨Nat.zero_le _, Nat.zero_le _⟩ (fun r W1 H locs hp w => ?_)
  obtain ⟨rfl, rfl⟩ := hp
  have w : zW D A s.heap s [(hmo, .inr (7, [.ref ha, .ref hth, .ref hpa, .int (zI (((min 6 (c9 + 1) : Nat) : Int))), .ref hsl, .ref hhe, .ref hpd, .int (zI (pd)), .int (zI (ap)), .ref hor, .int (zI (od))])), (ha, .inl (D.2 1, 86, .inr (.inl (fNow (oRep S))))), (hpa, .inl (D.2 1, 516, .inr (.inl (fFl 516 (hP P c9 S)))))] H locs := w.sub [1, 2, 0] (by decide) rfl
  exact z_iret hx hb hr hlocks w dX7_repair_8 ⟨rfl, by rw [show (aRep S).1 = sUse S (sRp S) 0 from rfl, eC_ok hub.1, eP_ok hub.1]; rfl⟩
set_option maxHeartbeats 6000000 in
set_option maxRecDepth 100000 in
theorem c_X7_ofTheItem (l : Launch) (D : zD) (hmo ha hth hpa hsl hhe hpd hor : Nat) (kp pd ap od : Int) (S : Nat → Int) (B : Int) (hB : B ≤ 2000000000) (hokS : OkS B S) (i : Nat) (what : Int) (hi : i < zn S) (hw : 0 ≤ what ∧ what ≤ 6) : zM l yX7_ofTheItem wsX7_ofTheItem (zR (3)) zE0 D [.ref hmo, .int (zI (((i : Nat) : Int))), .int (zI (what))] (wMb D hmo ha hth hpa hsl hhe hpd hor kp pd ap od S) (zQi D (fun r W1 => r = zI (qIt S i what) ∧ W1 = (wMb D hmo ha hth hpa hsl hhe hpd hor kp pd ap od S))) := by
  refine zM.of (cc := cX7_ofTheItem) (maxL := 3) (ret := (some .int)) (by decide) rfl (Nat.le_of_ble_eq_true rfl) ?_
  intro p e s m below meth c A hx hb hml hown hts hr hlocks hE hnm w ls hl
  have hown : s.vm.findClass RX7 = some m.cls := hown
  have hl : lv_has ls 3 [(0, .ref hmo), (1, .int (zI (((i : Nat) : Int)))), (2, .int (zI (what)))] := hl
  have f_7 : (Cond.fieldLink RX7 7 "RelaxedStepsModel" "now" "[J").before _ s = true := hts _ (by decide +kernel)
  have inX7 : ∀ w ∈ u_ws RX7 TX7 11, w ∈ wsX7_ofTheItem := by decide +kernel
  obtain ⟨hok, hokm, hokb, hsc, hbe⟩ := id hokS
  have hokp := hok
  have hn := zn_eq hok
  have h16 := zn_le hok
  have hlim := hok.2.2
  have hm1 := hokm
  unfold OkM mu at hm1
  have hbd := sBd_b hok hokm
  have hkb := hokb.1
  have hbw := sBw_b hok
  have hqq := hok.1
  have hrl := sRel_16 (M := mu S) hok
  have w : zW D A s.heap s [(hmo, .inr (7, [.ref ha, .ref hth, .ref hpa, .int (zI (kp)), .ref hsl, .ref hhe, .ref hpd, .int (zI (pd)), .int (zI (ap)), .ref hor, .int (zI (od))])), (ha, .inl (D.2 1, 86, .inr (.inl (fNow S))))] s.heap [] := w
  refine lv_iload_n hx hb dX7_ofTheItem_0 rfl (lv_at hl 2 rfl) ?_
  refine lv_iconst (v := zI 4) hx hb dX7_ofTheItem_1 rfl ?_
  refine z_icmp_ge (tgt := 15) hx hb (by omega) (by omega) dX7_ofTheItem_2 (by decide) (fun c2 => ?_) (fun c2 => ?_)
  · skip
    refine lv_iload_n hx hb dX7_ofTheItem_15 rfl (lv_at hl 2 rfl) ?_
    refine lv_iconst (v := zI 4) hx hb dX7_ofTheItem_16 rfl ?_
    refine z_icmp_ne (tgt := 33) hx hb (by omega) (by omega) dX7_ofTheItem_17 (by decide) (fun c17 => ?_) (fun c17 => ?_)
    · skip
      refine lv_iload_n hx hb dX7_ofTheItem_33 rfl (lv_at hl 2 rfl) ?_
      refine lv_iconst (v := zI 5) hx hb dX7_ofTheItem_34 rfl ?_
      refine z_icmp_ne (tgt := 52) hx hb (by omega) (by omega) dX7_ofTheItem_35 (by decide) (fun c35 => ?_) (fun c35 => ?_)
      · skip
        refine lv_aload_n hx hb dX7_ofTheItem_52 rfl (lv_at hl 0 rfl) ?_
        refine z_get hx hb hown hts w inX7 0 0 rfl rfl (by decide) f_7 rfl rfl dX7_ofTheItem_53 ?_
        refine lv_bipush (v := zI 76) hx hb dX7_ofTheItem_56 (by decide +kernel) ?_
        refine z_lald hx hb w 1 rfl 76 (by omega) (by decide) rfl (v := (zL (S 76))) (if_pos (by omega)) dX7_ofTheItem_58 ?_
        refine lv_ldc2 (v := zL (-6)) hx hb hown (hts (.constantLong RX7 81 (zL (-6))) (by decide +kernel)) dX7_ofTheItem_59 ?_
        refine z_lcmp_ne (tgt := 70) hx hb (by omega) (by omega) dX7_ofTheItem_62 dX7_ofTheItem_63 (by decide) (fun c62 => ?_) (fun c62 => ?_)
        · skip
          refine lv_aload_n hx hb dX7_ofTheItem_70 rfl (lv_at hl 0 rfl) ?_
          refine z_get hx hb hown hts w inX7 0 0 rfl rfl (by decide) f_7 rfl rfl dX7_ofTheItem_71 ?_
          refine lv_bipush (v := zI 76) hx hb dX7_ofTheItem_74 (by decide +kernel) ?_
          refine z_lald hx hb w 1 rfl 76 (by omega) (by decide) rfl (v := (zL (S 76))) (if_pos (by omega)) dX7_ofTheItem_76 ?_
          refine z_l2i hx hb dX7_ofTheItem_77 ?_
          have h76 : 0 ≤ S 76 := (by omega)
          refine W.eq (g2 := F0 m 78 ls [.int (zI ((((S 76).toNat : Nat) : Int)))]) (by rw [Int.toNat_of_nonneg h76]) ?_
          refine lv_iload_n hx hb dX7_ofTheItem_78 rfl (lv_at hl 1 rfl) ?_
          refine z_ishr (a := (S 76).toNat) (b := i) hx hb (by omega) dX7_ofTheItem_79 ?_
          refine lv_iconst (v := zI 1) hx hb dX7_ofTheItem_80 rfl ?_
          refine z_iand (a := ((S 76).toNat) >>> i) (b := 1) hx hb dX7_ofTheItem_81 ?_
          exact z_iret hx hb hr hlocks w dX7_ofTheItem_82 ⟨by unfold qIt; rw [if_neg (by omega), if_neg (by omega)]; first | rw [if_pos (by omega), zb_bit] | rw [if_neg (by omega), if_pos (by omega)] | rw [if_neg (by omega), if_neg (by omega), zb_bit], rfl⟩
        · skip
          refine lv_iconst (v := zI 0) hx hb dX7_ofTheItem_66 rfl ?_
          refine lv_goto (tgt := 82) hx hb dX7_ofTheItem_67 (by decide) ?_
          exact z_iret hx hb hr hlocks w dX7_ofTheItem_82 ⟨by unfold qIt; rw [if_neg (by omega), if_neg (by omega)]; first | rw [if_pos (by omega), zb_bit] | rw [if_neg (by omega), if_pos (by omega)] | rw [if_neg (by omega), if_neg (by omega), zb_bit], rfl⟩
      · skip
        refine lv_aload_n hx hb dX7_ofTheItem_38 rfl (lv_at hl 0 rfl) ?_
        refine z_get hx hb hown hts w inX7 0 0 rfl rfl (by decide) f_7 rfl rfl dX7_ofTheItem_39 ?_
        refine z_S_i (As := [.ref ha]) (rest := []) (Wr := [(hmo, .inr (7, [.ref ha, .ref hth, .ref hpa, .int (zI (kp)), .ref hsl, .ref hhe, .ref hpd, .int (zI (pd)), .int (zI (ap)), .ref hor, .int (zI (od))]))]) ⟨hx, hb, hml, hown, hts⟩ (c_X7_relaxed l D ha S hok hokm) (va_cwS 1 hts gX7_ofTheItem_X7_relaxed rfl rfl rfl (by decide +kernel) ⟨Nat.le_of_ble_eq_true rfl, Nat.le_of_ble_eq_true rfl⟩) w [1] rfl (by decide) [0] rfl (by decide) (by decide) rfl hl.1 rfl (lv_room (Nat.le_of_ble_eq_true rfl)) dX7_ofTheItem_42 ⟨Nat.zero_le _, Nat.zero_le _⟩ (fun r W1 H locs hp w => ?_)
        obtain ⟨rfl, rfl⟩ := hp
        have w : zW D A s.heap s [(hmo, .inr (7, [.ref ha, .ref hth, .ref hpa, .int (zI (kp)), .ref hsl, .ref hhe, .ref hpd, .int (zI (pd)), .int (zI (ap)), .ref hor, .int (zI (od))])), (ha, .inl (D.2 1, 86, .inr (.inl (fNow S))))] H locs := w.sub [0, 1] (by decide) rfl
        refine lv_iload_n hx hb dX7_ofTheItem_45 rfl (lv_at hl 1 rfl) ?_
        refine z_ishr (a := sRel S (mu S)) (b := i) hx hb (by omega) dX7_ofTheItem_46 ?_
        refine lv_iconst (v := zI 1) hx hb dX7_ofTheItem_47 rfl ?_
        refine z_iand (a := (sRel S (mu S)) >>> i) (b := 1) hx hb dX7_ofTheItem_48 ?_
        refine lv_goto (tgt := 82) hx hb dX7_ofTheItem_49 (by decide) ?_
        exact z_iret hx hb hr hlocks w dX7_ofTheItem_82 ⟨by unfold qIt; rw [if_neg (by omega), if_neg (by omega)]; first | rw [if_pos (by omega), zb_bit] | rw [if_neg (by omega), if_pos (by omega)] | rw [if_neg (by omega), if_neg (by omega), zb_bit], rfl⟩
    · skip
      refine lv_aload_n hx hb dX7_ofTheItem_20 rfl (lv_at hl 0 rfl) ?_
      refine z_get hx hb hown hts w inX7 0 0 rfl rfl (by decide) f_7 rfl rfl dX7_ofTheItem_21 ?_
      refine lv_iload_n hx hb dX7_ofTheItem_24 rfl (lv_at hl 1 rfl) ?_
      refine z_S_l (As := [.ref ha, .int (zI (((i : Nat) : Int)))]) (rest := []) (Wr := [(hmo, .inr (7, [.ref ha, .ref hth, .ref hpa, .int (zI (kp)), .ref hsl, .ref hhe, .ref hpd, .int (zI (pd)), .int (zI (ap)), .ref hor, .int (zI (od))]))]) ⟨hx, hb, hml, hown, hts⟩ (c_X7_price l D ha S hok i (by omega)) (va_cwS 2 hts gX7_ofTheItem_X7_price rfl rfl rfl (by decide +kernel) ⟨Nat.le_of_ble_eq_true rfl, Nat.le_of_ble_eq_true rfl⟩) w [1] rfl (by decide) [0] rfl (by decide) (by decide) rfl hl.1 rfl (lv_room (Nat.le_of_ble_eq_true rfl)) dX7_ofTheItem_25 ⟨Nat.zero_le _, Nat.zero_le _⟩ (fun r W1 H locs hp w => ?_)
      obtain ⟨rfl, rfl⟩ := hp
      have w : zW D A s.heap s [(hmo, .inr (7, [.ref ha, .ref hth, .ref hpa, .int (zI (kp)), .ref hsl, .ref hhe, .ref hpd, .int (zI (pd)), .int (zI (ap)), .ref hor, .int (zI (od))])), (ha, .inl (D.2 1, 86, .inr (.inl (fNow S))))] H locs := w.sub [0, 1] (by decide) rfl
      refine z_l2i hx hb dX7_ofTheItem_28 ?_
      refine lv_ldc (v := zI 1000000000) hx hb hown (hts (.constant RX7 154 (zI 1000000000)) (by decide +kernel)) dX7_ofTheItem_29 ?_
      refine z_iadd hx hb dX7_ofTheItem_31 ?_
      exact z_iret hx hb hr hlocks w dX7_ofTheItem_32 ⟨by unfold qIt; rw [if_neg (by omega), if_pos (by omega)], rfl⟩
  · skip
    refine lv_aload_n hx hb dX7_ofTheItem_5 rfl (lv_at hl 0 rfl) ?_
    refine z_get hx hb hown hts w inX7 0 0 rfl rfl (by decide) f_7 rfl rfl dX7_ofTheItem_6 ?_
    refine lv_iload_n hx hb dX7_ofTheItem_9 rfl (lv_at hl 1 rfl) ?_
    refine lv_iload_n hx hb dX7_ofTheItem_10 rfl (lv_at hl 2 rfl) ?_
    have hz9 : 0 ≤ what := (by omega)
    refine W.eq (g2 := F0 m 11 ls [.int (zI (((what.toNat : Nat) : Int))), .int (zI (((i : Nat) : Int))), .ref ha]) (by rw [Int.toNat_of_nonneg hz9]) ?_
    refine z_S_i (As := [.ref ha, .int (zI (((i : Nat) : Int))), .int (zI (((what.toNat : Nat) : Int)))]) (rest := []) (Wr := [(hmo, .inr (7, [.ref ha, .ref hth, .ref hpa, .int (zI (kp)), .ref hsl, .ref hhe, .ref hpd, .int (zI (pd)), .int (zI (ap)), .ref hor, .int (zI (od))]))]) ⟨hx, hb, hml, hown, hts⟩ (c_X7_of l D ha S i what.toNat (by omega) (by omega)) (va_cwS 3 hts gX7_ofTheItem_X7_of rfl rfl rfl (by decide +kernel) ⟨Nat.le_of_ble_eq_true rfl, Nat.le_of_ble_eq_true rfl⟩) w [1] rfl (by decide) [0] rfl (by decide) (by decide) rfl hl.1 rfl (lv_room (Nat.le_of_ble_eq_true rfl)) dX7_ofTheItem_11 ⟨Nat.zero_le _, Nat.zero_le _⟩ (fun r W1 H locs hp w => ?_)
    obtain ⟨rfl, rfl⟩ := hp
    have w : zW D A s.heap s [(hmo, .inr (7, [.ref ha, .ref hth, .ref hpa, .int (zI (kp)), .ref hsl, .ref hhe, .ref hpd, .int (zI (pd)), .int (zI (ap)), .ref hor, .int (zI (od))])), (ha, .inl (D.2 1, 86, .inr (.inl (fNow S))))] H locs := w.sub [0, 1] (by decide) rfl
    exact z_iret hx hb hr hlocks w dX7_ofTheItem_14 ⟨by unfold qIt; rw [if_pos (by omega)], rfl⟩
set_option maxHeartbeats 6000000 in
set_option maxRecDepth 100000 in
theorem c_X7_ofItem (l : Launch) (D : zD) (hmo ha hth hpa hsl hhe hpd hor : Nat) (kp pd ap od : Int) (S : Nat → Int) (B : Int) (hB : B ≤ 2000000000) (hokS : OkS B S) (i0 what : Int) (hi0 : zB i0) (hw : zB what) : zM l yX7_ofItem wsX7_ofItem (zR (4)) zE0 D [.ref hmo, .int (zI (i0)), .int (zI (what))] (wMb D hmo ha hth hpa hsl hhe hpd hor kp pd ap od S) (zQi D (fun r W1 => r = zI (qItem S i0 what) ∧ W1 = (wMb D hmo ha hth hpa hsl hhe hpd hor kp pd ap od S))) := by
  refine zM.of (cc := cX7_ofItem) (maxL := 3) (ret := (some .int)) (by decide) rfl (Nat.le_of_ble_eq_true rfl) ?_
  intro p e s m below meth c A hx hb hml hown hts hr hlocks hE hnm w ls hl
  have hown : s.vm.findClass RX7 = some m.cls := hown
  have hl : lv_has ls 3 [(0, .ref hmo), (1, .int (zI (i0))), (2, .int (zI (what)))] := hl
  obtain ⟨hok, hokm, hokb, hsc, hbe⟩ := id hokS
  have hokp := hok
  have hn := zn_eq hok
  have h16 := zn_le hok
  have hlim := hok.2.2
  have hm1 := hokm
  unfold OkM mu at hm1
  have hbd := sBd_b hok hokm
  have hkb := hokb.1
  have hbw := sBw_b hok
  have hqq := hok.1
  have w : zW D A s.heap s [(hmo, .inr (7, [.ref ha, .ref hth, .ref hpa, .int (zI (kp)), .ref hsl, .ref hhe, .ref hpd, .int (zI (pd)), .int (zI (ap)), .ref hor, .int (zI (od))])), (ha, .inl (D.2 1, 86, .inr (.inl (fNow S))))] s.heap [] := w
  refine lv_aload_n hx hb dX7_ofItem_0 rfl (lv_at hl 0 rfl) ?_
  refine lv_iload_n hx hb dX7_ofItem_1 rfl (lv_at hl 1 rfl) ?_
  refine z_V_i (As := [.int (zI (i0))]) (rest := []) (Wr := []) ⟨hx, hb, hml, hown, hts⟩ (c_X7_isItem l D hmo ha hth hpa hsl hhe hpd hor kp pd ap od S hok i0 (by omega)) (cwV 1 hts gX7_ofItem_X7_isItem rfl rfl rfl (by decide +kernel) ⟨Nat.le_of_ble_eq_true rfl, Nat.le_of_ble_eq_true rfl⟩) w (q0 := 0) rfl rfl rfl [0, 1] rfl (by decide) [] rfl (by decide) (by decide) rfl hl.1 rfl (lv_room (Nat.le_of_ble_eq_true rfl)) dX7_ofItem_2 ⟨Nat.zero_le _, Nat.zero_le _⟩ (fun r W1 H locs hp w => ?_)
  obtain ⟨rfl, rfl⟩ := hp
  have w : zW D A s.heap s [(hmo, .inr (7, [.ref ha, .ref hth, .ref hpa, .int (zI (kp)), .ref hsl, .ref hhe, .ref hpd, .int (zI (pd)), .int (zI (ap)), .ref hor, .int (zI (od))])), (ha, .inl (D.2 1, 86, .inr (.inl (fNow S))))] H locs := w.sub [0, 1] (by decide) rfl
  refine z_if_ne_b (tgt := 10) hx hb dX7_ofItem_5 (by decide) (fun c5 => ?_) (fun c5 => ?_)
  · skip
    refine lv_iload_n hx hb dX7_ofItem_10 rfl (lv_at hl 2 rfl) ?_
    refine lv_iconst (v := zI 0) hx hb dX7_ofItem_11 rfl ?_
    refine lv_bipush (v := zI 6) hx hb dX7_ofItem_12 (by decide +kernel) ?_
    refine z_S_i (As := [.int (zI (what)), .int (zI (0)), .int (zI (6))]) (rest := []) (Wr := [(hmo, .inr (7, [.ref ha, .ref hth, .ref hpa, .int (zI (kp)), .ref hsl, .ref hhe, .ref hpd, .int (zI (pd)), .int (zI (ap)), .ref hor, .int (zI (od))])), (ha, .inl (D.2 1, 86, .inr (.inl (fNow S))))]) ⟨hx, hb, hml, hown, hts⟩ (c_X7_in l D what 0 6 (by omega) (by omega) (by omega)) (va_cwS 3 hts gX7_ofItem_X7_in rfl rfl rfl (by decide +kernel) ⟨Nat.le_of_ble_eq_true rfl, Nat.le_of_ble_eq_true rfl⟩) w [] rfl (by decide) [0, 1] rfl (by decide) (by decide) rfl hl.1 rfl (lv_room (Nat.le_of_ble_eq_true rfl)) dX7_ofItem_14 ⟨Nat.zero_le _, Nat.zero_le _⟩ (fun r W1 H locs hp w => ?_)
    obtain ⟨rfl, rfl⟩ := hp
    have w : zW D A s.heap s [(hmo, .inr (7, [.ref ha, .ref hth, .ref hpa, .int (zI (kp)), .ref hsl, .ref hhe, .ref hpd, .int (zI (pd)), .int (zI (ap)), .ref hor, .int (zI (od))])), (ha, .inl (D.2 1, 86, .inr (.inl (fNow S))))] H locs := w.sub [0, 1] (by decide) rfl
    refine z_if_eq_b (tgt := 29) hx hb dX7_ofItem_17 (by decide) (fun c17 => ?_) (fun c17 => ?_)
    · skip
      refine lv_bipush (v := zI (-2)) hx hb dX7_ofItem_29 (by decide +kernel) ?_
      exact z_iret hx hb hr hlocks w dX7_ofItem_31 ⟨by unfold qItem; rw [if_pos c5]; first | rw [if_pos c17] | rw [if_neg c17], rfl⟩
    · skip
      refine lv_aload_n hx hb dX7_ofItem_20 rfl (lv_at hl 0 rfl) ?_
      refine lv_iload_n hx hb dX7_ofItem_21 rfl (lv_at hl 1 rfl) ?_
      refine lv_iload_n hx hb dX7_ofItem_22 rfl (lv_at hl 2 rfl) ?_
      have hi9 : 0 ≤ i0 := (by omega)
      refine W.eq (g2 := F0 m 23 ls [.int (zI (what)), .int (zI (((i0.toNat : Nat) : Int))), .ref hmo]) (by rw [Int.toNat_of_nonneg hi9]) ?_
      refine z_V_i (As := [.int (zI (((i0.toNat : Nat) : Int))), .int (zI (what))]) (rest := []) (Wr := []) ⟨hx, hb, hml, hown, hts⟩ (c_X7_ofTheItem l D hmo ha hth hpa hsl hhe hpd hor kp pd ap od S B (by omega) hokS i0.toNat what (by omega) (by omega)) (cwV 2 hts gX7_ofItem_X7_ofTheItem rfl rfl rfl (by decide +kernel) ⟨Nat.le_of_ble_eq_true rfl, Nat.le_of_ble_eq_true rfl⟩) w (q0 := 0) rfl rfl rfl [0, 1] rfl (by decide) [] rfl (by decide) (by decide) rfl hl.1 rfl (lv_room (Nat.le_of_ble_eq_true rfl)) dX7_ofItem_23 ⟨Nat.zero_le _, Nat.zero_le _⟩ (fun r W1 H locs hp w => ?_)
      obtain ⟨rfl, rfl⟩ := hp
      have w : zW D A s.heap s [(hmo, .inr (7, [.ref ha, .ref hth, .ref hpa, .int (zI (kp)), .ref hsl, .ref hhe, .ref hpd, .int (zI (pd)), .int (zI (ap)), .ref hor, .int (zI (od))])), (ha, .inl (D.2 1, 86, .inr (.inl (fNow S))))] H locs := w.sub [0, 1] (by decide) rfl
      refine lv_goto (tgt := 31) hx hb dX7_ofItem_26 (by decide) ?_
      exact z_iret hx hb hr hlocks w dX7_ofItem_31 ⟨by unfold qItem; rw [if_pos c5]; first | rw [if_pos c17] | rw [if_neg c17], rfl⟩
  · skip
    refine lv_iconst (v := zI (-1)) hx hb dX7_ofItem_8 rfl ?_
    exact z_iret hx hb hr hlocks w dX7_ofItem_9 ⟨by unfold qItem; rw [if_neg c5], rfl⟩
set_option maxHeartbeats 6000000 in
set_option maxRecDepth 100000 in
theorem c_X7_ofDimension (l : Launch) (D : zD) (hmo ha hth hpa hsl hhe hpd hor : Nat) (kp pd ap od : Int) (S : Nat → Int) (B : Int) (hB : B ≤ 2000000000) (hokS : OkS B S) (d0 what : Int) (hd0 : zB d0) (hw : zB what) : zM l yX7_ofDimension wsX7_ofDimension (zR (4)) zE0 D [.ref hmo, .int (zI (d0)), .int (zI (what))] (wMb D hmo ha hth hpa hsl hhe hpd hor kp pd ap od S) (zQi D (fun r W1 => r = zI (qDim S d0 what) ∧ W1 = (wMb D hmo ha hth hpa hsl hhe hpd hor kp pd ap od S))) := by
  refine zM.of (cc := cX7_ofDimension) (maxL := 4) (ret := (some .int)) (by decide) rfl (Nat.le_of_ble_eq_true rfl) ?_
  intro p e s m below meth c A hx hb hml hown hts hr hlocks hE hnm w ls hl
  have hown : s.vm.findClass RX7 = some m.cls := hown
  have hl : lv_has ls 4 [(0, .ref hmo), (1, .int (zI (d0))), (2, .int (zI (what)))] := hl
  have f_7 : (Cond.fieldLink RX7 7 "RelaxedStepsModel" "now" "[J").before _ s = true := hts _ (by decide +kernel)
  have inX7 : ∀ w ∈ u_ws RX7 TX7 11, w ∈ wsX7_ofDimension := by decide +kernel
  obtain ⟨hok, hokm, hokb, hsc, hbe⟩ := id hokS
  have hokp := hok
  have hn := zn_eq hok
  have h16 := zn_le hok
  have hlim := hok.2.2
  have hm1 := hokm
  unfold OkM mu at hm1
  have hbd := sBd_b hok hokm
  have hkb := hokb.1
  have hbw := sBw_b hok
  have hqq := hok.1
  have hub := sUse_b hok (S 76).toNat (what := 1 + d0.toNat)
  have w : zW D A s.heap s [(hmo, .inr (7, [.ref ha, .ref hth, .ref hpa, .int (zI (kp)), .ref hsl, .ref hhe, .ref hpd, .int (zI (pd)), .int (zI (ap)), .ref hor, .int (zI (od))])), (ha, .inl (D.2 1, 86, .inr (.inl (fNow S))))] s.heap [] := w
  refine lv_iload_n hx hb dX7_ofDimension_0 rfl (lv_at hl 1 rfl) ?_
  refine z_S_i (As := [.int (zI (d0))]) (rest := []) (Wr := [(hmo, .inr (7, [.ref ha, .ref hth, .ref hpa, .int (zI (kp)), .ref hsl, .ref hhe, .ref hpd, .int (zI (pd)), .int (zI (ap)), .ref hor, .int (zI (od))])), (ha, .inl (D.2 1, 86, .inr (.inl (fNow S))))]) ⟨hx, hb, hml, hown, hts⟩ (c_X7_isWay l D d0 (by omega)) (va_cwS 1 hts gX7_ofDimension_X7_isWay rfl rfl rfl (by decide +kernel) ⟨Nat.le_of_ble_eq_true rfl, Nat.le_of_ble_eq_true rfl⟩) w [] rfl (by decide) [0, 1] rfl (by decide) (by decide) rfl hl.1 rfl (lv_room (Nat.le_of_ble_eq_true rfl)) dX7_ofDimension_1 ⟨Nat.zero_le _, Nat.zero_le _⟩ (fun r W1 H locs hp w => ?_)
  obtain ⟨rfl, rfl⟩ := hp
  have w : zW D A s.heap s [(hmo, .inr (7, [.ref ha, .ref hth, .ref hpa, .int (zI (kp)), .ref hsl, .ref hhe, .ref hpd, .int (zI (pd)), .int (zI (ap)), .ref hor, .int (zI (od))])), (ha, .inl (D.2 1, 86, .inr (.inl (fNow S))))] H locs := w.sub [0, 1] (by decide) rfl
  refine z_if_ne_b (tgt := 9) hx hb dX7_ofDimension_4 (by decide) (fun c4 => ?_) (fun c4 => ?_)
  · skip
    refine lv_iload_n hx hb dX7_ofDimension_9 rfl (lv_at hl 2 rfl) ?_
    refine lv_iconst (v := zI 0) hx hb dX7_ofDimension_10 rfl ?_
    refine lv_iconst (v := zI 4) hx hb dX7_ofDimension_11 rfl ?_
    refine z_S_i (As := [.int (zI (what)), .int (zI (0)), .int (zI (4))]) (rest := []) (Wr := [(hmo, .inr (7, [.ref ha, .ref hth, .ref hpa, .int (zI (kp)), .ref hsl, .ref hhe, .ref hpd, .int (zI (pd)), .int (zI (ap)), .ref hor, .int (zI (od))])), (ha, .inl (D.2 1, 86, .inr (.inl (fNow S))))]) ⟨hx, hb, hml, hown, hts⟩ (c_X7_in l D what 0 4 (by omega) (by omega) (by omega)) (va_cwS 3 hts gX7_ofDimension_X7_in rfl rfl rfl (by decide +kernel) ⟨Nat.le_of_ble_eq_true rfl, Nat.le_of_ble_eq_true rfl⟩) w [] rfl (by decide) [0, 1] rfl (by decide) (by decide) rfl hl.1 rfl (lv_room (Nat.le_of_ble_eq_true rfl)) dX7_ofDimension_12 ⟨Nat.zero_le _, Nat.zero_le _⟩ (fun r W1 H locs hp w => ?_)
    obtain ⟨rfl, rfl⟩ := hp
    have w : zW D A s.heap s [(hmo, .inr (7, [.ref ha, .ref hth, .ref hpa, .int (zI (kp)), .ref hsl, .ref hhe, .ref hpd, .int (zI (pd)), .int (zI (ap)), .ref hor, .int (zI (od))])), (ha, .inl (D.2 1, 86, .inr (.inl (fNow S))))] H locs := w.sub [0, 1] (by decide) rfl
    refine z_if_ne_b (tgt := 21) hx hb dX7_ofDimension_15 (by decide) (fun c15 => ?_) (fun c15 => ?_)
    · skip
      refine lv_iload_n hx hb dX7_ofDimension_21 rfl (lv_at hl 2 rfl) ?_
      refine lv_iconst (v := zI 3) hx hb dX7_ofDimension_22 rfl ?_
      refine z_icmp_ge (tgt := 74) hx hb (by omega) (by omega) dX7_ofDimension_23 (by decide) (fun c23 => ?_) (fun c23 => ?_)
      · skip
        refine lv_aload_n hx hb dX7_ofDimension_74 rfl (lv_at hl 0 rfl) ?_
        refine z_get hx hb hown hts w inX7 0 0 rfl rfl (by decide) f_7 rfl rfl dX7_ofDimension_75 ?_
        refine lv_bipush (v := zI 76) hx hb dX7_ofDimension_78 (by decide +kernel) ?_
        refine z_lald hx hb w 1 rfl 76 (by omega) (by decide) rfl (v := (zL (S 76))) (if_pos (by omega)) dX7_ofDimension_80 ?_
        refine lv_ldc2 (v := zL (-6)) hx hb hown (hts (.constantLong RX7 81 (zL (-6))) (by decide +kernel)) dX7_ofDimension_81 ?_
        refine z_lcmp_ne (tgt := 91) hx hb (by omega) (by omega) dX7_ofDimension_84 dX7_ofDimension_85 (by decide) (fun c84 => ?_) (fun c84 => ?_)
        · skip
          refine lv_aload_n hx hb dX7_ofDimension_91 rfl (lv_at hl 0 rfl) ?_
          refine z_get hx hb hown hts w inX7 0 0 rfl rfl (by decide) f_7 rfl rfl dX7_ofDimension_92 ?_
          refine lv_aload_n hx hb dX7_ofDimension_95 rfl (lv_at hl 0 rfl) ?_
          refine z_get hx hb hown hts w inX7 0 0 rfl rfl (by decide) f_7 rfl rfl dX7_ofDimension_96 ?_
          refine lv_bipush (v := zI 76) hx hb dX7_ofDimension_99 (by decide +kernel) ?_
          refine z_lald hx hb w 1 rfl 76 (by omega) (by decide) rfl (v := (zL (S 76))) (if_pos (by omega)) dX7_ofDimension_101 ?_
          refine z_l2i hx hb dX7_ofDimension_102 ?_
          have h76 : 0 ≤ S 76 := (by omega)
          refine W.eq (g2 := F0 m 103 ls [.int (zI ((((S 76).toNat : Nat) : Int))), .ref ha]) (by rw [Int.toNat_of_nonneg h76]) ?_
          refine lv_iconst (v := zI 1) hx hb dX7_ofDimension_103 rfl ?_
          refine lv_iload_n hx hb dX7_ofDimension_104 rfl (lv_at hl 1 rfl) ?_
          have hi9 : 0 ≤ d0 := (by omega)
          refine W.eq (g2 := F0 m 105 ls [.int (zI (((d0.toNat : Nat) : Int))), .int (zI (1)), .int (zI ((((S 76).toNat : Nat) : Int))), .ref ha]) (by rw [Int.toNat_of_nonneg hi9]) ?_
          refine z_iadd hx hb dX7_ofDimension_105 ?_
          refine z_S_i (As := [.ref ha, .int (zI ((((S 76).toNat : Nat) : Int))), .int (zI (1 + ((d0.toNat : Nat) : Int)))]) (rest := []) (Wr := [(hmo, .inr (7, [.ref ha, .ref hth, .ref hpa, .int (zI (kp)), .ref hsl, .ref hhe, .ref hpd, .int (zI (pd)), .int (zI (ap)), .ref hor, .int (zI (od))]))]) ⟨hx, hb, hml, hown, hts⟩ (c_X7_sum l D ha S hok ((S 76).toNat) (1 + d0.toNat) (by omega) (by omega)) (va_cwS 3 hts gX7_ofDimension_X7_sum rfl rfl rfl (by decide +kernel) ⟨Nat.le_of_ble_eq_true rfl, Nat.le_of_ble_eq_true rfl⟩) w [1] rfl (by decide) [0] rfl (by decide) (by decide) rfl hl.1 rfl (lv_room (Nat.le_of_ble_eq_true rfl)) dX7_ofDimension_106 ⟨Nat.zero_le _, Nat.zero_le _⟩ (fun r W1 H locs hp w => ?_)
          obtain ⟨rfl, rfl⟩ := hp
          have w : zW D A s.heap s [(hmo, .inr (7, [.ref ha, .ref hth, .ref hpa, .int (zI (kp)), .ref hsl, .ref hhe, .ref hpd, .int (zI (pd)), .int (zI (ap)), .ref hor, .int (zI (od))])), (ha, .inl (D.2 1, 86, .inr (.inl (fNow S))))] H locs := w.sub [0, 1] (by decide) rfl
          have hub9 := hub (by omega)
          have hl9 := lim_nn2 hok c4
          refine lv_istore_n (lv' := [(3, .int (zI (sUse S ((S 76).toNat) (1 + d0.toNat)))), (0, .ref hmo), (1, .int (zI (d0))), (2, .int (zI (what)))]) hx hb dX7_ofDimension_109 rfl hl (by decide) rfl (fun ls hl => ?_)
          refine lv_iload_n hx hb dX7_ofDimension_110 rfl (lv_at hl 3 rfl) ?_
          refine lv_iconst (v := zI 3) hx hb dX7_ofDimension_111 rfl ?_
          refine z_icmp_ne (tgt := 119) hx hb (by omega) (by omega) dX7_ofDimension_112 (by decide) (fun c112 => ?_) (fun c112 => ?_)
          · skip
            refine lv_iload_n hx hb dX7_ofDimension_119 rfl (lv_at hl 0 rfl) ?_
            refine z_i2l hx hb (by omega) dX7_ofDimension_120 ?_
            refine lv_aload_n hx hb dX7_ofDimension_121 rfl (lv_at hl 1 rfl) ?_
            refine z_get hx hb hown hts w inX7 0 0 rfl rfl (by decide) f_7 rfl rfl dX7_ofDimension_122 ?_
            refine lv_bipush (v := zI 65) hx hb dX7_ofDimension_125 (by decide +kernel) ?_
            refine lv_iload_n hx hb dX7_ofDimension_127 rfl (lv_at hl 2 rfl) ?_
            have hi9 : 0 ≤ d0 := (by omega)
            refine W.eq (g2 := F0 m 128 ls [.int (zI (((d0.toNat : Nat) : Int))), .int (zI (65)), .ref ha, .long (zL (sUse S ((S 76).toNat) (1 + d0.toNat)))]) (by rw [Int.toNat_of_nonneg hi9]) ?_
            refine z_iadd hx hb dX7_ofDimension_128 ?_
            refine z_lald hx hb w 1 rfl (65 + d0.toNat) (by omega) (by decide) (by omega) (v := (zL (S (65 + d0.toNat)))) (if_pos (by omega)) dX7_ofDimension_129 ?_
            refine z_lcmp_ne (tgt := 138) hx hb (by omega) (by omega) dX7_ofDimension_130 dX7_ofDimension_131 (by decide) (fun c130 => ?_) (fun c130 => ?_)
            · skip
              refine lv_iconst (v := zI 0) hx hb dX7_ofDimension_138 rfl ?_
              exact z_iret hx hb hr hlocks w dX7_ofDimension_139 ⟨by unfold qDim; rw [if_pos c4, if_pos c15]; unfold qDm; rw [if_neg (by omega), if_neg (by omega)]; first | rw [if_pos (by omega)] | (rw [if_neg (by omega)]; first | rw [zb_t (by omega)] | rw [zb_f (by omega)]), rfl⟩
            · skip
              refine lv_iconst (v := zI 1) hx hb dX7_ofDimension_134 rfl ?_
              refine lv_goto (tgt := 139) hx hb dX7_ofDimension_135 (by decide) ?_
              exact z_iret hx hb hr hlocks w dX7_ofDimension_139 ⟨by unfold qDim; rw [if_pos c4, if_pos c15]; unfold qDm; rw [if_neg (by omega), if_neg (by omega)]; first | rw [if_pos (by omega)] | (rw [if_neg (by omega)]; first | rw [zb_t (by omega)] | rw [zb_f (by omega)]), rfl⟩
          · skip
            refine lv_iload_n hx hb dX7_ofDimension_115 rfl (lv_at hl 0 rfl) ?_
            refine lv_goto (tgt := 139) hx hb dX7_ofDimension_116 (by decide) ?_
            exact z_iret hx hb hr hlocks w dX7_ofDimension_139 ⟨by unfold qDim; rw [if_pos c4, if_pos c15]; unfold qDm; rw [if_neg (by omega), if_neg (by omega)]; first | rw [if_pos (by omega)] | (rw [if_neg (by omega)]; first | rw [zb_t (by omega)] | rw [zb_f (by omega)]), rfl⟩
        · skip
          refine lv_bipush (v := zI (-6)) hx hb dX7_ofDimension_88 (by decide +kernel) ?_
          exact z_iret hx hb hr hlocks w dX7_ofDimension_90 ⟨by unfold qDim; rw [if_pos c4, if_pos c15]; unfold qDm; rw [if_neg (by omega), if_pos (by omega)], rfl⟩
      · skip
        refine lv_iload_n hx hb dX7_ofDimension_26 rfl (lv_at hl 2 rfl) ?_
        refine z_if_ne (tgt := 43) hx hb (by omega) dX7_ofDimension_27 (by decide) (fun c27 => ?_) (fun c27 => ?_)
        · skip
          refine lv_iload_n hx hb dX7_ofDimension_43 rfl (lv_at hl 2 rfl) ?_
          refine lv_iconst (v := zI 1) hx hb dX7_ofDimension_44 rfl ?_
          refine z_icmp_ne (tgt := 61) hx hb (by omega) (by omega) dX7_ofDimension_45 (by decide) (fun c45 => ?_) (fun c45 => ?_)
          · skip
            refine lv_aload_n hx hb dX7_ofDimension_61 rfl (lv_at hl 0 rfl) ?_
            refine z_get hx hb hown hts w inX7 0 0 rfl rfl (by decide) f_7 rfl rfl dX7_ofDimension_62 ?_
            refine lv_iload_n hx hb dX7_ofDimension_65 rfl (lv_at hl 1 rfl) ?_
            have hi9 : 0 ≤ d0 := (by omega)
            refine W.eq (g2 := F0 m 66 ls [.int (zI (((d0.toNat : Nat) : Int))), .ref ha]) (by rw [Int.toNat_of_nonneg hi9]) ?_
            refine z_S_i (As := [.ref ha, .int (zI (((d0.toNat : Nat) : Int)))]) (rest := []) (Wr := [(hmo, .inr (7, [.ref ha, .ref hth, .ref hpa, .int (zI (kp)), .ref hsl, .ref hhe, .ref hpd, .int (zI (pd)), .int (zI (ap)), .ref hor, .int (zI (od))]))]) ⟨hx, hb, hml, hown, hts⟩ (c_X7_slope l D ha S hok hokm d0.toNat (by omega)) (va_cwS 2 hts gX7_ofDimension_X7_slope rfl rfl rfl (by decide +kernel) ⟨Nat.le_of_ble_eq_true rfl, Nat.le_of_ble_eq_true rfl⟩) w [1] rfl (by decide) [0] rfl (by decide) (by decide) rfl hl.1 rfl (lv_room (Nat.le_of_ble_eq_true rfl)) dX7_ofDimension_66 ⟨Nat.zero_le _, Nat.zero_le _⟩ (fun r W1 H locs hp w => ?_)
            obtain ⟨rfl, rfl⟩ := hp
            have w : zW D A s.heap s [(hmo, .inr (7, [.ref ha, .ref hth, .ref hpa, .int (zI (kp)), .ref hsl, .ref hhe, .ref hpd, .int (zI (pd)), .int (zI (ap)), .ref hor, .int (zI (od))])), (ha, .inl (D.2 1, 86, .inr (.inl (fNow S))))] H locs := w.sub [0, 1] (by decide) rfl
            refine lv_sipush (v := zI 10000) hx hb dX7_ofDimension_69 (by decide +kernel) ?_
            refine z_iadd hx hb dX7_ofDimension_72 ?_
            exact z_iret hx hb hr hlocks w dX7_ofDimension_73 ⟨by unfold qDim; rw [if_pos c4, if_pos c15]; unfold qDm; rw [if_pos (by omega)]; first | rw [if_pos (by omega)] | rw [if_neg (by omega), if_pos (by omega)] | rw [if_neg (by omega), if_neg (by omega)], rfl⟩
          · skip
            refine lv_aload_n hx hb dX7_ofDimension_48 rfl (lv_at hl 0 rfl) ?_
            refine z_get hx hb hown hts w inX7 0 0 rfl rfl (by decide) f_7 rfl rfl dX7_ofDimension_49 ?_
            refine lv_bipush (v := zI 68) hx hb dX7_ofDimension_52 (by decide +kernel) ?_
            refine lv_iload_n hx hb dX7_ofDimension_54 rfl (lv_at hl 1 rfl) ?_
            have hi9 : 0 ≤ d0 := (by omega)
            refine W.eq (g2 := F0 m 55 ls [.int (zI (((d0.toNat : Nat) : Int))), .int (zI (68)), .ref ha]) (by rw [Int.toNat_of_nonneg hi9]) ?_
            refine z_iadd hx hb dX7_ofDimension_55 ?_
            refine z_lald hx hb w 1 rfl (68 + d0.toNat) (by omega) (by decide) (by omega) (v := (zL (S (68 + d0.toNat)))) (if_pos (by omega)) dX7_ofDimension_56 ?_
            refine z_l2i hx hb dX7_ofDimension_57 ?_
            refine lv_goto (tgt := 73) hx hb dX7_ofDimension_58 (by decide) ?_
            exact z_iret hx hb hr hlocks w dX7_ofDimension_73 ⟨by unfold qDim; rw [if_pos c4, if_pos c15]; unfold qDm; rw [if_pos (by omega)]; first | rw [if_pos (by omega)] | rw [if_neg (by omega), if_pos (by omega)] | rw [if_neg (by omega), if_neg (by omega)], rfl⟩
        · skip
          refine lv_aload_n hx hb dX7_ofDimension_30 rfl (lv_at hl 0 rfl) ?_
          refine z_get hx hb hown hts w inX7 0 0 rfl rfl (by decide) f_7 rfl rfl dX7_ofDimension_31 ?_
          refine lv_bipush (v := zI 65) hx hb dX7_ofDimension_34 (by decide +kernel) ?_
          refine lv_iload_n hx hb dX7_ofDimension_36 rfl (lv_at hl 1 rfl) ?_
          have hi9 : 0 ≤ d0 := (by omega)
          refine W.eq (g2 := F0 m 37 ls [.int (zI (((d0.toNat : Nat) : Int))), .int (zI (65)), .ref ha]) (by rw [Int.toNat_of_nonneg hi9]) ?_
          refine z_iadd hx hb dX7_ofDimension_37 ?_
          refine z_lald hx hb w 1 rfl (65 + d0.toNat) (by omega) (by decide) (by omega) (v := (zL (S (65 + d0.toNat)))) (if_pos (by omega)) dX7_ofDimension_38 ?_
          refine z_l2i hx hb dX7_ofDimension_39 ?_
          refine lv_goto (tgt := 73) hx hb dX7_ofDimension_40 (by decide) ?_
          exact z_iret hx hb hr hlocks w dX7_ofDimension_73 ⟨by unfold qDim; rw [if_pos c4, if_pos c15]; unfold qDm; rw [if_pos (by omega)]; first | rw [if_pos (by omega)] | rw [if_neg (by omega), if_pos (by omega)] | rw [if_neg (by omega), if_neg (by omega)], rfl⟩
    · skip
      refine lv_bipush (v := zI (-2)) hx hb dX7_ofDimension_18 (by decide +kernel) ?_
      exact z_iret hx hb hr hlocks w dX7_ofDimension_20 ⟨by unfold qDim; rw [if_pos c4, if_neg c15], rfl⟩
  · skip
    refine lv_iconst (v := zI (-1)) hx hb dX7_ofDimension_7 rfl ?_
    exact z_iret hx hb hr hlocks w dX7_ofDimension_8 ⟨by unfold qDim; rw [if_neg c4], rfl⟩
set_option maxHeartbeats 6000000 in
set_option maxRecDepth 100000 in
theorem c_X7_bundle (l : Launch) (D : zD) (hmo ha hth hpa hsl hhe hpd hor : Nat) (kp pd ap od : Int) (S : Nat → Int) (B : Int) (hB : B ≤ 2000000000) (hokS : OkS B S) (p0 : Int) (hp0 : zB p0) : zM l yX7_bundle wsX7_bundle (zR (2)) zE0 D [.ref hmo, .int (zI (p0))] (wMb D hmo ha hth hpa hsl hhe hpd hor kp pd ap od S) (zQi D (fun r W1 => r = zI (qBun S p0) ∧ W1 = (wMb D hmo ha hth hpa hsl hhe hpd hor kp pd ap od S))) := by
  refine zM.of (cc := cX7_bundle) (maxL := 2) (ret := (some .int)) (by decide) rfl (Nat.le_of_ble_eq_true rfl) ?_
  intro p e s m below meth c A hx hb hml hown hts hr hlocks hE hnm w ls hl
  have hown : s.vm.findClass RX7 = some m.cls := hown
  have hl : lv_has ls 2 [(0, .ref hmo), (1, .int (zI (p0)))] := hl
  have f_7 : (Cond.fieldLink RX7 7 "RelaxedStepsModel" "now" "[J").before _ s = true := hts _ (by decide +kernel)
  have inX7 : ∀ w ∈ u_ws RX7 TX7 11, w ∈ wsX7_bundle := by decide +kernel
  obtain ⟨hok, hokm, hokb, hsc, hbe⟩ := id hokS
  have hokp := hok
  have hn := zn_eq hok
  have h16 := zn_le hok
  have hlim := hok.2.2
  have hm1 := hokm
  unfold OkM mu at hm1
  have hbd := sBd_b hok hokm
  have hkb := hokb.1
  have hbw := sBw_b hok
  have hqq := hok.1
  have w : zW D A s.heap s [(hmo, .inr (7, [.ref ha, .ref hth, .ref hpa, .int (zI (kp)), .ref hsl, .ref hhe, .ref hpd, .int (zI (pd)), .int (zI (ap)), .ref hor, .int (zI (od))])), (ha, .inl (D.2 1, 86, .inr (.inl (fNow S))))] s.heap [] := w
  refine lv_iload_n hx hb dX7_bundle_0 rfl (lv_at hl 1 rfl) ?_
  refine lv_iconst (v := zI 0) hx hb dX7_bundle_1 rfl ?_
  refine lv_aload_n hx hb dX7_bundle_2 rfl (lv_at hl 0 rfl) ?_
  refine z_get hx hb hown hts w inX7 0 0 rfl rfl (by decide) f_7 rfl rfl dX7_bundle_3 ?_
  refine lv_bipush (v := zI 77) hx hb dX7_bundle_6 (by decide +kernel) ?_
  refine z_lald hx hb w 1 rfl 77 (by omega) (by decide) rfl (v := (zL (S 77))) (if_pos (by omega)) dX7_bundle_8 ?_
  refine z_l2i hx hb dX7_bundle_9 ?_
  refine lv_iconst (v := zI 1) hx hb dX7_bundle_10 rfl ?_
  refine z_isub hx hb dX7_bundle_11 ?_
  refine z_S_i (As := [.int (zI (p0)), .int (zI (0)), .int (zI ((S 77) - 1))]) (rest := []) (Wr := [(hmo, .inr (7, [.ref ha, .ref hth, .ref hpa, .int (zI (kp)), .ref hsl, .ref hhe, .ref hpd, .int (zI (pd)), .int (zI (ap)), .ref hor, .int (zI (od))])), (ha, .inl (D.2 1, 86, .inr (.inl (fNow S))))]) ⟨hx, hb, hml, hown, hts⟩ (c_X7_in l D p0 0 ((S 77) - 1) (by omega) (by omega) (by omega)) (va_cwS 3 hts gX7_bundle_X7_in rfl rfl rfl (by decide +kernel) ⟨Nat.le_of_ble_eq_true rfl, Nat.le_of_ble_eq_true rfl⟩) w [] rfl (by decide) [0, 1] rfl (by decide) (by decide) rfl hl.1 rfl (lv_room (Nat.le_of_ble_eq_true rfl)) dX7_bundle_12 ⟨Nat.zero_le _, Nat.zero_le _⟩ (fun r W1 H locs hp w => ?_)
  obtain ⟨rfl, rfl⟩ := hp
  have w : zW D A s.heap s [(hmo, .inr (7, [.ref ha, .ref hth, .ref hpa, .int (zI (kp)), .ref hsl, .ref hhe, .ref hpd, .int (zI (pd)), .int (zI (ap)), .ref hor, .int (zI (od))])), (ha, .inl (D.2 1, 86, .inr (.inl (fNow S))))] H locs := w.sub [0, 1] (by decide) rfl
  refine z_if_eq_b (tgt := 31) hx hb dX7_bundle_15 (by decide) (fun c15 => ?_) (fun c15 => ?_)
  · skip
    refine lv_iconst (v := zI (-1)) hx hb dX7_bundle_31 rfl ?_
    exact z_iret hx hb hr hlocks w dX7_bundle_32 ⟨by unfold qBun; first | rw [if_pos c15] | rw [if_neg c15], rfl⟩
  · skip
    refine lv_aload_n hx hb dX7_bundle_18 rfl (lv_at hl 0 rfl) ?_
    refine z_get hx hb hown hts w inX7 0 0 rfl rfl (by decide) f_7 rfl rfl dX7_bundle_19 ?_
    refine lv_bipush (v := zI 78) hx hb dX7_bundle_22 (by decide +kernel) ?_
    refine lv_iload_n hx hb dX7_bundle_24 rfl (lv_at hl 1 rfl) ?_
    have hi9 : 0 ≤ p0 := (by omega)
    refine W.eq (g2 := F0 m 25 ls [.int (zI (((p0.toNat : Nat) : Int))), .int (zI (78)), .ref ha]) (by rw [Int.toNat_of_nonneg hi9]) ?_
    refine z_iadd hx hb dX7_bundle_25 ?_
    refine z_lald hx hb w 1 rfl (78 + p0.toNat) (by omega) (by decide) (by omega) (v := (zL (S (78 + p0.toNat)))) (if_pos (by omega)) dX7_bundle_26 ?_
    refine z_l2i hx hb dX7_bundle_27 ?_
    refine lv_goto (tgt := 32) hx hb dX7_bundle_28 (by decide) ?_
    exact z_iret hx hb hr hlocks w dX7_bundle_32 ⟨by unfold qBun; first | rw [if_pos c15] | rw [if_neg c15], rfl⟩
set_option maxHeartbeats 6000000 in
set_option maxRecDepth 100000 in
theorem c_X7_count (l : Launch) (D : zD) (hmo ha hth hpa hsl hhe hpd hor : Nat) (kp pd ap od : Int) (S : Nat → Int) (B : Int) (hB : B ≤ 2000000000) (hokS : OkS B S) (w9 : Int) (hw : zB w9) : zM l yX7_count wsX7_count (zR (4)) zE0 D [.ref hmo, .int (zI (w9))] (wMb D hmo ha hth hpa hsl hhe hpd hor kp pd ap od S) (zQi D (fun r W1 => r = zI (qCnt S pd kp w9) ∧ W1 = (wMb D hmo ha hth hpa hsl hhe hpd hor kp pd ap od S))) := by
  refine zM.of (cc := cX7_count) (maxL := 2) (ret := (some .int)) (by decide) rfl (Nat.le_of_ble_eq_true rfl) ?_
  intro p e s m below meth c A hx hb hml hown hts hr hlocks hE hnm w ls hl
  have hown : s.vm.findClass RX7 = some m.cls := hown
  have hl : lv_has ls 2 [(0, .ref hmo), (1, .int (zI (w9)))] := hl
  have f_7 : (Cond.fieldLink RX7 7 "RelaxedStepsModel" "now" "[J").before _ s = true := hts _ (by decide +kernel)
  have f_44 : (Cond.fieldLink RX7 44 "RelaxedStepsModel" "kept" "I").before _ s = true := hts _ (by decide +kernel)
  have f_158 : (Cond.fieldLink RX7 158 "RelaxedStepsModel" "padded" "I").before _ s = true := hts _ (by decide +kernel)
  have inX7 : ∀ w ∈ u_ws RX7 TX7 11, w ∈ wsX7_count := by decide +kernel
  obtain ⟨hok, hokm, hokb, hsc, hbe⟩ := id hokS
  have hokp := hok
  have hn := zn_eq hok
  have h16 := zn_le hok
  have hlim := hok.2.2
  have hm1 := hokm
  unfold OkM mu at hm1
  have hbd := sBd_b hok hokm
  have hkb := hokb.1
  have hbw := sBw_b hok
  have hqq := hok.1
  have w : zW D A s.heap s [(hmo, .inr (7, [.ref ha, .ref hth, .ref hpa, .int (zI (kp)), .ref hsl, .ref hhe, .ref hpd, .int (zI (pd)), .int (zI (ap)), .ref hor, .int (zI (od))])), (ha, .inl (D.2 1, 86, .inr (.inl (fNow S))))] s.heap [] := w
  refine lv_iload_n hx hb dX7_count_0 rfl (lv_at hl 1 rfl) ?_
  refine lv_iconst (v := zI 0) hx hb dX7_count_1 rfl ?_
  refine lv_bipush (v := zI 10) hx hb dX7_count_2 (by decide +kernel) ?_
  refine z_S_i (As := [.int (zI (w9)), .int (zI (0)), .int (zI (10))]) (rest := []) (Wr := [(hmo, .inr (7, [.ref ha, .ref hth, .ref hpa, .int (zI (kp)), .ref hsl, .ref hhe, .ref hpd, .int (zI (pd)), .int (zI (ap)), .ref hor, .int (zI (od))])), (ha, .inl (D.2 1, 86, .inr (.inl (fNow S))))]) ⟨hx, hb, hml, hown, hts⟩ (c_X7_in l D w9 0 10 (by omega) (by omega) (by omega)) (va_cwS 3 hts gX7_count_X7_in rfl rfl rfl (by decide +kernel) ⟨Nat.le_of_ble_eq_true rfl, Nat.le_of_ble_eq_true rfl⟩) w [] rfl (by decide) [0, 1] rfl (by decide) (by decide) rfl hl.1 rfl (lv_room (Nat.le_of_ble_eq_true rfl)) dX7_count_4 ⟨Nat.zero_le _, Nat.zero_le _⟩ (fun r W1 H locs hp w => ?_)
  obtain ⟨rfl, rfl⟩ := hp
  have w : zW D A s.heap s [(hmo, .inr (7, [.ref ha, .ref hth, .ref hpa, .int (zI (kp)), .ref hsl, .ref hhe, .ref hpd, .int (zI (pd)), .int (zI (ap)), .ref hor, .int (zI (od))])), (ha, .inl (D.2 1, 86, .inr (.inl (fNow S))))] H locs := w.sub [0, 1] (by decide) rfl
  refine z_if_ne_b (tgt := 13) hx hb dX7_count_7 (by decide) (fun c7 => ?_) (fun c7 => ?_)
  · skip
    refine lv_iload_n hx hb dX7_count_13 rfl (lv_at hl 1 rfl) ?_
    refine lv_iconst (v := zI 3) hx hb dX7_count_14 rfl ?_
    refine z_icmp_ge (tgt := 45) hx hb (by omega) (by omega) dX7_count_15 (by decide) (fun c15 => ?_) (fun c15 => ?_)
    · skip
      refine lv_iload_n hx hb dX7_count_45 rfl (lv_at hl 1 rfl) ?_
      refine lv_bipush (v := zI 6) hx hb dX7_count_46 (by decide +kernel) ?_
      refine z_icmp_ge (tgt := 104) hx hb (by omega) (by omega) dX7_count_48 (by decide) (fun c48 => ?_) (fun c48 => ?_)
      · skip
        refine lv_iload_n hx hb dX7_count_104 rfl (lv_at hl 1 rfl) ?_
        refine lv_bipush (v := zI 9) hx hb dX7_count_105 (by decide +kernel) ?_
        refine z_icmp_ne (tgt := 117) hx hb (by omega) (by omega) dX7_count_107 (by decide) (fun c107 => ?_) (fun c107 => ?_)
        · skip
          refine lv_iload_n hx hb dX7_count_117 rfl (lv_at hl 1 rfl) ?_
          refine lv_bipush (v := zI 10) hx hb dX7_count_118 (by decide +kernel) ?_
          refine z_icmp_ne (tgt := 130) hx hb (by omega) (by omega) dX7_count_120 (by decide) (fun c120 => ?_) (fun c120 => ?_)
          · skip
            refine lv_aload_n hx hb dX7_count_130 rfl (lv_at hl 0 rfl) ?_
            refine z_get hx hb hown hts w inX7 0 0 rfl rfl (by decide) f_7 rfl rfl dX7_count_131 ?_
            refine lv_iload_n hx hb dX7_count_134 rfl (lv_at hl 1 rfl) ?_
            refine lv_bipush (v := zI 6) hx hb dX7_count_135 (by decide +kernel) ?_
            refine z_icmp_ne (tgt := 145) hx hb (by omega) (by omega) dX7_count_137 (by decide) (fun c137 => ?_) (fun c137 => ?_)
            · skip
              refine lv_iload_n hx hb dX7_count_145 rfl (lv_at hl 1 rfl) ?_
              refine lv_bipush (v := zI 7) hx hb dX7_count_146 (by decide +kernel) ?_
              refine z_icmp_ne (tgt := 156) hx hb (by omega) (by omega) dX7_count_148 (by decide) (fun c148 => ?_) (fun c148 => ?_)
              · skip
                refine lv_bipush (v := zI 74) hx hb dX7_count_156 (by decide +kernel) ?_
                refine z_lald hx hb w 1 rfl 74 (by omega) (by decide) rfl (v := (zL (S 74))) (if_pos (by omega)) dX7_count_158 ?_
                refine z_l2i hx hb dX7_count_159 ?_
                exact z_iret hx hb hr hlocks w dX7_count_160 (by first | (have e9 : w9 = 6 := (by omega); subst e9; exact ⟨rfl, rfl⟩) | (have e9 : w9 = 7 := (by omega); subst e9; exact ⟨rfl, rfl⟩) | (have e9 : w9 = 8 := (by omega); subst e9; exact ⟨rfl, rfl⟩) | (have e9 : w9 = 9 := (by omega); subst e9; exact ⟨rfl, rfl⟩) | (have e9 : w9 = 10 := (by omega); subst e9; exact ⟨rfl, rfl⟩))
              · skip
                refine lv_bipush (v := zI 73) hx hb dX7_count_151 (by decide +kernel) ?_
                refine lv_goto (tgt := 158) hx hb dX7_count_153 (by decide) ?_
                refine z_lald hx hb w 1 rfl 73 (by omega) (by decide) rfl (v := (zL (S 73))) (if_pos (by omega)) dX7_count_158 ?_
                refine z_l2i hx hb dX7_count_159 ?_
                exact z_iret hx hb hr hlocks w dX7_count_160 (by first | (have e9 : w9 = 6 := (by omega); subst e9; exact ⟨rfl, rfl⟩) | (have e9 : w9 = 7 := (by omega); subst e9; exact ⟨rfl, rfl⟩) | (have e9 : w9 = 8 := (by omega); subst e9; exact ⟨rfl, rfl⟩) | (have e9 : w9 = 9 := (by omega); subst e9; exact ⟨rfl, rfl⟩) | (have e9 : w9 = 10 := (by omega); subst e9; exact ⟨rfl, rfl⟩))
            · skip
              refine lv_bipush (v := zI 77) hx hb dX7_count_140 (by decide +kernel) ?_
              refine lv_goto (tgt := 158) hx hb dX7_count_142 (by decide) ?_
              refine z_lald hx hb w 1 rfl 77 (by omega) (by decide) rfl (v := (zL (S 77))) (if_pos (by omega)) dX7_count_158 ?_
              refine z_l2i hx hb dX7_count_159 ?_
              exact z_iret hx hb hr hlocks w dX7_count_160 (by first | (have e9 : w9 = 6 := (by omega); subst e9; exact ⟨rfl, rfl⟩) | (have e9 : w9 = 7 := (by omega); subst e9; exact ⟨rfl, rfl⟩) | (have e9 : w9 = 8 := (by omega); subst e9; exact ⟨rfl, rfl⟩) | (have e9 : w9 = 9 := (by omega); subst e9; exact ⟨rfl, rfl⟩) | (have e9 : w9 = 10 := (by omega); subst e9; exact ⟨rfl, rfl⟩))
          · skip
            refine lv_aload_n hx hb dX7_count_123 rfl (lv_at hl 0 rfl) ?_
            refine z_get hx hb hown hts w inX7 0 3 rfl rfl (by decide) f_44 rfl rfl dX7_count_124 ?_
            refine lv_goto (tgt := 160) hx hb dX7_count_127 (by decide) ?_
            exact z_iret hx hb hr hlocks w dX7_count_160 (by first | (have e9 : w9 = 6 := (by omega); subst e9; exact ⟨rfl, rfl⟩) | (have e9 : w9 = 7 := (by omega); subst e9; exact ⟨rfl, rfl⟩) | (have e9 : w9 = 8 := (by omega); subst e9; exact ⟨rfl, rfl⟩) | (have e9 : w9 = 9 := (by omega); subst e9; exact ⟨rfl, rfl⟩) | (have e9 : w9 = 10 := (by omega); subst e9; exact ⟨rfl, rfl⟩))
        · skip
          refine lv_aload_n hx hb dX7_count_110 rfl (lv_at hl 0 rfl) ?_
          refine z_get hx hb hown hts w inX7 0 7 rfl rfl (by decide) f_158 rfl rfl dX7_count_111 ?_
          refine lv_goto (tgt := 160) hx hb dX7_count_114 (by decide) ?_
          exact z_iret hx hb hr hlocks w dX7_count_160 (by first | (have e9 : w9 = 6 := (by omega); subst e9; exact ⟨rfl, rfl⟩) | (have e9 : w9 = 7 := (by omega); subst e9; exact ⟨rfl, rfl⟩) | (have e9 : w9 = 8 := (by omega); subst e9; exact ⟨rfl, rfl⟩) | (have e9 : w9 = 9 := (by omega); subst e9; exact ⟨rfl, rfl⟩) | (have e9 : w9 = 10 := (by omega); subst e9; exact ⟨rfl, rfl⟩))
      · skip
        refine lv_iload_n hx hb dX7_count_51 rfl (lv_at hl 1 rfl) ?_
        refine lv_iconst (v := zI 3) hx hb dX7_count_52 rfl ?_
        refine z_icmp_ne (tgt := 66) hx hb (by omega) (by omega) dX7_count_53 (by decide) (fun c53 => ?_) (fun c53 => ?_)
        · skip
          refine lv_iload_n hx hb dX7_count_66 rfl (lv_at hl 1 rfl) ?_
          refine lv_iconst (v := zI 4) hx hb dX7_count_67 rfl ?_
          refine z_icmp_eq (tgt := 85) hx hb (by omega) (by omega) dX7_count_68 (by decide) (fun c68 => ?_) (fun c68 => ?_)
          · skip
            refine lv_aload_n hx hb dX7_count_85 rfl (lv_at hl 0 rfl) ?_
            refine z_get hx hb hown hts w inX7 0 0 rfl rfl (by decide) f_7 rfl rfl dX7_count_86 ?_
            refine lv_bipush (v := zI 76) hx hb dX7_count_89 (by decide +kernel) ?_
            refine z_lald hx hb w 1 rfl 76 (by omega) (by decide) rfl (v := (zL (S 76))) (if_pos (by omega)) dX7_count_91 ?_
            refine z_l2i hx hb dX7_count_92 ?_
            refine lv_goto (tgt := 103) hx hb dX7_count_93 (by decide) ?_
            exact z_iret hx hb hr hlocks w dX7_count_103 (by first | (have e9 : w9 = 3 := (by omega); subst e9; exact ⟨rfl, rfl⟩) | (have e9 : w9 = 4 := (by omega); subst e9; exact ⟨rfl, rfl⟩) | (have e9 : w9 = 5 := (by omega); subst e9; refine ⟨?_, rfl⟩; show _ = zI (if S 76 = -6 then -6 else sBw S); first | (rw [if_pos (by omega)]; congr 1) | rw [if_neg (by omega)]))
          · skip
            refine lv_aload_n hx hb dX7_count_71 rfl (lv_at hl 0 rfl) ?_
            refine z_get hx hb hown hts w inX7 0 0 rfl rfl (by decide) f_7 rfl rfl dX7_count_72 ?_
            refine lv_bipush (v := zI 76) hx hb dX7_count_75 (by decide +kernel) ?_
            refine z_lald hx hb w 1 rfl 76 (by omega) (by decide) rfl (v := (zL (S 76))) (if_pos (by omega)) dX7_count_77 ?_
            refine lv_ldc2 (v := zL (-6)) hx hb hown (hts (.constantLong RX7 81 (zL (-6))) (by decide +kernel)) dX7_count_78 ?_
            refine z_lcmp_ne (tgt := 96) hx hb (by omega) (by omega) dX7_count_81 dX7_count_82 (by decide) (fun c81 => ?_) (fun c81 => ?_)
            · skip
              refine lv_aload_n hx hb dX7_count_96 rfl (lv_at hl 0 rfl) ?_
              refine z_get hx hb hown hts w inX7 0 0 rfl rfl (by decide) f_7 rfl rfl dX7_count_97 ?_
              refine z_S_i (As := [.ref ha]) (rest := []) (Wr := [(hmo, .inr (7, [.ref ha, .ref hth, .ref hpa, .int (zI (kp)), .ref hsl, .ref hhe, .ref hpd, .int (zI (pd)), .int (zI (ap)), .ref hor, .int (zI (od))]))]) ⟨hx, hb, hml, hown, hts⟩ (c_X7_bestWorth l D ha S hok hbe) (va_cwS 1 hts gX7_count_X7_bestWorth rfl rfl rfl (by decide +kernel) ⟨Nat.le_of_ble_eq_true rfl, Nat.le_of_ble_eq_true rfl⟩) w [1] rfl (by decide) [0] rfl (by decide) (by decide) rfl hl.1 rfl (lv_room (Nat.le_of_ble_eq_true rfl)) dX7_count_100 ⟨Nat.zero_le _, Nat.zero_le _⟩ (fun r W1 H locs hp w => ?_)
              obtain ⟨rfl, rfl⟩ := hp
              have w : zW D A s.heap s [(hmo, .inr (7, [.ref ha, .ref hth, .ref hpa, .int (zI (kp)), .ref hsl, .ref hhe, .ref hpd, .int (zI (pd)), .int (zI (ap)), .ref hor, .int (zI (od))])), (ha, .inl (D.2 1, 86, .inr (.inl (fNow S))))] H locs := w.sub [0, 1] (by decide) rfl
              exact z_iret hx hb hr hlocks w dX7_count_103 (by first | (have e9 : w9 = 3 := (by omega); subst e9; exact ⟨rfl, rfl⟩) | (have e9 : w9 = 4 := (by omega); subst e9; exact ⟨rfl, rfl⟩) | (have e9 : w9 = 5 := (by omega); subst e9; refine ⟨?_, rfl⟩; show _ = zI (if S 76 = -6 then -6 else sBw S); first | (rw [if_pos (by omega)]; congr 1) | rw [if_neg (by omega)]))
            · skip
              refine lv_aload_n hx hb dX7_count_85 rfl (lv_at hl 0 rfl) ?_
              refine z_get hx hb hown hts w inX7 0 0 rfl rfl (by decide) f_7 rfl rfl dX7_count_86 ?_
              refine lv_bipush (v := zI 76) hx hb dX7_count_89 (by decide +kernel) ?_
              refine z_lald hx hb w 1 rfl 76 (by omega) (by decide) rfl (v := (zL (S 76))) (if_pos (by omega)) dX7_count_91 ?_
              refine z_l2i hx hb dX7_count_92 ?_
              refine lv_goto (tgt := 103) hx hb dX7_count_93 (by decide) ?_
              exact z_iret hx hb hr hlocks w dX7_count_103 (by first | (have e9 : w9 = 3 := (by omega); subst e9; exact ⟨rfl, rfl⟩) | (have e9 : w9 = 4 := (by omega); subst e9; exact ⟨rfl, rfl⟩) | (have e9 : w9 = 5 := (by omega); subst e9; refine ⟨?_, rfl⟩; show _ = zI (if S 76 = -6 then -6 else sBw S); first | (rw [if_pos (by omega)]; congr 1) | rw [if_neg (by omega)]))
        · skip
          refine lv_aload_n hx hb dX7_count_56 rfl (lv_at hl 0 rfl) ?_
          refine z_get hx hb hown hts w inX7 0 0 rfl rfl (by decide) f_7 rfl rfl dX7_count_57 ?_
          refine z_S_i (As := [.ref ha]) (rest := []) (Wr := [(hmo, .inr (7, [.ref ha, .ref hth, .ref hpa, .int (zI (kp)), .ref hsl, .ref hhe, .ref hpd, .int (zI (pd)), .int (zI (ap)), .ref hor, .int (zI (od))]))]) ⟨hx, hb, hml, hown, hts⟩ (c_X7_relaxed l D ha S hok hokm) (va_cwS 1 hts gX7_count_X7_relaxed rfl rfl rfl (by decide +kernel) ⟨Nat.le_of_ble_eq_true rfl, Nat.le_of_ble_eq_true rfl⟩) w [1] rfl (by decide) [0] rfl (by decide) (by decide) rfl hl.1 rfl (lv_room (Nat.le_of_ble_eq_true rfl)) dX7_count_60 ⟨Nat.zero_le _, Nat.zero_le _⟩ (fun r W1 H locs hp w => ?_)
          obtain ⟨rfl, rfl⟩ := hp
          have w : zW D A s.heap s [(hmo, .inr (7, [.ref ha, .ref hth, .ref hpa, .int (zI (kp)), .ref hsl, .ref hhe, .ref hpd, .int (zI (pd)), .int (zI (ap)), .ref hor, .int (zI (od))])), (ha, .inl (D.2 1, 86, .inr (.inl (fNow S))))] H locs := w.sub [0, 1] (by decide) rfl
          refine lv_goto (tgt := 103) hx hb dX7_count_63 (by decide) ?_
          exact z_iret hx hb hr hlocks w dX7_count_103 (by first | (have e9 : w9 = 3 := (by omega); subst e9; exact ⟨rfl, rfl⟩) | (have e9 : w9 = 4 := (by omega); subst e9; exact ⟨rfl, rfl⟩) | (have e9 : w9 = 5 := (by omega); subst e9; refine ⟨?_, rfl⟩; show _ = zI (if S 76 = -6 then -6 else sBw S); first | (rw [if_pos (by omega)]; congr 1) | rw [if_neg (by omega)]))
    · skip
      refine lv_aload_n hx hb dX7_count_18 rfl (lv_at hl 0 rfl) ?_
      refine z_get hx hb hown hts w inX7 0 0 rfl rfl (by decide) f_7 rfl rfl dX7_count_19 ?_
      refine lv_iload_n hx hb dX7_count_22 rfl (lv_at hl 1 rfl) ?_
      refine z_if_ne (tgt := 30) hx hb (by omega) dX7_count_23 (by decide) (fun c23 => ?_) (fun c23 => ?_)
      · skip
        refine lv_iload_n hx hb dX7_count_30 rfl (lv_at hl 1 rfl) ?_
        refine lv_iconst (v := zI 1) hx hb dX7_count_31 rfl ?_
        refine z_icmp_ne (tgt := 40) hx hb (by omega) (by omega) dX7_count_32 (by decide) (fun c32 => ?_) (fun c32 => ?_)
        · skip
          refine lv_bipush (v := zI 72) hx hb dX7_count_40 (by decide +kernel) ?_
          refine z_lald hx hb w 1 rfl 72 (by omega) (by decide) rfl (v := (zL (S 72))) (if_pos (by omega)) dX7_count_42 ?_
          refine z_l2i hx hb dX7_count_43 ?_
          exact z_iret hx hb hr hlocks w dX7_count_44 (by first | (have e9 : w9 = 0 := (by omega); subst e9; exact ⟨rfl, rfl⟩) | (have e9 : w9 = 1 := (by omega); subst e9; exact ⟨rfl, rfl⟩) | (have e9 : w9 = 2 := (by omega); subst e9; exact ⟨rfl, rfl⟩))
        · skip
          refine lv_bipush (v := zI 71) hx hb dX7_count_35 (by decide +kernel) ?_
          refine lv_goto (tgt := 42) hx hb dX7_count_37 (by decide) ?_
          refine z_lald hx hb w 1 rfl 71 (by omega) (by decide) rfl (v := (zL (S 71))) (if_pos (by omega)) dX7_count_42 ?_
          refine z_l2i hx hb dX7_count_43 ?_
          exact z_iret hx hb hr hlocks w dX7_count_44 (by first | (have e9 : w9 = 0 := (by omega); subst e9; exact ⟨rfl, rfl⟩) | (have e9 : w9 = 1 := (by omega); subst e9; exact ⟨rfl, rfl⟩) | (have e9 : w9 = 2 := (by omega); subst e9; exact ⟨rfl, rfl⟩))
      · skip
        refine lv_iconst (v := zI 0) hx hb dX7_count_26 rfl ?_
        refine lv_goto (tgt := 42) hx hb dX7_count_27 (by decide) ?_
        refine z_lald hx hb w 1 rfl 0 (by omega) (by decide) rfl (v := (zL (S 0))) (if_pos (by omega)) dX7_count_42 ?_
        refine z_l2i hx hb dX7_count_43 ?_
        exact z_iret hx hb hr hlocks w dX7_count_44 (by first | (have e9 : w9 = 0 := (by omega); subst e9; exact ⟨rfl, rfl⟩) | (have e9 : w9 = 1 := (by omega); subst e9; exact ⟨rfl, rfl⟩) | (have e9 : w9 = 2 := (by omega); subst e9; exact ⟨rfl, rfl⟩))
  · skip
    refine lv_bipush (v := zI (-2)) hx hb dX7_count_10 (by decide +kernel) ?_
    exact z_iret hx hb hr hlocks w dX7_count_12 ⟨by unfold qCnt; rw [if_neg (by omega), if_neg (by omega), if_neg (by omega), if_neg (by omega), if_neg (by omega), if_neg (by omega), if_neg (by omega), if_neg (by omega), if_neg (by omega), if_neg (by omega), if_neg (by omega)], rfl⟩
set_option maxHeartbeats 6000000 in
set_option maxRecDepth 100000 in
theorem c_X7_bound (l : Launch) (D : zD) (hmo ha hth hpa hsl hhe hpd hor : Nat) (kp pd ap od : Int) (S : Nat → Int) (B : Int) (hB : B ≤ 2000000000) (hokS : OkS B S) (w9 : Int) (hw : zB w9) : zM l yX7_bound wsX7_bound (zR (4)) zE0 D [.ref hmo, .int (zI (w9))] (wMb D hmo ha hth hpa hsl hhe hpd hor kp pd ap od S) (zQl D (fun r W1 => r = zL (qBnd S w9) ∧ W1 = (wMb D hmo ha hth hpa hsl hhe hpd hor kp pd ap od S))) := by
  refine zM.of (cc := cX7_bound) (maxL := 2) (ret := (some .long)) (by decide) rfl (Nat.le_of_ble_eq_true rfl) ?_
  intro p e s m below meth c A hx hb hml hown hts hr hlocks hE hnm w ls hl
  have hown : s.vm.findClass RX7 = some m.cls := hown
  have hl : lv_has ls 2 [(0, .ref hmo), (1, .int (zI (w9)))] := hl
  have f_7 : (Cond.fieldLink RX7 7 "RelaxedStepsModel" "now" "[J").before _ s = true := hts _ (by decide +kernel)
  have inX7 : ∀ w ∈ u_ws RX7 TX7 11, w ∈ wsX7_bound := by decide +kernel
  obtain ⟨hok, hokm, hokb, hsc, hbe⟩ := id hokS
  have hokp := hok
  have hn := zn_eq hok
  have h16 := zn_le hok
  have hlim := hok.2.2
  have hm1 := hokm
  unfold OkM mu at hm1
  have hbd := sBd_b hok hokm
  have hkb := hokb.1
  have hbw := sBw_b hok
  have hqq := hok.1
  have w : zW D A s.heap s [(hmo, .inr (7, [.ref ha, .ref hth, .ref hpa, .int (zI (kp)), .ref hsl, .ref hhe, .ref hpd, .int (zI (pd)), .int (zI (ap)), .ref hor, .int (zI (od))])), (ha, .inl (D.2 1, 86, .inr (.inl (fNow S))))] s.heap [] := w
  refine lv_iload_n hx hb dX7_bound_0 rfl (lv_at hl 1 rfl) ?_
  refine lv_iconst (v := zI 0) hx hb dX7_bound_1 rfl ?_
  refine lv_iconst (v := zI 2) hx hb dX7_bound_2 rfl ?_
  refine z_S_i (As := [.int (zI (w9)), .int (zI (0)), .int (zI (2))]) (rest := []) (Wr := [(hmo, .inr (7, [.ref ha, .ref hth, .ref hpa, .int (zI (kp)), .ref hsl, .ref hhe, .ref hpd, .int (zI (pd)), .int (zI (ap)), .ref hor, .int (zI (od))])), (ha, .inl (D.2 1, 86, .inr (.inl (fNow S))))]) ⟨hx, hb, hml, hown, hts⟩ (c_X7_in l D w9 0 2 (by omega) (by omega) (by omega)) (va_cwS 3 hts gX7_bound_X7_in rfl rfl rfl (by decide +kernel) ⟨Nat.le_of_ble_eq_true rfl, Nat.le_of_ble_eq_true rfl⟩) w [] rfl (by decide) [0, 1] rfl (by decide) (by decide) rfl hl.1 rfl (lv_room (Nat.le_of_ble_eq_true rfl)) dX7_bound_3 ⟨Nat.zero_le _, Nat.zero_le _⟩ (fun r W1 H locs hp w => ?_)
  obtain ⟨rfl, rfl⟩ := hp
  have w : zW D A s.heap s [(hmo, .inr (7, [.ref ha, .ref hth, .ref hpa, .int (zI (kp)), .ref hsl, .ref hhe, .ref hpd, .int (zI (pd)), .int (zI (ap)), .ref hor, .int (zI (od))])), (ha, .inl (D.2 1, 86, .inr (.inl (fNow S))))] H locs := w.sub [0, 1] (by decide) rfl
  refine z_if_ne_b (tgt := 13) hx hb dX7_bound_6 (by decide) (fun c6 => ?_) (fun c6 => ?_)
  · skip
    refine lv_iload_n hx hb dX7_bound_13 rfl (lv_at hl 1 rfl) ?_
    refine z_if_ne (tgt := 27) hx hb (by omega) dX7_bound_14 (by decide) (fun c14 => ?_) (fun c14 => ?_)
    · skip
      refine lv_iload_n hx hb dX7_bound_27 rfl (lv_at hl 1 rfl) ?_
      refine lv_iconst (v := zI 1) hx hb dX7_bound_28 rfl ?_
      refine z_icmp_ne (tgt := 42) hx hb (by omega) (by omega) dX7_bound_29 (by decide) (fun c29 => ?_) (fun c29 => ?_)
      · skip
        refine lv_aload_n hx hb dX7_bound_42 rfl (lv_at hl 0 rfl) ?_
        refine z_get hx hb hown hts w inX7 0 0 rfl rfl (by decide) f_7 rfl rfl dX7_bound_43 ?_
        refine lv_bipush (v := zI 75) hx hb dX7_bound_46 (by decide +kernel) ?_
        refine z_lald hx hb w 1 rfl 75 (by omega) (by decide) rfl (v := (zL (S 75))) (if_pos (by omega)) dX7_bound_48 ?_
        refine lv_ldc2 (v := zL 100) hx hb hown (hts (.constantLong RX7 35 (zL 100)) (by decide +kernel)) dX7_bound_49 ?_
        refine lv_aload_n hx hb dX7_bound_52 rfl (lv_at hl 0 rfl) ?_
        refine z_get hx hb hown hts w inX7 0 0 rfl rfl (by decide) f_7 rfl rfl dX7_bound_53 ?_
        refine z_S_i (As := [.ref ha]) (rest := [.long (zL (100)), .long (zL (S 75))]) (Wr := [(hmo, .inr (7, [.ref ha, .ref hth, .ref hpa, .int (zI (kp)), .ref hsl, .ref hhe, .ref hpd, .int (zI (pd)), .int (zI (ap)), .ref hor, .int (zI (od))]))]) ⟨hx, hb, hml, hown, hts⟩ (c_X7_bestWorth l D ha S hok hbe) (va_cwS 1 hts gX7_bound_X7_bestWorth rfl rfl rfl (by decide +kernel) ⟨Nat.le_of_ble_eq_true rfl, Nat.le_of_ble_eq_true rfl⟩) w [1] rfl (by decide) [0] rfl (by decide) (by decide) rfl hl.1 rfl (lv_room (Nat.le_of_ble_eq_true rfl)) dX7_bound_56 ⟨Nat.zero_le _, Nat.zero_le _⟩ (fun r W1 H locs hp w => ?_)
        obtain ⟨rfl, rfl⟩ := hp
        have w : zW D A s.heap s [(hmo, .inr (7, [.ref ha, .ref hth, .ref hpa, .int (zI (kp)), .ref hsl, .ref hhe, .ref hpd, .int (zI (pd)), .int (zI (ap)), .ref hor, .int (zI (od))])), (ha, .inl (D.2 1, 86, .inr (.inl (fNow S))))] H locs := w.sub [0, 1] (by decide) rfl
        refine z_i2l hx hb (by omega) dX7_bound_59 ?_
        refine z_lmul hx hb dX7_bound_60 ?_
        refine z_lsub hx hb dX7_bound_61 ?_
        exact z_lret hx hb hr hlocks w dX7_bound_62 (by first | (have e9 : w9 = 0 := (by omega); subst e9; exact ⟨rfl, rfl⟩) | (have e9 : w9 = 1 := (by omega); subst e9; exact ⟨rfl, rfl⟩) | (have e9 : w9 = 2 := (by omega); subst e9; exact ⟨rfl, rfl⟩))
      · skip
        refine lv_aload_n hx hb dX7_bound_32 rfl (lv_at hl 0 rfl) ?_
        refine z_get hx hb hown hts w inX7 0 0 rfl rfl (by decide) f_7 rfl rfl dX7_bound_33 ?_
        refine lv_bipush (v := zI 75) hx hb dX7_bound_36 (by decide +kernel) ?_
        refine z_lald hx hb w 1 rfl 75 (by omega) (by decide) rfl (v := (zL (S 75))) (if_pos (by omega)) dX7_bound_38 ?_
        refine lv_goto (tgt := 62) hx hb dX7_bound_39 (by decide) ?_
        exact z_lret hx hb hr hlocks w dX7_bound_62 (by first | (have e9 : w9 = 0 := (by omega); subst e9; exact ⟨rfl, rfl⟩) | (have e9 : w9 = 1 := (by omega); subst e9; exact ⟨rfl, rfl⟩) | (have e9 : w9 = 2 := (by omega); subst e9; exact ⟨rfl, rfl⟩))
    · skip
      refine lv_aload_n hx hb dX7_bound_17 rfl (lv_at hl 0 rfl) ?_
      refine z_get hx hb hown hts w inX7 0 0 rfl rfl (by decide) f_7 rfl rfl dX7_bound_18 ?_
      refine z_S_l (As := [.ref ha]) (rest := []) (Wr := [(hmo, .inr (7, [.ref ha, .ref hth, .ref hpa, .int (zI (kp)), .ref hsl, .ref hhe, .ref hpd, .int (zI (pd)), .int (zI (ap)), .ref hor, .int (zI (od))]))]) ⟨hx, hb, hml, hown, hts⟩ (c_X7_boundOf l D ha S hok hokm) (va_cwS 1 hts gX7_bound_X7_boundOf rfl rfl rfl (by decide +kernel) ⟨Nat.le_of_ble_eq_true rfl, Nat.le_of_ble_eq_true rfl⟩) w [1] rfl (by decide) [0] rfl (by decide) (by decide) rfl hl.1 rfl (lv_room (Nat.le_of_ble_eq_true rfl)) dX7_bound_21 ⟨Nat.zero_le _, Nat.zero_le _⟩ (fun r W1 H locs hp w => ?_)
      obtain ⟨rfl, rfl⟩ := hp
      have w : zW D A s.heap s [(hmo, .inr (7, [.ref ha, .ref hth, .ref hpa, .int (zI (kp)), .ref hsl, .ref hhe, .ref hpd, .int (zI (pd)), .int (zI (ap)), .ref hor, .int (zI (od))])), (ha, .inl (D.2 1, 86, .inr (.inl (fNow S))))] H locs := w.sub [0, 1] (by decide) rfl
      refine lv_goto (tgt := 62) hx hb dX7_bound_24 (by decide) ?_
      exact z_lret hx hb hr hlocks w dX7_bound_62 (by first | (have e9 : w9 = 0 := (by omega); subst e9; exact ⟨rfl, rfl⟩) | (have e9 : w9 = 1 := (by omega); subst e9; exact ⟨rfl, rfl⟩) | (have e9 : w9 = 2 := (by omega); subst e9; exact ⟨rfl, rfl⟩))
  · skip
    refine lv_ldc2 (v := zL (-2)) hx hb hown (hts (.constantLong RX7 161 (zL (-2))) (by decide +kernel)) dX7_bound_9 ?_
    exact z_lret hx hb hr hlocks w dX7_bound_12 ⟨by unfold qBnd; rw [if_neg (by omega), if_neg (by omega), if_neg (by omega)], rfl⟩
set_option maxHeartbeats 6000000 in
set_option maxRecDepth 100000 in
theorem c_X7_boundThen (l : Launch) (D : zD) (hmo ha hth hpa hsl hhe hpd hor : Nat) (kp pd ap od : Int) (S : Nat → Int) (T9 : Nat → Int64) (B : Int) (hB : B ≤ 2000000000) (hokS : OkS B S) : zM l yX7_boundThen wsX7_boundThen (zR (6)) zE0 D [.ref hmo] [(hmo, .inr (7, [.ref ha, .ref hth, .ref hpa, .int (zI (kp)), .ref hsl, .ref hhe, .ref hpd, .int (zI (pd)), .int (zI (ap)), .ref hor, .int (zI (od))])), (ha, .inl (D.2 1, 86, .inr (.inl (fNow S)))), (hth, .inl (D.2 1, 86, .inr (.inl (T9))))] (zQl D (fun r W1 => r = zL (sBd S (sMv S)) ∧ ∃ T8, W1 = [(hmo, .inr (7, [.ref ha, .ref hth, .ref hpa, .int (zI (kp)), .ref hsl, .ref hhe, .ref hpd, .int (zI (pd)), .int (zI (ap)), .ref hor, .int (zI (od))])), (ha, .inl (D.2 1, 86, .inr (.inl (fNow S)))), (hth, .inl (D.2 1, 86, .inr (.inl (T8))))])) := by
  refine zM.of (cc := cX7_boundThen) (maxL := 1) (ret := (some .long)) (by decide) rfl (Nat.le_of_ble_eq_true rfl) ?_
  intro p e s m below meth c A hx hb hml hown hts hr hlocks hE hnm w ls hl
  have hown : s.vm.findClass RX7 = some m.cls := hown
  have hl : lv_has ls 1 [(0, .ref hmo)] := hl
  have f_7 : (Cond.fieldLink RX7 7 "RelaxedStepsModel" "now" "[J").before _ s = true := hts _ (by decide +kernel)
  have f_13 : (Cond.fieldLink RX7 13 "RelaxedStepsModel" "then" "[J").before _ s = true := hts _ (by decide +kernel)
  have inX7 : ∀ w ∈ u_ws RX7 TX7 11, w ∈ wsX7_boundThen := by decide +kernel
  obtain ⟨hok, hokm, hokb, hsc, hbe⟩ := id hokS
  have hokp := hok
  have hn := zn_eq hok
  have h16 := zn_le hok
  have hlim := hok.2.2
  have hm1 := hokm
  unfold OkM mu at hm1
  have hbd := sBd_b hok hokm
  have hkb := hokb.1
  have hbw := sBw_b hok
  have hqq := hok.1
  have hokt := OkS_st hokS
  have w : zW D A s.heap s [(hmo, .inr (7, [.ref ha, .ref hth, .ref hpa, .int (zI (kp)), .ref hsl, .ref hhe, .ref hpd, .int (zI (pd)), .int (zI (ap)), .ref hor, .int (zI (od))])), (ha, .inl (D.2 1, 86, .inr (.inl (fNow S)))), (hth, .inl (D.2 1, 86, .inr (.inl (T9))))] s.heap [] := w
  refine lv_aload_n hx hb dX7_boundThen_0 rfl (lv_at hl 0 rfl) ?_
  refine z_get hx hb hown hts w inX7 0 0 rfl rfl (by decide) f_7 rfl rfl dX7_boundThen_1 ?_
  refine lv_iconst (v := zI 0) hx hb dX7_boundThen_4 rfl ?_
  refine lv_aload_n hx hb dX7_boundThen_5 rfl (lv_at hl 0 rfl) ?_
  refine z_get hx hb hown hts w inX7 0 1 rfl rfl (by decide) f_13 rfl rfl dX7_boundThen_6 ?_
  refine lv_iconst (v := zI 0) hx hb dX7_boundThen_9 rfl ?_
  refine z_S_v (As := [.ref ha, .int (zI (0)), .ref hth, .int (zI (0))]) (rest := []) (Wr := [(hmo, .inr (7, [.ref ha, .ref hth, .ref hpa, .int (zI (kp)), .ref hsl, .ref hhe, .ref hpd, .int (zI (pd)), .int (zI (ap)), .ref hor, .int (zI (od))]))]) ⟨hx, hb, hml, hown, hts⟩ (c_X7_lays l D ha hth 86 86 0 0 (fNow S) T9 (by omega) (by omega) (by omega) (by omega)) (va_cwS 4 hts gX7_boundThen_X7_lays rfl rfl rfl (by decide +kernel) ⟨Nat.le_of_ble_eq_true rfl, Nat.le_of_ble_eq_true rfl⟩) w [1, 2] rfl (by decide) [0] rfl (by decide) (by decide) rfl hl.1 rfl (lv_room (Nat.le_of_ble_eq_true rfl)) dX7_boundThen_10 ⟨Nat.zero_le _, Nat.zero_le _⟩ (fun W1 H locs hp w => ?_)
  subst hp
  have w : zW D A s.heap s [(hmo, .inr (7, [.ref ha, .ref hth, .ref hpa, .int (zI (kp)), .ref hsl, .ref hhe, .ref hpd, .int (zI (pd)), .int (zI (ap)), .ref hor, .int (zI (od))])), (ha, .inl (D.2 1, 86, .inr (.inl (fNow S)))), (hth, .inl (D.2 1, 86, .inr (.inl (fLy (fNow S) T9 0 0 86))))] H locs := w.sub [0, 1, 2] (by decide) rfl
  have w : zW D A s.heap s [(hmo, .inr (7, [.ref ha, .ref hth, .ref hpa, .int (zI (kp)), .ref hsl, .ref hhe, .ref hpd, .int (zI (pd)), .int (zI (ap)), .ref hor, .int (zI (od))])), (ha, .inl (D.2 1, 86, .inr (.inl (fNow S)))), (hth, .inl (D.2 1, 86, .inr (.inl (fNow S))))] H locs := w.arr 2 rfl (zE_l (fun j hj => fLy_nw hj))
  refine lv_aload_n hx hb dX7_boundThen_13 rfl (lv_at hl 0 rfl) ?_
  refine z_get hx hb hown hts w inX7 0 1 rfl rfl (by decide) f_13 rfl rfl dX7_boundThen_14 ?_
  refine z_S_i (As := [.ref hth]) (rest := []) (Wr := [(hmo, .inr (7, [.ref ha, .ref hth, .ref hpa, .int (zI (kp)), .ref hsl, .ref hhe, .ref hpd, .int (zI (pd)), .int (zI (ap)), .ref hor, .int (zI (od))])), (ha, .inl (D.2 1, 86, .inr (.inl (fNow S))))]) ⟨hx, hb, hml, hown, hts⟩ (c_X7_steps l D hth S B (by omega) hokS) (va_cwS 1 hts gX7_boundThen_X7_steps rfl rfl rfl (by decide +kernel) ⟨Nat.le_of_ble_eq_true rfl, Nat.le_of_ble_eq_true rfl⟩) w [2] rfl (by decide) [0, 1] rfl (by decide) (by decide) rfl hl.1 rfl (lv_room (Nat.le_of_ble_eq_true rfl)) dX7_boundThen_17 ⟨Nat.zero_le _, Nat.zero_le _⟩ (fun r W1 H locs hp w => ?_)
  obtain ⟨rfl, rfl⟩ := hp
  have w : zW D A s.heap s [(hmo, .inr (7, [.ref ha, .ref hth, .ref hpa, .int (zI (kp)), .ref hsl, .ref hhe, .ref hpd, .int (zI (pd)), .int (zI (ap)), .ref hor, .int (zI (od))])), (ha, .inl (D.2 1, 86, .inr (.inl (fNow S)))), (hth, .inl (D.2 1, 86, .inr (.inl (fNow (sSt S)))))] H locs := w.sub [0, 1, 2] (by decide) rfl
  refine lv_pop hx hb dX7_boundThen_20 rfl ?_
  refine lv_aload_n hx hb dX7_boundThen_21 rfl (lv_at hl 0 rfl) ?_
  refine z_get hx hb hown hts w inX7 0 1 rfl rfl (by decide) f_13 rfl rfl dX7_boundThen_22 ?_
  refine z_S_l (As := [.ref hth]) (rest := []) (Wr := [(hmo, .inr (7, [.ref ha, .ref hth, .ref hpa, .int (zI (kp)), .ref hsl, .ref hhe, .ref hpd, .int (zI (pd)), .int (zI (ap)), .ref hor, .int (zI (od))])), (ha, .inl (D.2 1, 86, .inr (.inl (fNow S))))]) ⟨hx, hb, hml, hown, hts⟩ (c_X7_boundOf l D hth (sSt S) hokt.1 hokt.2.1) (va_cwS 1 hts gX7_boundThen_X7_boundOf rfl rfl rfl (by decide +kernel) ⟨Nat.le_of_ble_eq_true rfl, Nat.le_of_ble_eq_true rfl⟩) w [2] rfl (by decide) [0, 1] rfl (by decide) (by decide) rfl hl.1 rfl (lv_room (Nat.le_of_ble_eq_true rfl)) dX7_boundThen_25 ⟨Nat.zero_le _, Nat.zero_le _⟩ (fun r W1 H locs hp w => ?_)
  obtain ⟨rfl, rfl⟩ := hp
  have w : zW D A s.heap s [(hmo, .inr (7, [.ref ha, .ref hth, .ref hpa, .int (zI (kp)), .ref hsl, .ref hhe, .ref hpd, .int (zI (pd)), .int (zI (ap)), .ref hor, .int (zI (od))])), (ha, .inl (D.2 1, 86, .inr (.inl (fNow S)))), (hth, .inl (D.2 1, 86, .inr (.inl (fNow (sSt S)))))] H locs := w.sub [0, 1, 2] (by decide) rfl
  exact z_lret hx hb hr hlocks w dX7_boundThen_28 ⟨by rw [sBd_st h16], _, rfl⟩
set_option maxHeartbeats 6000000 in
set_option maxRecDepth 100000 in
theorem c_X7_best (l : Launch) (D : zD) (hmo ha hth hpa hsl hhe hpd hor : Nat) (kp pd ap od : Int) (S : Nat → Int) (B : Int) (hB : B ≤ 2000000000) (hokS : OkS B S) (w9 : Int) (hw : zB w9) : zM l yX7_best wsX7_best (zR (4)) zE0 D [.ref hmo, .int (zI (w9))] (wMb D hmo ha hth hpa hsl hhe hpd hor kp pd ap od S) (zQi D (fun r W1 => r = zI (qBest S w9) ∧ W1 = (wMb D hmo ha hth hpa hsl hhe hpd hor kp pd ap od S))) := by
  refine zM.of (cc := cX7_best) (maxL := 3) (ret := (some .int)) (by decide) rfl (Nat.le_of_ble_eq_true rfl) ?_
  intro p e s m below meth c A hx hb hml hown hts hr hlocks hE hnm w ls hl
  have hown : s.vm.findClass RX7 = some m.cls := hown
  have hl : lv_has ls 3 [(0, .ref hmo), (1, .int (zI (w9)))] := hl
  have f_7 : (Cond.fieldLink RX7 7 "RelaxedStepsModel" "now" "[J").before _ s = true := hts _ (by decide +kernel)
  have inX7 : ∀ w ∈ u_ws RX7 TX7 11, w ∈ wsX7_best := by decide +kernel
  obtain ⟨hok, hokm, hokb, hsc, hbe⟩ := id hokS
  have hokp := hok
  have hn := zn_eq hok
  have h16 := zn_le hok
  have hlim := hok.2.2
  have hm1 := hokm
  unfold OkM mu at hm1
  have hbd := sBd_b hok hokm
  have hkb := hokb.1
  have hbw := sBw_b hok
  have hqq := hok.1
  have hbl := sBst_16 hok.toI
  have w : zW D A s.heap s [(hmo, .inr (7, [.ref ha, .ref hth, .ref hpa, .int (zI (kp)), .ref hsl, .ref hhe, .ref hpd, .int (zI (pd)), .int (zI (ap)), .ref hor, .int (zI (od))])), (ha, .inl (D.2 1, 86, .inr (.inl (fNow S))))] s.heap [] := w
  refine lv_iload_n hx hb dX7_best_0 rfl (lv_at hl 1 rfl) ?_
  refine lv_iconst (v := zI 0) hx hb dX7_best_1 rfl ?_
  refine lv_iconst (v := zI 1) hx hb dX7_best_2 rfl ?_
  refine z_S_i (As := [.int (zI (w9)), .int (zI (0)), .int (zI (1))]) (rest := []) (Wr := [(hmo, .inr (7, [.ref ha, .ref hth, .ref hpa, .int (zI (kp)), .ref hsl, .ref hhe, .ref hpd, .int (zI (pd)), .int (zI (ap)), .ref hor, .int (zI (od))])), (ha, .inl (D.2 1, 86, .inr (.inl (fNow S))))]) ⟨hx, hb, hml, hown, hts⟩ (c_X7_in l D w9 0 1 (by omega) (by omega) (by omega)) (va_cwS 3 hts gX7_best_X7_in rfl rfl rfl (by decide +kernel) ⟨Nat.le_of_ble_eq_true rfl, Nat.le_of_ble_eq_true rfl⟩) w [] rfl (by decide) [0, 1] rfl (by decide) (by decide) rfl hl.1 rfl (lv_room (Nat.le_of_ble_eq_true rfl)) dX7_best_3 ⟨Nat.zero_le _, Nat.zero_le _⟩ (fun r W1 H locs hp w => ?_)
  obtain ⟨rfl, rfl⟩ := hp
  have w : zW D A s.heap s [(hmo, .inr (7, [.ref ha, .ref hth, .ref hpa, .int (zI (kp)), .ref hsl, .ref hhe, .ref hpd, .int (zI (pd)), .int (zI (ap)), .ref hor, .int (zI (od))])), (ha, .inl (D.2 1, 86, .inr (.inl (fNow S))))] H locs := w.sub [0, 1] (by decide) rfl
  refine z_if_ne_b (tgt := 12) hx hb dX7_best_6 (by decide) (fun c6 => ?_) (fun c6 => ?_)
  · skip
    refine lv_aload_n hx hb dX7_best_12 rfl (lv_at hl 0 rfl) ?_
    refine z_get hx hb hown hts w inX7 0 0 rfl rfl (by decide) f_7 rfl rfl dX7_best_13 ?_
    refine z_S_i (As := [.ref ha]) (rest := []) (Wr := [(hmo, .inr (7, [.ref ha, .ref hth, .ref hpa, .int (zI (kp)), .ref hsl, .ref hhe, .ref hpd, .int (zI (pd)), .int (zI (ap)), .ref hor, .int (zI (od))]))]) ⟨hx, hb, hml, hown, hts⟩ (c_X7_bestSet l D ha S hok.toI) (va_cwS 1 hts gX7_best_X7_bestSet rfl rfl rfl (by decide +kernel) ⟨Nat.le_of_ble_eq_true rfl, Nat.le_of_ble_eq_true rfl⟩) w [1] rfl (by decide) [0] rfl (by decide) (by decide) rfl hl.1 rfl (lv_room (Nat.le_of_ble_eq_true rfl)) dX7_best_16 ⟨Nat.zero_le _, Nat.zero_le _⟩ (fun r W1 H locs hp w => ?_)
    obtain ⟨rfl, rfl⟩ := hp
    have w : zW D A s.heap s [(hmo, .inr (7, [.ref ha, .ref hth, .ref hpa, .int (zI (kp)), .ref hsl, .ref hhe, .ref hpd, .int (zI (pd)), .int (zI (ap)), .ref hor, .int (zI (od))])), (ha, .inl (D.2 1, 86, .inr (.inl (fNow S))))] H locs := w.sub [0, 1] (by decide) rfl
    refine lv_istore_n (lv' := [(2, .int (zI (((sBst S : Nat) : Int)))), (0, .ref hmo), (1, .int (zI (w9)))]) hx hb dX7_best_19 rfl hl (by decide) rfl (fun ls hl => ?_)
    refine lv_iload_n hx hb dX7_best_20 rfl (lv_at hl 2 rfl) ?_
    refine z_if_ne (tgt := 36) hx hb (by omega) dX7_best_21 (by decide) (fun c21 => ?_) (fun c21 => ?_)
    · skip
      refine lv_iload_n hx hb dX7_best_36 rfl (lv_at hl 0 rfl) ?_
      exact z_iret hx hb hr hlocks w dX7_best_37 ⟨by unfold qBest; rw [if_pos c6]; first | rw [if_pos (by omega)] | rw [if_neg (by omega)], rfl⟩
    · skip
      refine lv_aload_n hx hb dX7_best_24 rfl (lv_at hl 1 rfl) ?_
      refine z_get hx hb hown hts w inX7 0 0 rfl rfl (by decide) f_7 rfl rfl dX7_best_25 ?_
      refine lv_iload_n hx hb dX7_best_28 rfl (lv_at hl 0 rfl) ?_
      refine lv_iconst (v := zI 0) hx hb dX7_best_29 rfl ?_
      refine z_S_i (As := [.ref ha, .int (zI (((sBst S : Nat) : Int))), .int (zI (0))]) (rest := []) (Wr := [(hmo, .inr (7, [.ref ha, .ref hth, .ref hpa, .int (zI (kp)), .ref hsl, .ref hhe, .ref hpd, .int (zI (pd)), .int (zI (ap)), .ref hor, .int (zI (od))]))]) ⟨hx, hb, hml, hown, hts⟩ (c_X7_sum l D ha S hok (sBst S) 0 (by omega) (by omega)) (va_cwS 3 hts gX7_best_X7_sum rfl rfl rfl (by decide +kernel) ⟨Nat.le_of_ble_eq_true rfl, Nat.le_of_ble_eq_true rfl⟩) w [1] rfl (by decide) [0] rfl (by decide) (by decide) rfl hl.1 rfl (lv_room (Nat.le_of_ble_eq_true rfl)) dX7_best_30 ⟨Nat.zero_le _, Nat.zero_le _⟩ (fun r W1 H locs hp w => ?_)
      obtain ⟨rfl, rfl⟩ := hp
      have w : zW D A s.heap s [(hmo, .inr (7, [.ref ha, .ref hth, .ref hpa, .int (zI (kp)), .ref hsl, .ref hhe, .ref hpd, .int (zI (pd)), .int (zI (ap)), .ref hor, .int (zI (od))])), (ha, .inl (D.2 1, 86, .inr (.inl (fNow S))))] H locs := w.sub [0, 1] (by decide) rfl
      refine lv_goto (tgt := 37) hx hb dX7_best_33 (by decide) ?_
      exact z_iret hx hb hr hlocks w dX7_best_37 ⟨by unfold qBest; rw [if_pos c6]; first | rw [if_pos (by omega)] | rw [if_neg (by omega)], rfl⟩
  · skip
    refine lv_bipush (v := zI (-2)) hx hb dX7_best_9 (by decide +kernel) ?_
    exact z_iret hx hb hr hlocks w dX7_best_11 ⟨by unfold qBest; rw [if_neg c6], rfl⟩
set_option maxHeartbeats 6000000 in
set_option maxRecDepth 100000 in
theorem c_X7_worthOfD (l : Launch) (D : zD) (hmo ha hth hpa hsl hhe hpd hor : Nat) (kp pd ap od : Int) (S : Nat → Int) (T9 : Nat → Int64) (B : Int) (hB : B ≤ 2000000000) (hokS : OkS B S) (d : Nat) (hd : d < 3) (u : Int) (hu : zB u) : zM l yX7_worthOf wsX7_worthOf (zR (5)) zE0 D [.ref hmo, .int (zI (((d : Nat) : Int))), .int (zI (u))] [(hmo, .inr (7, [.ref ha, .ref hth, .ref hpa, .int (zI (kp)), .ref hsl, .ref hhe, .ref hpd, .int (zI (pd)), .int (zI (ap)), .ref hor, .int (zI (od))])), (ha, .inl (D.2 1, 86, .inr (.inl (fNow S)))), (hth, .inl (D.2 1, 86, .inr (.inl (T9))))] (zQi D (fun r W1 => r = zI (qWor S ((d : Nat) : Int) u) ∧ ∃ T8, W1 = [(hmo, .inr (7, [.ref ha, .ref hth, .ref hpa, .int (zI (kp)), .ref hsl, .ref hhe, .ref hpd, .int (zI (pd)), .int (zI (ap)), .ref hor, .int (zI (od))])), (ha, .inl (D.2 1, 86, .inr (.inl (fNow S)))), (hth, .inl (D.2 1, 86, .inr (.inl (T8))))])) := by
  refine zM.of (cc := cX7_worthOf) (maxL := 3) (ret := (some .int)) (by decide) rfl (Nat.le_of_ble_eq_true rfl) ?_
  intro p e s m below meth c A hx hb hml hown hts hr hlocks hE hnm w ls hl
  have hown : s.vm.findClass RX7 = some m.cls := hown
  have hl : lv_has ls 3 [(0, .ref hmo), (1, .int (zI (((d : Nat) : Int)))), (2, .int (zI (u)))] := hl
  have f_7 : (Cond.fieldLink RX7 7 "RelaxedStepsModel" "now" "[J").before _ s = true := hts _ (by decide +kernel)
  have f_13 : (Cond.fieldLink RX7 13 "RelaxedStepsModel" "then" "[J").before _ s = true := hts _ (by decide +kernel)
  have inX7 : ∀ w ∈ u_ws RX7 TX7 11, w ∈ wsX7_worthOf := by decide +kernel
  obtain ⟨hok, hokm, hokb, hsc, hbe⟩ := id hokS
  have hokp := hok
  have hn := zn_eq hok
  have h16 := zn_le hok
  have hlim := hok.2.2
  have hm1 := hokm
  unfold OkM mu at hm1
  have hbd := sBd_b hok hokm
  have hkb := hokb.1
  have hbw := sBw_b hok
  have hqq := hok.1
  have hbl := sBst_16 hok.toI
  have w : zW D A s.heap s [(hmo, .inr (7, [.ref ha, .ref hth, .ref hpa, .int (zI (kp)), .ref hsl, .ref hhe, .ref hpd, .int (zI (pd)), .int (zI (ap)), .ref hor, .int (zI (od))])), (ha, .inl (D.2 1, 86, .inr (.inl (fNow S)))), (hth, .inl (D.2 1, 86, .inr (.inl (T9))))] s.heap [] := w
  refine lv_iload_n hx hb dX7_worthOf_0 rfl (lv_at hl 1 rfl) ?_
  refine z_S_i (As := [.int (zI (((d : Nat) : Int)))]) (rest := []) (Wr := [(hmo, .inr (7, [.ref ha, .ref hth, .ref hpa, .int (zI (kp)), .ref hsl, .ref hhe, .ref hpd, .int (zI (pd)), .int (zI (ap)), .ref hor, .int (zI (od))])), (ha, .inl (D.2 1, 86, .inr (.inl (fNow S)))), (hth, .inl (D.2 1, 86, .inr (.inl (T9))))]) ⟨hx, hb, hml, hown, hts⟩ (c_X7_isWay l D ((d : Nat) : Int) (by omega)) (va_cwS 1 hts gX7_worthOf_X7_isWay rfl rfl rfl (by decide +kernel) ⟨Nat.le_of_ble_eq_true rfl, Nat.le_of_ble_eq_true rfl⟩) w [] rfl (by decide) [0, 1, 2] rfl (by decide) (by decide) rfl hl.1 rfl (lv_room (Nat.le_of_ble_eq_true rfl)) dX7_worthOf_1 ⟨Nat.zero_le _, Nat.zero_le _⟩ (fun r W1 H locs hp w => ?_)
  obtain ⟨rfl, rfl⟩ := hp
  have w : zW D A s.heap s [(hmo, .inr (7, [.ref ha, .ref hth, .ref hpa, .int (zI (kp)), .ref hsl, .ref hhe, .ref hpd, .int (zI (pd)), .int (zI (ap)), .ref hor, .int (zI (od))])), (ha, .inl (D.2 1, 86, .inr (.inl (fNow S)))), (hth, .inl (D.2 1, 86, .inr (.inl (T9))))] H locs := w.sub [0, 1, 2] (by decide) rfl
  refine z_if_ne_b (tgt := 9) hx hb dX7_worthOf_4 (by decide) (fun c4 => ?_) (fun c4 => ?_)
  · skip
    refine lv_iload_n hx hb dX7_worthOf_9 rfl (lv_at hl 2 rfl) ?_
    refine lv_iconst (v := zI 1) hx hb dX7_worthOf_10 rfl ?_
    refine lv_bipush (v := zI 99) hx hb dX7_worthOf_11 (by decide +kernel) ?_
    refine z_S_i (As := [.int (zI (u)), .int (zI (1)), .int (zI (99))]) (rest := []) (Wr := [(hmo, .inr (7, [.ref ha, .ref hth, .ref hpa, .int (zI (kp)), .ref hsl, .ref hhe, .ref hpd, .int (zI (pd)), .int (zI (ap)), .ref hor, .int (zI (od))])), (ha, .inl (D.2 1, 86, .inr (.inl (fNow S)))), (hth, .inl (D.2 1, 86, .inr (.inl (T9))))]) ⟨hx, hb, hml, hown, hts⟩ (c_X7_in l D u 1 99 (by omega) (by omega) (by omega)) (va_cwS 3 hts gX7_worthOf_X7_in rfl rfl rfl (by decide +kernel) ⟨Nat.le_of_ble_eq_true rfl, Nat.le_of_ble_eq_true rfl⟩) w [] rfl (by decide) [0, 1, 2] rfl (by decide) (by decide) rfl hl.1 rfl (lv_room (Nat.le_of_ble_eq_true rfl)) dX7_worthOf_13 ⟨Nat.zero_le _, Nat.zero_le _⟩ (fun r W1 H locs hp w => ?_)
    obtain ⟨rfl, rfl⟩ := hp
    have w : zW D A s.heap s [(hmo, .inr (7, [.ref ha, .ref hth, .ref hpa, .int (zI (kp)), .ref hsl, .ref hhe, .ref hpd, .int (zI (pd)), .int (zI (ap)), .ref hor, .int (zI (od))])), (ha, .inl (D.2 1, 86, .inr (.inl (fNow S)))), (hth, .inl (D.2 1, 86, .inr (.inl (T9))))] H locs := w.sub [0, 1, 2] (by decide) rfl
    refine z_if_ne_b (tgt := 22) hx hb dX7_worthOf_16 (by decide) (fun c16 => ?_) (fun c16 => ?_)
    · skip
      refine lv_aload_n hx hb dX7_worthOf_22 rfl (lv_at hl 0 rfl) ?_
      refine z_get hx hb hown hts w inX7 0 0 rfl rfl (by decide) f_7 rfl rfl dX7_worthOf_23 ?_
      refine lv_iconst (v := zI 0) hx hb dX7_worthOf_26 rfl ?_
      refine lv_aload_n hx hb dX7_worthOf_27 rfl (lv_at hl 0 rfl) ?_
      refine z_get hx hb hown hts w inX7 0 1 rfl rfl (by decide) f_13 rfl rfl dX7_worthOf_28 ?_
      refine lv_iconst (v := zI 0) hx hb dX7_worthOf_31 rfl ?_
      refine z_S_v (As := [.ref ha, .int (zI (0)), .ref hth, .int (zI (0))]) (rest := []) (Wr := [(hmo, .inr (7, [.ref ha, .ref hth, .ref hpa, .int (zI (kp)), .ref hsl, .ref hhe, .ref hpd, .int (zI (pd)), .int (zI (ap)), .ref hor, .int (zI (od))]))]) ⟨hx, hb, hml, hown, hts⟩ (c_X7_lays l D ha hth 86 86 0 0 (fNow S) T9 (by omega) (by omega) (by omega) (by omega)) (va_cwS 4 hts gX7_worthOf_X7_lays rfl rfl rfl (by decide +kernel) ⟨Nat.le_of_ble_eq_true rfl, Nat.le_of_ble_eq_true rfl⟩) w [1, 2] rfl (by decide) [0] rfl (by decide) (by decide) rfl hl.1 rfl (lv_room (Nat.le_of_ble_eq_true rfl)) dX7_worthOf_32 ⟨Nat.zero_le _, Nat.zero_le _⟩ (fun W1 H locs hp w => ?_)
      subst hp
      have w : zW D A s.heap s [(hmo, .inr (7, [.ref ha, .ref hth, .ref hpa, .int (zI (kp)), .ref hsl, .ref hhe, .ref hpd, .int (zI (pd)), .int (zI (ap)), .ref hor, .int (zI (od))])), (ha, .inl (D.2 1, 86, .inr (.inl (fNow S)))), (hth, .inl (D.2 1, 86, .inr (.inl (fLy (fNow S) T9 0 0 86))))] H locs := w.sub [0, 1, 2] (by decide) rfl
      have w : zW D A s.heap s [(hmo, .inr (7, [.ref ha, .ref hth, .ref hpa, .int (zI (kp)), .ref hsl, .ref hhe, .ref hpd, .int (zI (pd)), .int (zI (ap)), .ref hor, .int (zI (od))])), (ha, .inl (D.2 1, 86, .inr (.inl (fNow S)))), (hth, .inl (D.2 1, 86, .inr (.inl (fNow S))))] H locs := w.arr 2 rfl (zE_l (fun j hj => fLy_nw hj))
      refine lv_aload_n hx hb dX7_worthOf_35 rfl (lv_at hl 0 rfl) ?_
      refine z_get hx hb hown hts w inX7 0 1 rfl rfl (by decide) f_13 rfl rfl dX7_worthOf_36 ?_
      refine lv_bipush (v := zI 65) hx hb dX7_worthOf_39 (by decide +kernel) ?_
      refine lv_iload_n hx hb dX7_worthOf_41 rfl (lv_at hl 1 rfl) ?_
      refine z_iadd hx hb dX7_worthOf_42 ?_
      have hoki : OkI (lmu S d u) := OkI_lmu hok hd (by omega)
      have hblu : sBst (zu S (65 + d) (S (65 + d) + u)) < 65536 := sBst_16 hoki
      refine lv_dup2_11 hx hb dX7_worthOf_43 rfl rfl ?_
      refine z_lald hx hb w 2 rfl (65 + d) (by omega) (by decide) (by omega) (v := (zL (S (65 + d)))) (if_pos (by omega)) dX7_worthOf_44 ?_
      refine lv_iload_n hx hb dX7_worthOf_45 rfl (lv_at hl 2 rfl) ?_
      refine z_i2l hx hb (by omega) dX7_worthOf_46 ?_
      refine z_ladd hx hb dX7_worthOf_47 ?_
      refine z_last hx hb w 2 rfl (65 + d) (by omega) (by decide) (by omega) dX7_worthOf_48 (fNow (zu S (65 + d) ((S (65 + d)) + u))) (fun i hi => fNow_zu hi) (fun H locs w => ?_)
      have w : zW D A s.heap s [(hmo, .inr (7, [.ref ha, .ref hth, .ref hpa, .int (zI (kp)), .ref hsl, .ref hhe, .ref hpd, .int (zI (pd)), .int (zI (ap)), .ref hor, .int (zI (od))])), (ha, .inl (D.2 1, 86, .inr (.inl (fNow S)))), (hth, .inl (D.2 1, 86, .inr (.inl (fNow (zu S (65 + d) ((S (65 + d)) + u))))))] H locs := w
      refine lv_aload_n hx hb dX7_worthOf_49 rfl (lv_at hl 0 rfl) ?_
      refine z_get hx hb hown hts w inX7 0 1 rfl rfl (by decide) f_13 rfl rfl dX7_worthOf_50 ?_
      refine lv_aload_n hx hb dX7_worthOf_53 rfl (lv_at hl 0 rfl) ?_
      refine z_get hx hb hown hts w inX7 0 1 rfl rfl (by decide) f_13 rfl rfl dX7_worthOf_54 ?_
      refine z_S_i (As := [.ref hth]) (rest := [.ref hth]) (Wr := [(hmo, .inr (7, [.ref ha, .ref hth, .ref hpa, .int (zI (kp)), .ref hsl, .ref hhe, .ref hpd, .int (zI (pd)), .int (zI (ap)), .ref hor, .int (zI (od))])), (ha, .inl (D.2 1, 86, .inr (.inl (fNow S))))]) ⟨hx, hb, hml, hown, hts⟩ (c_X7_bestSet l D hth (zu S (65 + d) ((S (65 + d)) + u)) hoki) (va_cwS 1 hts gX7_worthOf_X7_bestSet rfl rfl rfl (by decide +kernel) ⟨Nat.le_of_ble_eq_true rfl, Nat.le_of_ble_eq_true rfl⟩) w [2] rfl (by decide) [0, 1] rfl (by decide) (by decide) rfl hl.1 rfl (lv_room (Nat.le_of_ble_eq_true rfl)) dX7_worthOf_57 ⟨Nat.zero_le _, Nat.zero_le _⟩ (fun r W1 H locs hp w => ?_)
      obtain ⟨rfl, rfl⟩ := hp
      have w : zW D A s.heap s [(hmo, .inr (7, [.ref ha, .ref hth, .ref hpa, .int (zI (kp)), .ref hsl, .ref hhe, .ref hpd, .int (zI (pd)), .int (zI (ap)), .ref hor, .int (zI (od))])), (ha, .inl (D.2 1, 86, .inr (.inl (fNow S)))), (hth, .inl (D.2 1, 86, .inr (.inl (fNow (zu S (65 + d) ((S (65 + d)) + u))))))] H locs := w.sub [0, 1, 2] (by decide) rfl
      refine lv_iconst (v := zI 0) hx hb dX7_worthOf_60 rfl ?_
      refine z_S_i (As := [.ref hth, .int (zI (((sBst (zu S (65 + d) ((S (65 + d)) + u)) : Nat) : Int))), .int (zI (0))]) (rest := []) (Wr := [(hmo, .inr (7, [.ref ha, .ref hth, .ref hpa, .int (zI (kp)), .ref hsl, .ref hhe, .ref hpd, .int (zI (pd)), .int (zI (ap)), .ref hor, .int (zI (od))])), (ha, .inl (D.2 1, 86, .inr (.inl (fNow S))))]) ⟨hx, hb, hml, hown, hts⟩ (c_X7_sumI l D hth (zu S (65 + d) ((S (65 + d)) + u)) hoki (sBst (zu S (65 + d) ((S (65 + d)) + u))) 0 (by omega) (by omega)) (va_cwS 3 hts gX7_worthOf_X7_sum rfl rfl rfl (by decide +kernel) ⟨Nat.le_of_ble_eq_true rfl, Nat.le_of_ble_eq_true rfl⟩) w [2] rfl (by decide) [0, 1] rfl (by decide) (by decide) rfl hl.1 rfl (lv_room (Nat.le_of_ble_eq_true rfl)) dX7_worthOf_61 ⟨Nat.zero_le _, Nat.zero_le _⟩ (fun r W1 H locs hp w => ?_)
      obtain ⟨rfl, rfl⟩ := hp
      have w : zW D A s.heap s [(hmo, .inr (7, [.ref ha, .ref hth, .ref hpa, .int (zI (kp)), .ref hsl, .ref hhe, .ref hpd, .int (zI (pd)), .int (zI (ap)), .ref hor, .int (zI (od))])), (ha, .inl (D.2 1, 86, .inr (.inl (fNow S)))), (hth, .inl (D.2 1, 86, .inr (.inl (fNow (zu S (65 + d) ((S (65 + d)) + u))))))] H locs := w.sub [0, 1, 2] (by decide) rfl
      refine lv_aload_n hx hb dX7_worthOf_64 rfl (lv_at hl 0 rfl) ?_
      refine z_get hx hb hown hts w inX7 0 0 rfl rfl (by decide) f_7 rfl rfl dX7_worthOf_65 ?_
      refine lv_aload_n hx hb dX7_worthOf_68 rfl (lv_at hl 0 rfl) ?_
      refine z_get hx hb hown hts w inX7 0 0 rfl rfl (by decide) f_7 rfl rfl dX7_worthOf_69 ?_
      refine z_S_i (As := [.ref ha]) (rest := [.ref ha, .int (zI (sUse (zu S (65 + d) ((S (65 + d)) + u)) (sBst (zu S (65 + d) ((S (65 + d)) + u))) 0))]) (Wr := [(hmo, .inr (7, [.ref ha, .ref hth, .ref hpa, .int (zI (kp)), .ref hsl, .ref hhe, .ref hpd, .int (zI (pd)), .int (zI (ap)), .ref hor, .int (zI (od))])), (hth, .inl (D.2 1, 86, .inr (.inl (fNow (zu S (65 + d) ((S (65 + d)) + u))))))]) ⟨hx, hb, hml, hown, hts⟩ (c_X7_bestSet l D ha S hok.toI) (va_cwS 1 hts gX7_worthOf_X7_bestSet rfl rfl rfl (by decide +kernel) ⟨Nat.le_of_ble_eq_true rfl, Nat.le_of_ble_eq_true rfl⟩) w [1] rfl (by decide) [0, 2] rfl (by decide) (by decide) rfl hl.1 rfl (lv_room (Nat.le_of_ble_eq_true rfl)) dX7_worthOf_72 ⟨Nat.zero_le _, Nat.zero_le _⟩ (fun r W1 H locs hp w => ?_)
      obtain ⟨rfl, rfl⟩ := hp
      have w : zW D A s.heap s [(hmo, .inr (7, [.ref ha, .ref hth, .ref hpa, .int (zI (kp)), .ref hsl, .ref hhe, .ref hpd, .int (zI (pd)), .int (zI (ap)), .ref hor, .int (zI (od))])), (ha, .inl (D.2 1, 86, .inr (.inl (fNow S)))), (hth, .inl (D.2 1, 86, .inr (.inl (fNow (zu S (65 + d) ((S (65 + d)) + u))))))] H locs := w.sub [0, 2, 1] (by decide) rfl
      refine lv_iconst (v := zI 0) hx hb dX7_worthOf_75 rfl ?_
      refine z_S_i (As := [.ref ha, .int (zI (((sBst S : Nat) : Int))), .int (zI (0))]) (rest := [.int (zI (sUse (zu S (65 + d) ((S (65 + d)) + u)) (sBst (zu S (65 + d) ((S (65 + d)) + u))) 0))]) (Wr := [(hmo, .inr (7, [.ref ha, .ref hth, .ref hpa, .int (zI (kp)), .ref hsl, .ref hhe, .ref hpd, .int (zI (pd)), .int (zI (ap)), .ref hor, .int (zI (od))])), (hth, .inl (D.2 1, 86, .inr (.inl (fNow (zu S (65 + d) ((S (65 + d)) + u))))))]) ⟨hx, hb, hml, hown, hts⟩ (c_X7_sumI l D ha S hok.toI (sBst S) 0 (by omega) (by omega)) (va_cwS 3 hts gX7_worthOf_X7_sum rfl rfl rfl (by decide +kernel) ⟨Nat.le_of_ble_eq_true rfl, Nat.le_of_ble_eq_true rfl⟩) w [1] rfl (by decide) [0, 2] rfl (by decide) (by decide) rfl hl.1 rfl (lv_room (Nat.le_of_ble_eq_true rfl)) dX7_worthOf_76 ⟨Nat.zero_le _, Nat.zero_le _⟩ (fun r W1 H locs hp w => ?_)
      obtain ⟨rfl, rfl⟩ := hp
      have w : zW D A s.heap s [(hmo, .inr (7, [.ref ha, .ref hth, .ref hpa, .int (zI (kp)), .ref hsl, .ref hhe, .ref hpd, .int (zI (pd)), .int (zI (ap)), .ref hor, .int (zI (od))])), (ha, .inl (D.2 1, 86, .inr (.inl (fNow S)))), (hth, .inl (D.2 1, 86, .inr (.inl (fNow (zu S (65 + d) ((S (65 + d)) + u))))))] H locs := w.sub [0, 2, 1] (by decide) rfl
      refine z_isub hx hb dX7_worthOf_79 ?_
      exact z_iret hx hb hr hlocks w dX7_worthOf_80 ⟨by unfold qWor; rw [if_pos (by omega), if_pos c16, Int.toNat_natCast]; rfl, _, rfl⟩
    · skip
      refine lv_bipush (v := zI (-2)) hx hb dX7_worthOf_19 (by decide +kernel) ?_
      exact z_iret hx hb hr hlocks w dX7_worthOf_21 ⟨by unfold qWor; rw [if_pos (by omega), if_neg c16], _, rfl⟩
  · skip
    exact absurd (show (0 : Int) ≤ ((d : Nat) : Int) ∧ ((d : Nat) : Int) ≤ 2 by omega) c4
set_option maxHeartbeats 6000000 in
set_option maxRecDepth 100000 in
theorem c_X7_worthOfN (l : Launch) (D : zD) (hmo ha hth hpa hsl hhe hpd hor : Nat) (kp pd ap od : Int) (S : Nat → Int) (T9 : Nat → Int64) (B : Int) (hB : B ≤ 2000000000) (hokS : OkS B S) (d0 u : Int) (hd0 : zB d0) (hno : ¬ (0 ≤ d0 ∧ d0 ≤ 2)) : zM l yX7_worthOf wsX7_worthOf (zR (5)) zE0 D [.ref hmo, .int (zI (d0)), .int (zI (u))] [(hmo, .inr (7, [.ref ha, .ref hth, .ref hpa, .int (zI (kp)), .ref hsl, .ref hhe, .ref hpd, .int (zI (pd)), .int (zI (ap)), .ref hor, .int (zI (od))])), (ha, .inl (D.2 1, 86, .inr (.inl (fNow S)))), (hth, .inl (D.2 1, 86, .inr (.inl (T9))))] (zQi D (fun r W1 => r = zI (qWor S d0 u) ∧ ∃ T8, W1 = [(hmo, .inr (7, [.ref ha, .ref hth, .ref hpa, .int (zI (kp)), .ref hsl, .ref hhe, .ref hpd, .int (zI (pd)), .int (zI (ap)), .ref hor, .int (zI (od))])), (ha, .inl (D.2 1, 86, .inr (.inl (fNow S)))), (hth, .inl (D.2 1, 86, .inr (.inl (T8))))])) := by
  refine zM.of (cc := cX7_worthOf) (maxL := 3) (ret := (some .int)) (by decide) rfl (Nat.le_of_ble_eq_true rfl) ?_
  intro p e s m below meth c A hx hb hml hown hts hr hlocks hE hnm w ls hl
  have hown : s.vm.findClass RX7 = some m.cls := hown
  have hl : lv_has ls 3 [(0, .ref hmo), (1, .int (zI (d0))), (2, .int (zI (u)))] := hl
  obtain ⟨hok, hokm, hokb, hsc, hbe⟩ := id hokS
  have hokp := hok
  have hn := zn_eq hok
  have h16 := zn_le hok
  have hlim := hok.2.2
  have hm1 := hokm
  unfold OkM mu at hm1
  have hbd := sBd_b hok hokm
  have hkb := hokb.1
  have hbw := sBw_b hok
  have hqq := hok.1
  have w : zW D A s.heap s [(hmo, .inr (7, [.ref ha, .ref hth, .ref hpa, .int (zI (kp)), .ref hsl, .ref hhe, .ref hpd, .int (zI (pd)), .int (zI (ap)), .ref hor, .int (zI (od))])), (ha, .inl (D.2 1, 86, .inr (.inl (fNow S)))), (hth, .inl (D.2 1, 86, .inr (.inl (T9))))] s.heap [] := w
  refine lv_iload_n hx hb dX7_worthOf_0 rfl (lv_at hl 1 rfl) ?_
  refine z_S_i (As := [.int (zI (d0))]) (rest := []) (Wr := [(hmo, .inr (7, [.ref ha, .ref hth, .ref hpa, .int (zI (kp)), .ref hsl, .ref hhe, .ref hpd, .int (zI (pd)), .int (zI (ap)), .ref hor, .int (zI (od))])), (ha, .inl (D.2 1, 86, .inr (.inl (fNow S)))), (hth, .inl (D.2 1, 86, .inr (.inl (T9))))]) ⟨hx, hb, hml, hown, hts⟩ (c_X7_isWay l D d0 (by omega)) (va_cwS 1 hts gX7_worthOf_X7_isWay rfl rfl rfl (by decide +kernel) ⟨Nat.le_of_ble_eq_true rfl, Nat.le_of_ble_eq_true rfl⟩) w [] rfl (by decide) [0, 1, 2] rfl (by decide) (by decide) rfl hl.1 rfl (lv_room (Nat.le_of_ble_eq_true rfl)) dX7_worthOf_1 ⟨Nat.zero_le _, Nat.zero_le _⟩ (fun r W1 H locs hp w => ?_)
  obtain ⟨rfl, rfl⟩ := hp
  have w : zW D A s.heap s [(hmo, .inr (7, [.ref ha, .ref hth, .ref hpa, .int (zI (kp)), .ref hsl, .ref hhe, .ref hpd, .int (zI (pd)), .int (zI (ap)), .ref hor, .int (zI (od))])), (ha, .inl (D.2 1, 86, .inr (.inl (fNow S)))), (hth, .inl (D.2 1, 86, .inr (.inl (T9))))] H locs := w.sub [0, 1, 2] (by decide) rfl
  refine z_if_ne_b (tgt := 9) hx hb dX7_worthOf_4 (by decide) (fun c4 => ?_) (fun c4 => ?_)
  · skip
    exact absurd c4 hno
  · skip
    refine lv_iconst (v := zI (-1)) hx hb dX7_worthOf_7 rfl ?_
    exact z_iret hx hb hr hlocks w dX7_worthOf_8 ⟨by unfold qWor; rw [if_neg hno], _, rfl⟩
set_option maxHeartbeats 6000000 in
set_option maxRecDepth 100000 in
theorem c_X7_repaired (l : Launch) (D : zD) (hmo ha hth hpa hsl hhe hpd hor : Nat) (kp pd ap od : Int) (S : Nat → Int) (B : Int) (hB : B ≤ 2000000000) (hokS : OkS B S) (s0 : Int) (hs0 : zB s0) : zM l yX7_repaired wsX7_repaired (zR (4)) zE0 D [.ref hmo, .int (zI (s0))] (wMb D hmo ha hth hpa hsl hhe hpd hor kp pd ap od S) (zQi D (fun r W1 => r = zI (qRep S s0) ∧ W1 = (wMb D hmo ha hth hpa hsl hhe hpd hor kp pd ap od S))) := by
  refine zM.of (cc := cX7_repaired) (maxL := 2) (ret := (some .int)) (by decide) rfl (Nat.le_of_ble_eq_true rfl) ?_
  intro p e s m below meth c A hx hb hml hown hts hr hlocks hE hnm w ls hl
  have hown : s.vm.findClass RX7 = some m.cls := hown
  have hl : lv_has ls 2 [(0, .ref hmo), (1, .int (zI (s0)))] := hl
  have f_7 : (Cond.fieldLink RX7 7 "RelaxedStepsModel" "now" "[J").before _ s = true := hts _ (by decide +kernel)
  have inX7 : ∀ w ∈ u_ws RX7 TX7 11, w ∈ wsX7_repaired := by decide +kernel
  obtain ⟨hok, hokm, hokb, hsc, hbe⟩ := id hokS
  have hokp := hok
  have hn := zn_eq hok
  have h16 := zn_le hok
  have hlim := hok.2.2
  have hm1 := hokm
  unfold OkM mu at hm1
  have hbd := sBd_b hok hokm
  have hkb := hokb.1
  have hbw := sBw_b hok
  have hqq := hok.1
  have hmk9 := zt_masklt (a := s0.toNat) h16
  have w : zW D A s.heap s [(hmo, .inr (7, [.ref ha, .ref hth, .ref hpa, .int (zI (kp)), .ref hsl, .ref hhe, .ref hpd, .int (zI (pd)), .int (zI (ap)), .ref hor, .int (zI (od))])), (ha, .inl (D.2 1, 86, .inr (.inl (fNow S))))] s.heap [] := w
  refine lv_iload_n hx hb dX7_repaired_0 rfl (lv_at hl 1 rfl) ?_
  refine z_if_ge (tgt := 9) hx hb (by omega) dX7_repaired_1 (by decide) (fun c1 => ?_) (fun c1 => ?_)
  · skip
    refine lv_aload_n hx hb dX7_repaired_9 rfl (lv_at hl 0 rfl) ?_
    refine z_get hx hb hown hts w inX7 0 0 rfl rfl (by decide) f_7 rfl rfl dX7_repaired_10 ?_
    refine lv_iload_n hx hb dX7_repaired_13 rfl (lv_at hl 1 rfl) ?_
    have hs9 : 0 ≤ s0 := (by omega)
    refine W.eq (g2 := F0 m 14 ls [.int (zI (((s0.toNat : Nat) : Int))), .ref ha]) (by rw [Int.toNat_of_nonneg hs9]) ?_
    refine lv_iconst (v := zI 1) hx hb dX7_repaired_14 rfl ?_
    refine lv_aload_n hx hb dX7_repaired_15 rfl (lv_at hl 0 rfl) ?_
    refine z_get hx hb hown hts w inX7 0 0 rfl rfl (by decide) f_7 rfl rfl dX7_repaired_16 ?_
    refine lv_iconst (v := zI 0) hx hb dX7_repaired_19 rfl ?_
    refine z_lald hx hb w 1 rfl 0 (by omega) (by decide) rfl (v := (zL (S 0))) (if_pos (by omega)) dX7_repaired_20 ?_
    refine z_l2i hx hb dX7_repaired_21 ?_
    refine W.eq (g2 := F0 m 22 ls [.int (zI (((zn S : Nat) : Int))), .int (zI (1)), .int (zI (((s0.toNat : Nat) : Int))), .ref ha]) (by rw [hn]) ?_
    refine z_ishl1 (b := zn S) hx hb (by omega) dX7_repaired_22 ?_
    refine lv_iconst (v := zI 1) hx hb dX7_repaired_23 rfl ?_
    refine z_isub hx hb dX7_repaired_24 ?_
    refine W.eq (g2 := F0 m 25 ls [.int (zI (((2 ^ zn S - 1 : Nat) : Int))), .int (zI (((s0.toNat : Nat) : Int))), .ref ha]) (by rw [zt_mask]) ?_
    refine z_iand (a := s0.toNat) (b := 2 ^ zn S - 1) hx hb dX7_repaired_25 ?_
    refine z_S_i (As := [.ref ha, .int (zI (((s0.toNat &&& (2 ^ zn S - 1) : Nat) : Int)))]) (rest := []) (Wr := [(hmo, .inr (7, [.ref ha, .ref hth, .ref hpa, .int (zI (kp)), .ref hsl, .ref hhe, .ref hpd, .int (zI (pd)), .int (zI (ap)), .ref hor, .int (zI (od))]))]) ⟨hx, hb, hml, hown, hts⟩ (c_X7_repairs l D ha S hok (s0.toNat &&& (2 ^ zn S - 1)) (by omega)) (va_cwS 2 hts gX7_repaired_X7_repairs rfl rfl rfl (by decide +kernel) ⟨Nat.le_of_ble_eq_true rfl, Nat.le_of_ble_eq_true rfl⟩) w [1] rfl (by decide) [0] rfl (by decide) (by decide) rfl hl.1 rfl (lv_room (Nat.le_of_ble_eq_true rfl)) dX7_repaired_26 ⟨Nat.zero_le _, Nat.zero_le _⟩ (fun r W1 H locs hp w => ?_)
    obtain ⟨rfl, rfl⟩ := hp
    have w : zW D A s.heap s [(hmo, .inr (7, [.ref ha, .ref hth, .ref hpa, .int (zI (kp)), .ref hsl, .ref hhe, .ref hpd, .int (zI (pd)), .int (zI (ap)), .ref hor, .int (zI (od))])), (ha, .inl (D.2 1, 86, .inr (.inl (fNow S))))] H locs := w.sub [0, 1] (by decide) rfl
    exact z_iret hx hb hr hlocks w dX7_repaired_29 ⟨by unfold qRep; first | rw [if_pos (by omega)] | rw [if_neg (by omega)], rfl⟩
  · skip
    refine lv_bipush (v := zI (-2)) hx hb dX7_repaired_4 (by decide +kernel) ?_
    refine lv_goto (tgt := 29) hx hb dX7_repaired_6 (by decide) ?_
    exact z_iret hx hb hr hlocks w dX7_repaired_29 ⟨by unfold qRep; first | rw [if_pos (by omega)] | rw [if_neg (by omega)], rfl⟩
