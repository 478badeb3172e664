set_option maxHeartbeats 6000000 in
set_option maxRecDepth 100000 in
theorem c_X3_here (l : Launch) (D : zD) (hpd9 htx hnu : Nat) (pl a kk rd : Nat) (T : Nat → Nat) (Q : Nat → Int) (hT : OkT T pl) (hapl : a ≤ pl) : zM l yX3_here wsX3_here (zR (0)) zE0 D [.ref hpd9] [(hpd9, .inr (3, [.ref htx, .int (zI (((pl : Nat) : Int))), .int (zI (((a : Nat) : Int))), .int (zI (((kk : Nat) : Int))), .ref hnu, .int (zI (((rd : Nat) : Int)))])), (htx, .inl (D.2 2, 80, .inl (fT T))), (hnu, .inl (D.2 0, 4, .inl (fQ Q)))] (zQi D (fun r W1 => r = zI ((cA T pl a : Nat) : Int) ∧ W1 = [(hpd9, .inr (3, [.ref htx, .int (zI (((pl : Nat) : Int))), .int (zI (((a : Nat) : Int))), .int (zI (((kk : Nat) : Int))), .ref hnu, .int (zI (((rd : Nat) : Int)))])), (htx, .inl (D.2 2, 80, .inl (fT T))), (hnu, .inl (D.2 0, 4, .inl (fQ Q)))])) := by
  refine zM.of (cc := cX3_here) (maxL := 1) (ret := (some .char)) (by decide) rfl (Nat.le_of_ble_eq_true rfl) ?_
  intro p e s m below meth c A hx hb hml hown hts hr hlocks hE hnm w ls hl
  have hown : s.vm.findClass RX3 = some m.cls := hown
  have hl : lv_has ls 1 [(0, .ref hpd9)] := hl
  have f_19 : (Cond.fieldLink RX3 19 "RelaxedSteps$Pad" "at" "I").before _ s = true := hts _ (by decide +kernel)
  have f_15 : (Cond.fieldLink RX3 15 "RelaxedSteps$Pad" "length" "I").before _ s = true := hts _ (by decide +kernel)
  have f_9 : (Cond.fieldLink RX3 9 "RelaxedSteps$Pad" "text" "[C").before _ s = true := hts _ (by decide +kernel)
  have inX3 : ∀ w ∈ u_ws RX3 TX3 6, w ∈ wsX3_here := by decide +kernel
  have hpl := hT.1
  have hca := cA_b hT a
  have w : zW D A s.heap s [(hpd9, .inr (3, [.ref htx, .int (zI (((pl : Nat) : Int))), .int (zI (((a : Nat) : Int))), .int (zI (((kk : Nat) : Int))), .ref hnu, .int (zI (((rd : Nat) : Int)))])), (htx, .inl (D.2 2, 80, .inl (fT T))), (hnu, .inl (D.2 0, 4, .inl (fQ Q)))] s.heap [] := w
  refine lv_aload_n hx hb dX3_here_0 rfl (lv_at hl 0 rfl) ?_
  refine z_get hx hb hown hts w inX3 0 2 rfl rfl (by decide) f_19 rfl rfl dX3_here_1 ?_
  refine lv_aload_n hx hb dX3_here_4 rfl (lv_at hl 0 rfl) ?_
  refine z_get hx hb hown hts w inX3 0 1 rfl rfl (by decide) f_15 rfl rfl dX3_here_5 ?_
  refine z_icmp_ge (tgt := 32) hx hb (by omega) (by omega) dX3_here_8 (by decide) (fun c8 => ?_) (fun c8 => ?_)
  · skip
    refine lv_iconst (v := zI 0) hx hb dX3_here_32 rfl ?_
    exact z_cret hx hb hr hlocks w dX3_here_33 (by decide +kernel) ⟨by rw [show cA T pl a = 0 from if_neg (by omega)]; rfl, rfl⟩
  · skip
    refine lv_aload_n hx hb dX3_here_11 rfl (lv_at hl 0 rfl) ?_
    refine z_get hx hb hown hts w inX3 0 2 rfl rfl (by decide) f_19 rfl rfl dX3_here_12 ?_
    refine lv_bipush (v := zI 80) hx hb dX3_here_15 (by decide +kernel) ?_
    refine z_icmp_ge (tgt := 32) hx hb (by omega) (by omega) dX3_here_17 (by decide) (fun c17 => ?_) (fun c17 => ?_)
    · skip
      refine lv_iconst (v := zI 0) hx hb dX3_here_32 rfl ?_
      exact z_cret hx hb hr hlocks w dX3_here_33 (by decide +kernel) ⟨by rw [show cA T pl a = 0 from if_neg (by omega)]; rfl, rfl⟩
    · skip
      refine lv_aload_n hx hb dX3_here_20 rfl (lv_at hl 0 rfl) ?_
      refine z_get hx hb hown hts w inX3 0 0 rfl rfl (by decide) f_9 rfl rfl dX3_here_21 ?_
      refine lv_aload_n hx hb dX3_here_24 rfl (lv_at hl 0 rfl) ?_
      refine z_get hx hb hown hts w inX3 0 2 rfl rfl (by decide) f_19 rfl rfl dX3_here_25 ?_
      have hTa := hT.2 a (by omega)
      refine z_cald hx hb w 1 rfl a (by omega) (by decide) rfl (v := (zI (((T a : Nat) : Int)))) rfl dX3_here_28 ?_
      refine lv_goto (tgt := 33) hx hb dX3_here_29 (by decide) ?_
      exact z_cret hx hb hr hlocks w dX3_here_33 (nrC (by omega)) ⟨by rw [cA_in (by omega)], rfl⟩
set_option maxHeartbeats 6000000 in
set_option maxRecDepth 100000 in
theorem c_X3_digitHere (l : Launch) (D : zD) (hpd9 htx hnu : Nat) (pl a kk rd : Nat) (T : Nat → Nat) (Q : Nat → Int) (hT : OkT T pl) (hapl : a ≤ pl) : zM l yX3_digitHere wsX3_digitHere (zR (1)) zE0 D [.ref hpd9] [(hpd9, .inr (3, [.ref htx, .int (zI (((pl : Nat) : Int))), .int (zI (((a : Nat) : Int))), .int (zI (((kk : Nat) : Int))), .ref hnu, .int (zI (((rd : Nat) : Int)))])), (htx, .inl (D.2 2, 80, .inl (fT T))), (hnu, .inl (D.2 0, 4, .inl (fQ Q)))] (zQi D (fun r W1 => r = zI (dg T pl a) ∧ W1 = [(hpd9, .inr (3, [.ref htx, .int (zI (((pl : Nat) : Int))), .int (zI (((a : Nat) : Int))), .int (zI (((kk : Nat) : Int))), .ref hnu, .int (zI (((rd : Nat) : Int)))])), (htx, .inl (D.2 2, 80, .inl (fT T))), (hnu, .inl (D.2 0, 4, .inl (fQ Q)))])) := by
  refine zM.of (cc := cX3_digitHere) (maxL := 2) (ret := (some .int)) (by decide) rfl (Nat.le_of_ble_eq_true rfl) ?_
  intro p e s m below meth c A hx hb hml hown hts hr hlocks hE hnm w ls hl
  have hown : s.vm.findClass RX3 = some m.cls := hown
  have hl : lv_has ls 2 [(0, .ref hpd9)] := hl
  have hpl := hT.1
  have hca := cA_b hT a
  have w : zW D A s.heap s [(hpd9, .inr (3, [.ref htx, .int (zI (((pl : Nat) : Int))), .int (zI (((a : Nat) : Int))), .int (zI (((kk : Nat) : Int))), .ref hnu, .int (zI (((rd : Nat) : Int)))])), (htx, .inl (D.2 2, 80, .inl (fT T))), (hnu, .inl (D.2 0, 4, .inl (fQ Q)))] s.heap [] := w
  refine lv_aload_n hx hb dX3_digitHere_0 rfl (lv_at hl 0 rfl) ?_
  refine z_V_i (As := []) (rest := []) (Wr := []) ⟨hx, hb, hml, hown, hts⟩ (c_X3_here l D hpd9 htx hnu pl a kk rd T Q hT (by omega)) (cwV 0 hts gX3_digitHere_X3_here rfl rfl rfl (by decide +kernel) ⟨Nat.le_of_ble_eq_true rfl, Nat.le_of_ble_eq_true rfl⟩) w (q0 := 0) rfl rfl rfl [0, 1, 2] rfl (by decide) [] rfl (by decide) (by decide) rfl hl.1 rfl (lv_room (Nat.le_of_ble_eq_true rfl)) dX3_digitHere_1 ⟨Nat.zero_le _, Nat.zero_le _⟩ (fun r W1 H locs hp w => ?_)
  obtain ⟨rfl, rfl⟩ := hp
  have w : zW D A s.heap s [(hpd9, .inr (3, [.ref htx, .int (zI (((pl : Nat) : Int))), .int (zI (((a : Nat) : Int))), .int (zI (((kk : Nat) : Int))), .ref hnu, .int (zI (((rd : Nat) : Int)))])), (htx, .inl (D.2 2, 80, .inl (fT T))), (hnu, .inl (D.2 0, 4, .inl (fQ Q)))] H locs := w.sub [0, 1, 2] (by decide) rfl
  have hca := cA_b hT a
  refine lv_istore_n (lv' := [(1, .int (zI (((cA T pl a : Nat) : Int)))), (0, .ref hpd9)]) hx hb dX3_digitHere_4 rfl hl (by decide) rfl (fun ls hl => ?_)
  refine lv_iload_n hx hb dX3_digitHere_5 rfl (lv_at hl 0 rfl) ?_
  refine lv_bipush (v := zI 48) hx hb dX3_digitHere_6 (by decide +kernel) ?_
  refine z_icmp_lt (tgt := 24) hx hb (by omega) (by omega) dX3_digitHere_8 (by decide) (fun c8 => ?_) (fun c8 => ?_)
  · skip
    refine lv_iconst (v := zI (-1)) hx hb dX3_digitHere_24 rfl ?_
    exact z_iret hx hb hr hlocks w dX3_digitHere_25 ⟨by first | rw [dg_no (by omega)] | rw [show dg T pl a = ((cA T pl a : Nat) : Int) - 48 from if_pos (by omega)], rfl⟩
  · skip
    refine lv_iload_n hx hb dX3_digitHere_11 rfl (lv_at hl 0 rfl) ?_
    refine lv_bipush (v := zI 57) hx hb dX3_digitHere_12 (by decide +kernel) ?_
    refine z_icmp_gt (tgt := 24) hx hb (by omega) (by omega) dX3_digitHere_14 (by decide) (fun c14 => ?_) (fun c14 => ?_)
    · skip
      refine lv_iconst (v := zI (-1)) hx hb dX3_digitHere_24 rfl ?_
      exact z_iret hx hb hr hlocks w dX3_digitHere_25 ⟨by first | rw [dg_no (by omega)] | rw [show dg T pl a = ((cA T pl a : Nat) : Int) - 48 from if_pos (by omega)], rfl⟩
    · skip
      refine lv_iload_n hx hb dX3_digitHere_17 rfl (lv_at hl 0 rfl) ?_
      refine lv_bipush (v := zI 48) hx hb dX3_digitHere_18 (by decide +kernel) ?_
      refine z_isub hx hb dX3_digitHere_20 ?_
      refine lv_goto (tgt := 25) hx hb dX3_digitHere_21 (by decide) ?_
      exact z_iret hx hb hr hlocks w dX3_digitHere_25 ⟨by first | rw [dg_no (by omega)] | rw [show dg T pl a = ((cA T pl a : Nat) : Int) - 48 from if_pos (by omega)], rfl⟩
set_option maxHeartbeats 6000000 in
set_option maxRecDepth 100000 in
theorem c_X3_note (l : Launch) (D : zD) (hpd9 htx hnu : Nat) (pl a kk rd : Nat) (T : Nat → Nat) (Q : Nat → Int) (v : Int) (hrd : rd < 4) : zM l yX3_note wsX3_note (zR (0)) zE0 D [.ref hpd9, .int (zI (v))] [(hpd9, .inr (3, [.ref htx, .int (zI (((pl : Nat) : Int))), .int (zI (((a : Nat) : Int))), .int (zI (((kk : Nat) : Int))), .ref hnu, .int (zI (((rd : Nat) : Int)))])), (htx, .inl (D.2 2, 80, .inl (fT T))), (hnu, .inl (D.2 0, 4, .inl (fQ Q)))] (zQv D (fun W1 => W1 = [(hpd9, .inr (3, [.ref htx, .int (zI (((pl : Nat) : Int))), .int (zI (((a : Nat) : Int))), .int (zI (((kk : Nat) : Int))), .ref hnu, .int (zI ((((rd + 1) : Nat) : Int)))])), (htx, .inl (D.2 2, 80, .inl (fT T))), (hnu, .inl (D.2 0, 4, .inl (fQ (zu Q rd v))))])) := by
  refine zM.of (cc := cX3_note) (maxL := 2) (ret := none) (by decide) rfl (Nat.le_of_ble_eq_true rfl) ?_
  intro p e s m below meth c A hx hb hml hown hts hr hlocks hE hnm w ls hl
  have hown : s.vm.findClass RX3 = some m.cls := hown
  have hl : lv_has ls 2 [(0, .ref hpd9), (1, .int (zI (v)))] := hl
  have f_30 : (Cond.fieldLink RX3 30 "RelaxedSteps$Pad" "read" "I").before _ s = true := hts _ (by decide +kernel)
  have f_26 : (Cond.fieldLink RX3 26 "RelaxedSteps$Pad" "numbers" "[I").before _ s = true := hts _ (by decide +kernel)
  have inX3 : ∀ w ∈ u_ws RX3 TX3 6, w ∈ wsX3_note := by decide +kernel
  have w : zW D A s.heap s [(hpd9, .inr (3, [.ref htx, .int (zI (((pl : Nat) : Int))), .int (zI (((a : Nat) : Int))), .int (zI (((kk : Nat) : Int))), .ref hnu, .int (zI (((rd : Nat) : Int)))])), (htx, .inl (D.2 2, 80, .inl (fT T))), (hnu, .inl (D.2 0, 4, .inl (fQ Q)))] s.heap [] := w
  refine lv_aload_n hx hb dX3_note_0 rfl (lv_at hl 0 rfl) ?_
  refine z_get hx hb hown hts w inX3 0 5 rfl rfl (by decide) f_30 rfl rfl dX3_note_1 ?_
  refine lv_iconst (v := zI 4) hx hb dX3_note_4 rfl ?_
  refine z_icmp_ge (tgt := 28) hx hb (by omega) (by omega) dX3_note_5 (by decide) (fun c5 => ?_) (fun c5 => ?_)
  · skip
    exact absurd c5 (by omega)
  · skip
    refine lv_aload_n hx hb dX3_note_8 rfl (lv_at hl 0 rfl) ?_
    refine z_get hx hb hown hts w inX3 0 4 rfl rfl (by decide) f_26 rfl rfl dX3_note_9 ?_
    refine lv_aload_n hx hb dX3_note_12 rfl (lv_at hl 0 rfl) ?_
    refine z_get hx hb hown hts w inX3 0 5 rfl rfl (by decide) f_30 rfl rfl dX3_note_13 ?_
    refine lv_iload_n hx hb dX3_note_16 rfl (lv_at hl 1 rfl) ?_
    refine z_iast hx hb w 2 rfl rd (by omega) (by decide) rfl dX3_note_17 (fQ (zu Q rd v)) (fun i hi => fQ_u) (fun H locs w => ?_)
    have w : zW D A s.heap s [(hpd9, .inr (3, [.ref htx, .int (zI (((pl : Nat) : Int))), .int (zI (((a : Nat) : Int))), .int (zI (((kk : Nat) : Int))), .ref hnu, .int (zI (((rd : Nat) : Int)))])), (htx, .inl (D.2 2, 80, .inl (fT T))), (hnu, .inl (D.2 0, 4, .inl (fQ (zu Q rd v))))] H locs := w
    refine lv_aload_n hx hb dX3_note_18 rfl (lv_at hl 0 rfl) ?_
    refine lv_dup hx hb dX3_note_19 rfl ?_
    refine z_get hx hb hown hts w inX3 0 5 rfl rfl (by decide) f_30 rfl rfl dX3_note_20 ?_
    refine lv_iconst (v := zI 1) hx hb dX3_note_23 rfl ?_
    refine z_iadd hx hb dX3_note_24 ?_
    refine z_put hx hb hown hts w inX3 tyX3 tyX3_ok nmX3 0 5 rfl rfl (by decide) f_30 rfl rfl (ty := .int) rfl rfl rfl (Nat.le_of_ble_eq_true rfl) dX3_note_25 (fun H locs w => ?_)
    have w : zW D A s.heap s [(hpd9, .inr (3, [.ref htx, .int (zI (((pl : Nat) : Int))), .int (zI (((a : Nat) : Int))), .int (zI (((kk : Nat) : Int))), .ref hnu, .int (zI (((rd : Nat) : Int) + 1))])), (htx, .inl (D.2 2, 80, .inl (fT T))), (hnu, .inl (D.2 0, 4, .inl (fQ (zu Q rd v))))] H locs := w
    exact z_vret hx hb hr hlocks w dX3_note_28 rfl
set_option maxHeartbeats 6000000 in
set_option maxRecDepth 100000 in
theorem c_X3_readSignY (l : Launch) (D : zD) (hpd9 htx hnu : Nat) (pl a kk rd : Nat) (T : Nat → Nat) (Q : Nat → Int) (hT : OkT T pl) (hapl : a ≤ pl) (ch : Nat) (hch : 0 < ch ∧ ch < 65536) (hy : cA T pl a = ch) : zM l yX3_readSign wsX3_readSign (zR (1)) zE0 D [.ref hpd9, .int (zI (((ch : Nat) : Int)))] [(hpd9, .inr (3, [.ref htx, .int (zI (((pl : Nat) : Int))), .int (zI (((a : Nat) : Int))), .int (zI (((kk : Nat) : Int))), .ref hnu, .int (zI (((rd : Nat) : Int)))])), (htx, .inl (D.2 2, 80, .inl (fT T))), (hnu, .inl (D.2 0, 4, .inl (fQ Q)))] (zQi D (fun r W1 => r = zI 1 ∧ W1 = [(hpd9, .inr (3, [.ref htx, .int (zI (((pl : Nat) : Int))), .int (zI ((((a + 1) : Nat) : Int))), .int (zI (((kk : Nat) : Int))), .ref hnu, .int (zI (((rd : Nat) : Int)))])), (htx, .inl (D.2 2, 80, .inl (fT T))), (hnu, .inl (D.2 0, 4, .inl (fQ Q)))])) := by
  refine zM.of (cc := cX3_readSign) (maxL := 2) (ret := (some .boolean)) (by decide) rfl (Nat.le_of_ble_eq_true rfl) ?_
  intro p e s m below meth c A hx hb hml hown hts hr hlocks hE hnm w ls hl
  have hown : s.vm.findClass RX3 = some m.cls := hown
  have hl : lv_has ls 2 [(0, .ref hpd9), (1, .int (zI (((ch : Nat) : Int))))] := hl
  have f_19 : (Cond.fieldLink RX3 19 "RelaxedSteps$Pad" "at" "I").before _ s = true := hts _ (by decide +kernel)
  have inX3 : ∀ w ∈ u_ws RX3 TX3 6, w ∈ wsX3_readSign := by decide +kernel
  have hpl := hT.1
  have hca := cA_b hT a
  have hal := cA_lt (T := T) (pl := pl) (a := a) (by omega)
  have w : zW D A s.heap s [(hpd9, .inr (3, [.ref htx, .int (zI (((pl : Nat) : Int))), .int (zI (((a : Nat) : Int))), .int (zI (((kk : Nat) : Int))), .ref hnu, .int (zI (((rd : Nat) : Int)))])), (htx, .inl (D.2 2, 80, .inl (fT T))), (hnu, .inl (D.2 0, 4, .inl (fQ Q)))] s.heap [] := w
  refine lv_aload_n hx hb dX3_readSign_0 rfl (lv_at hl 0 rfl) ?_
  refine z_V_i (As := []) (rest := []) (Wr := []) ⟨hx, hb, hml, hown, hts⟩ (c_X3_here l D hpd9 htx hnu pl a kk rd T Q hT (by omega)) (cwV 0 hts gX3_readSign_X3_here rfl rfl rfl (by decide +kernel) ⟨Nat.le_of_ble_eq_true rfl, Nat.le_of_ble_eq_true rfl⟩) w (q0 := 0) rfl rfl rfl [0, 1, 2] rfl (by decide) [] rfl (by decide) (by decide) rfl hl.1 rfl (lv_room (Nat.le_of_ble_eq_true rfl)) dX3_readSign_1 ⟨Nat.zero_le _, Nat.zero_le _⟩ (fun r W1 H locs hp w => ?_)
  obtain ⟨rfl, rfl⟩ := hp
  have w : zW D A s.heap s [(hpd9, .inr (3, [.ref htx, .int (zI (((pl : Nat) : Int))), .int (zI (((a : Nat) : Int))), .int (zI (((kk : Nat) : Int))), .ref hnu, .int (zI (((rd : Nat) : Int)))])), (htx, .inl (D.2 2, 80, .inl (fT T))), (hnu, .inl (D.2 0, 4, .inl (fQ Q)))] H locs := w.sub [0, 1, 2] (by decide) rfl
  have hca := cA_b hT a
  refine lv_iload_n hx hb dX3_readSign_4 rfl (lv_at hl 1 rfl) ?_
  refine z_icmp_eq (tgt := 10) hx hb (by omega) (by omega) dX3_readSign_5 (by decide) (fun c5 => ?_) (fun c5 => ?_)
  · skip
    refine lv_aload_n hx hb dX3_readSign_10 rfl (lv_at hl 0 rfl) ?_
    refine lv_dup hx hb dX3_readSign_11 rfl ?_
    refine z_get hx hb hown hts w inX3 0 2 rfl rfl (by decide) f_19 rfl rfl dX3_readSign_12 ?_
    refine lv_iconst (v := zI 1) hx hb dX3_readSign_15 rfl ?_
    refine z_iadd hx hb dX3_readSign_16 ?_
    refine z_put hx hb hown hts w inX3 tyX3 tyX3_ok nmX3 0 2 rfl rfl (by decide) f_19 rfl rfl (ty := .int) rfl rfl rfl (Nat.le_of_ble_eq_true rfl) dX3_readSign_17 (fun H locs w => ?_)
    have w : zW D A s.heap s [(hpd9, .inr (3, [.ref htx, .int (zI (((pl : Nat) : Int))), .int (zI (((a : Nat) : Int) + 1)), .int (zI (((kk : Nat) : Int))), .ref hnu, .int (zI (((rd : Nat) : Int)))])), (htx, .inl (D.2 2, 80, .inl (fT T))), (hnu, .inl (D.2 0, 4, .inl (fQ Q)))] H locs := w
    refine lv_iconst (v := zI 1) hx hb dX3_readSign_20 rfl ?_
    exact z_zret hx hb hr hlocks w dX3_readSign_21 (by omega) ⟨rfl, rfl⟩
  · skip
    exact absurd c5 (by omega)
set_option maxHeartbeats 6000000 in
set_option maxRecDepth 100000 in
theorem c_X3_readSignN (l : Launch) (D : zD) (hpd9 htx hnu : Nat) (pl a kk rd : Nat) (T : Nat → Nat) (Q : Nat → Int) (hT : OkT T pl) (hapl : a ≤ pl) (ch : Nat) (hch : 0 < ch ∧ ch < 65536) (hy : ¬ cA T pl a = ch) : zM l yX3_readSign wsX3_readSign (zR (1)) zE0 D [.ref hpd9, .int (zI (((ch : Nat) : Int)))] [(hpd9, .inr (3, [.ref htx, .int (zI (((pl : Nat) : Int))), .int (zI (((a : Nat) : Int))), .int (zI (((kk : Nat) : Int))), .ref hnu, .int (zI (((rd : Nat) : Int)))])), (htx, .inl (D.2 2, 80, .inl (fT T))), (hnu, .inl (D.2 0, 4, .inl (fQ Q)))] (zQi D (fun r W1 => r = zI 0 ∧ W1 = [(hpd9, .inr (3, [.ref htx, .int (zI (((pl : Nat) : Int))), .int (zI (((a : Nat) : Int))), .int (zI (((kk : Nat) : Int))), .ref hnu, .int (zI (((rd : Nat) : Int)))])), (htx, .inl (D.2 2, 80, .inl (fT T))), (hnu, .inl (D.2 0, 4, .inl (fQ Q)))])) := by
  refine zM.of (cc := cX3_readSign) (maxL := 2) (ret := (some .boolean)) (by decide) rfl (Nat.le_of_ble_eq_true rfl) ?_
  intro p e s m below meth c A hx hb hml hown hts hr hlocks hE hnm w ls hl
  have hown : s.vm.findClass RX3 = some m.cls := hown
  have hl : lv_has ls 2 [(0, .ref hpd9), (1, .int (zI (((ch : Nat) : Int))))] := hl
  have hpl := hT.1
  have hca := cA_b hT a
  have w : zW D A s.heap s [(hpd9, .inr (3, [.ref htx, .int (zI (((pl : Nat) : Int))), .int (zI (((a : Nat) : Int))), .int (zI (((kk : Nat) : Int))), .ref hnu, .int (zI (((rd : Nat) : Int)))])), (htx, .inl (D.2 2, 80, .inl (fT T))), (hnu, .inl (D.2 0, 4, .inl (fQ Q)))] s.heap [] := w
  refine lv_aload_n hx hb dX3_readSign_0 rfl (lv_at hl 0 rfl) ?_
  refine z_V_i (As := []) (rest := []) (Wr := []) ⟨hx, hb, hml, hown, hts⟩ (c_X3_here l D hpd9 htx hnu pl a kk rd T Q hT (by omega)) (cwV 0 hts gX3_readSign_X3_here rfl rfl rfl (by decide +kernel) ⟨Nat.le_of_ble_eq_true rfl, Nat.le_of_ble_eq_true rfl⟩) w (q0 := 0) rfl rfl rfl [0, 1, 2] rfl (by decide) [] rfl (by decide) (by decide) rfl hl.1 rfl (lv_room (Nat.le_of_ble_eq_true rfl)) dX3_readSign_1 ⟨Nat.zero_le _, Nat.zero_le _⟩ (fun r W1 H locs hp w => ?_)
  obtain ⟨rfl, rfl⟩ := hp
  have w : zW D A s.heap s [(hpd9, .inr (3, [.ref htx, .int (zI (((pl : Nat) : Int))), .int (zI (((a : Nat) : Int))), .int (zI (((kk : Nat) : Int))), .ref hnu, .int (zI (((rd : Nat) : Int)))])), (htx, .inl (D.2 2, 80, .inl (fT T))), (hnu, .inl (D.2 0, 4, .inl (fQ Q)))] H locs := w.sub [0, 1, 2] (by decide) rfl
  have hca := cA_b hT a
  refine lv_iload_n hx hb dX3_readSign_4 rfl (lv_at hl 1 rfl) ?_
  refine z_icmp_eq (tgt := 10) hx hb (by omega) (by omega) dX3_readSign_5 (by decide) (fun c5 => ?_) (fun c5 => ?_)
  · skip
    exact absurd c5 (by omega)
  · skip
    refine lv_iconst (v := zI 0) hx hb dX3_readSign_8 rfl ?_
    exact z_zret hx hb hr hlocks w dX3_readSign_9 (by omega) ⟨rfl, rfl⟩
set_option maxHeartbeats 6000000 in
set_option maxRecDepth 100000 in
theorem c_X3_readDigitY (l : Launch) (D : zD) (hpd9 htx hnu : Nat) (pl a kk rd : Nat) (T : Nat → Nat) (Q : Nat → Int) (hT : OkT T pl) (hapl : a ≤ pl) (hrd : rd < 4) (hy : 48 ≤ cA T pl a ∧ cA T pl a ≤ 50) : zM l yX3_readDigit wsX3_readDigit (zR (2)) zE0 D [.ref hpd9] [(hpd9, .inr (3, [.ref htx, .int (zI (((pl : Nat) : Int))), .int (zI (((a : Nat) : Int))), .int (zI (((kk : Nat) : Int))), .ref hnu, .int (zI (((rd : Nat) : Int)))])), (htx, .inl (D.2 2, 80, .inl (fT T))), (hnu, .inl (D.2 0, 4, .inl (fQ Q)))] (zQi D (fun r W1 => r = zI 1 ∧ W1 = [(hpd9, .inr (3, [.ref htx, .int (zI (((pl : Nat) : Int))), .int (zI ((((a + 1) : Nat) : Int))), .int (zI (((kk : Nat) : Int))), .ref hnu, .int (zI ((((rd + 1) : Nat) : Int)))])), (htx, .inl (D.2 2, 80, .inl (fT T))), (hnu, .inl (D.2 0, 4, .inl (fQ (zu Q rd (((cA T pl a : Nat) : Int) - 48)))))])) := by
  refine zM.of (cc := cX3_readDigit) (maxL := 2) (ret := (some .boolean)) (by decide) rfl (Nat.le_of_ble_eq_true rfl) ?_
  intro p e s m below meth c A hx hb hml hown hts hr hlocks hE hnm w ls hl
  have hown : s.vm.findClass RX3 = some m.cls := hown
  have hl : lv_has ls 2 [(0, .ref hpd9)] := hl
  have f_19 : (Cond.fieldLink RX3 19 "RelaxedSteps$Pad" "at" "I").before _ s = true := hts _ (by decide +kernel)
  have inX3 : ∀ w ∈ u_ws RX3 TX3 6, w ∈ wsX3_readDigit := by decide +kernel
  have hpl := hT.1
  have hca := cA_b hT a
  have hal := cA_lt (T := T) (pl := pl) (a := a) (by omega)
  have hde : dg T pl a = ((cA T pl a : Nat) : Int) - 48 := if_pos (by omega)
  have w : zW D A s.heap s [(hpd9, .inr (3, [.ref htx, .int (zI (((pl : Nat) : Int))), .int (zI (((a : Nat) : Int))), .int (zI (((kk : Nat) : Int))), .ref hnu, .int (zI (((rd : Nat) : Int)))])), (htx, .inl (D.2 2, 80, .inl (fT T))), (hnu, .inl (D.2 0, 4, .inl (fQ Q)))] s.heap [] := w
  refine lv_aload_n hx hb dX3_readDigit_0 rfl (lv_at hl 0 rfl) ?_
  refine z_V_i (As := []) (rest := []) (Wr := []) ⟨hx, hb, hml, hown, hts⟩ (c_X3_digitHere l D hpd9 htx hnu pl a kk rd T Q hT (by omega)) (cwV 0 hts gX3_readDigit_X3_digitHere rfl rfl rfl (by decide +kernel) ⟨Nat.le_of_ble_eq_true rfl, Nat.le_of_ble_eq_true rfl⟩) w (q0 := 0) rfl rfl rfl [0, 1, 2] rfl (by decide) [] rfl (by decide) (by decide) rfl hl.1 rfl (lv_room (Nat.le_of_ble_eq_true rfl)) dX3_readDigit_1 ⟨Nat.zero_le _, Nat.zero_le _⟩ (fun r W1 H locs hp w => ?_)
  obtain ⟨rfl, rfl⟩ := hp
  have w : zW D A s.heap s [(hpd9, .inr (3, [.ref htx, .int (zI (((pl : Nat) : Int))), .int (zI (((a : Nat) : Int))), .int (zI (((kk : Nat) : Int))), .ref hnu, .int (zI (((rd : Nat) : Int)))])), (htx, .inl (D.2 2, 80, .inl (fT T))), (hnu, .inl (D.2 0, 4, .inl (fQ Q)))] H locs := w.sub [0, 1, 2] (by decide) rfl
  have hdb := dg_b T pl a
  refine lv_istore_n (lv' := [(1, .int (zI (dg T pl a))), (0, .ref hpd9)]) hx hb dX3_readDigit_4 rfl hl (by decide) rfl (fun ls hl => ?_)
  refine lv_iload_n hx hb dX3_readDigit_5 rfl (lv_at hl 0 rfl) ?_
  refine lv_iconst (v := zI 0) hx hb dX3_readDigit_6 rfl ?_
  refine lv_iconst (v := zI 2) hx hb dX3_readDigit_7 rfl ?_
  refine z_SN_i (As := [.int (zI (dg T pl a)), .int (zI (0)), .int (zI (2))]) (rest := []) (Wr := [(hpd9, .inr (3, [.ref htx, .int (zI (((pl : Nat) : Int))), .int (zI (((a : Nat) : Int))), .int (zI (((kk : Nat) : Int))), .ref hnu, .int (zI (((rd : Nat) : Int)))])), (htx, .inl (D.2 2, 80, .inl (fT T))), (hnu, .inl (D.2 0, 4, .inl (fQ Q)))]) ⟨hx, hb, hml, hown, hts⟩ (c_X6_within l D (dg T pl a) 0 2 (by omega) (by omega) (by omega)) ⟨va_cnB 3 hts ggX3_readDigit_X6_within rfl rfl rfl (w.1.2 (RX3, 93, yX6_within, "RelaxedSteps") (by decide +kernel)) (hts (.initialized RX6) (by decide +kernel)) (by decide +kernel) ⟨Nat.le_of_ble_eq_true rfl, Nat.le_of_ble_eq_true rfl⟩, hts (.static yX6_within) (by decide +kernel), trivial⟩ w [] rfl (by decide) [0, 1, 2] rfl (by decide) (by decide) rfl hl.1 rfl (lv_room (Nat.le_of_ble_eq_true rfl)) dX3_readDigit_8 ⟨Nat.zero_le _, Nat.zero_le _⟩ (fun r W1 H locs hp w => ?_)
  obtain ⟨rfl, rfl⟩ := hp
  have w : zW D A s.heap s [(hpd9, .inr (3, [.ref htx, .int (zI (((pl : Nat) : Int))), .int (zI (((a : Nat) : Int))), .int (zI (((kk : Nat) : Int))), .ref hnu, .int (zI (((rd : Nat) : Int)))])), (htx, .inl (D.2 2, 80, .inl (fT T))), (hnu, .inl (D.2 0, 4, .inl (fQ Q)))] H locs := w.sub [0, 1, 2] (by decide) rfl
  refine z_if_ne_b (tgt := 16) hx hb dX3_readDigit_11 (by decide) (fun c11 => ?_) (fun c11 => ?_)
  · skip
    refine lv_aload_n hx hb dX3_readDigit_16 rfl (lv_at hl 1 rfl) ?_
    refine lv_dup hx hb dX3_readDigit_17 rfl ?_
    refine z_get hx hb hown hts w inX3 0 2 rfl rfl (by decide) f_19 rfl rfl dX3_readDigit_18 ?_
    refine lv_iconst (v := zI 1) hx hb dX3_readDigit_21 rfl ?_
    refine z_iadd hx hb dX3_readDigit_22 ?_
    refine z_put hx hb hown hts w inX3 tyX3 tyX3_ok nmX3 0 2 rfl rfl (by decide) f_19 rfl rfl (ty := .int) rfl rfl rfl (Nat.le_of_ble_eq_true rfl) dX3_readDigit_23 (fun H locs w => ?_)
    have w : zW D A s.heap s [(hpd9, .inr (3, [.ref htx, .int (zI (((pl : Nat) : Int))), .int (zI (((a : Nat) : Int) + 1)), .int (zI (((kk : Nat) : Int))), .ref hnu, .int (zI (((rd : Nat) : Int)))])), (htx, .inl (D.2 2, 80, .inl (fT T))), (hnu, .inl (D.2 0, 4, .inl (fQ Q)))] H locs := w
    refine lv_aload_n hx hb dX3_readDigit_26 rfl (lv_at hl 1 rfl) ?_
    refine lv_iload_n hx hb dX3_readDigit_27 rfl (lv_at hl 0 rfl) ?_
    refine z_V_v (As := [.int (zI (dg T pl a))]) (rest := []) (Wr := []) ⟨hx, hb, hml, hown, hts⟩ (c_X3_note l D hpd9 htx hnu pl (a + 1) kk rd T Q (dg T pl a) (by omega)) (cwV 1 hts gX3_readDigit_X3_note rfl rfl rfl (by decide +kernel) ⟨Nat.le_of_ble_eq_true rfl, Nat.le_of_ble_eq_true rfl⟩) w (q0 := 0) rfl rfl rfl [0, 1, 2] rfl (by decide) [] rfl (by decide) (by decide) rfl hl.1 rfl (lv_room (Nat.le_of_ble_eq_true rfl)) dX3_readDigit_28 ⟨Nat.zero_le _, Nat.zero_le _⟩ (fun W1 H locs hp w => ?_)
    subst hp
    have w : zW D A s.heap s [(hpd9, .inr (3, [.ref htx, .int (zI (((pl : Nat) : Int))), .int (zI (((a + 1 : Nat) : Int))), .int (zI (((kk : Nat) : Int))), .ref hnu, .int (zI (((rd + 1 : Nat) : Int)))])), (htx, .inl (D.2 2, 80, .inl (fT T))), (hnu, .inl (D.2 0, 4, .inl (fQ (zu Q rd (dg T pl a)))))] H locs := w.sub [0, 1, 2] (by decide) rfl
    refine lv_iconst (v := zI 1) hx hb dX3_readDigit_31 rfl ?_
    exact z_zret hx hb hr hlocks w dX3_readDigit_32 (by omega) ⟨rfl, by rw [hde]⟩
  · skip
    exact absurd (show 0 ≤ dg T pl a ∧ dg T pl a ≤ 2 by omega) c11
set_option maxHeartbeats 6000000 in
set_option maxRecDepth 100000 in
theorem c_X3_readDigitN (l : Launch) (D : zD) (hpd9 htx hnu : Nat) (pl a kk rd : Nat) (T : Nat → Nat) (Q : Nat → Int) (hT : OkT T pl) (hapl : a ≤ pl) (hy : ¬ (48 ≤ cA T pl a ∧ cA T pl a ≤ 50)) : zM l yX3_readDigit wsX3_readDigit (zR (2)) zE0 D [.ref hpd9] [(hpd9, .inr (3, [.ref htx, .int (zI (((pl : Nat) : Int))), .int (zI (((a : Nat) : Int))), .int (zI (((kk : Nat) : Int))), .ref hnu, .int (zI (((rd : Nat) : Int)))])), (htx, .inl (D.2 2, 80, .inl (fT T))), (hnu, .inl (D.2 0, 4, .inl (fQ Q)))] (zQi D (fun r W1 => r = zI 0 ∧ W1 = [(hpd9, .inr (3, [.ref htx, .int (zI (((pl : Nat) : Int))), .int (zI (((a : Nat) : Int))), .int (zI (((kk : Nat) : Int))), .ref hnu, .int (zI (((rd : Nat) : Int)))])), (htx, .inl (D.2 2, 80, .inl (fT T))), (hnu, .inl (D.2 0, 4, .inl (fQ Q)))])) := by
  refine zM.of (cc := cX3_readDigit) (maxL := 2) (ret := (some .boolean)) (by decide) rfl (Nat.le_of_ble_eq_true rfl) ?_
  intro p e s m below meth c A hx hb hml hown hts hr hlocks hE hnm w ls hl
  have hown : s.vm.findClass RX3 = some m.cls := hown
  have hl : lv_has ls 2 [(0, .ref hpd9)] := hl
  have hpl := hT.1
  have hca := cA_b hT a
  have w : zW D A s.heap s [(hpd9, .inr (3, [.ref htx, .int (zI (((pl : Nat) : Int))), .int (zI (((a : Nat) : Int))), .int (zI (((kk : Nat) : Int))), .ref hnu, .int (zI (((rd : Nat) : Int)))])), (htx, .inl (D.2 2, 80, .inl (fT T))), (hnu, .inl (D.2 0, 4, .inl (fQ Q)))] s.heap [] := w
  refine lv_aload_n hx hb dX3_readDigit_0 rfl (lv_at hl 0 rfl) ?_
  refine z_V_i (As := []) (rest := []) (Wr := []) ⟨hx, hb, hml, hown, hts⟩ (c_X3_digitHere l D hpd9 htx hnu pl a kk rd T Q hT (by omega)) (cwV 0 hts gX3_readDigit_X3_digitHere rfl rfl rfl (by decide +kernel) ⟨Nat.le_of_ble_eq_true rfl, Nat.le_of_ble_eq_true rfl⟩) w (q0 := 0) rfl rfl rfl [0, 1, 2] rfl (by decide) [] rfl (by decide) (by decide) rfl hl.1 rfl (lv_room (Nat.le_of_ble_eq_true rfl)) dX3_readDigit_1 ⟨Nat.zero_le _, Nat.zero_le _⟩ (fun r W1 H locs hp w => ?_)
  obtain ⟨rfl, rfl⟩ := hp
  have w : zW D A s.heap s [(hpd9, .inr (3, [.ref htx, .int (zI (((pl : Nat) : Int))), .int (zI (((a : Nat) : Int))), .int (zI (((kk : Nat) : Int))), .ref hnu, .int (zI (((rd : Nat) : Int)))])), (htx, .inl (D.2 2, 80, .inl (fT T))), (hnu, .inl (D.2 0, 4, .inl (fQ Q)))] H locs := w.sub [0, 1, 2] (by decide) rfl
  have hdb := dg_b T pl a
  refine lv_istore_n (lv' := [(1, .int (zI (dg T pl a))), (0, .ref hpd9)]) hx hb dX3_readDigit_4 rfl hl (by decide) rfl (fun ls hl => ?_)
  refine lv_iload_n hx hb dX3_readDigit_5 rfl (lv_at hl 0 rfl) ?_
  refine lv_iconst (v := zI 0) hx hb dX3_readDigit_6 rfl ?_
  refine lv_iconst (v := zI 2) hx hb dX3_readDigit_7 rfl ?_
  refine z_SN_i (As := [.int (zI (dg T pl a)), .int (zI (0)), .int (zI (2))]) (rest := []) (Wr := [(hpd9, .inr (3, [.ref htx, .int (zI (((pl : Nat) : Int))), .int (zI (((a : Nat) : Int))), .int (zI (((kk : Nat) : Int))), .ref hnu, .int (zI (((rd : Nat) : Int)))])), (htx, .inl (D.2 2, 80, .inl (fT T))), (hnu, .inl (D.2 0, 4, .inl (fQ Q)))]) ⟨hx, hb, hml, hown, hts⟩ (c_X6_within l D (dg T pl a) 0 2 (by omega) (by omega) (by omega)) ⟨va_cnB 3 hts ggX3_readDigit_X6_within rfl rfl rfl (w.1.2 (RX3, 93, yX6_within, "RelaxedSteps") (by decide +kernel)) (hts (.initialized RX6) (by decide +kernel)) (by decide +kernel) ⟨Nat.le_of_ble_eq_true rfl, Nat.le_of_ble_eq_true rfl⟩, hts (.static yX6_within) (by decide +kernel), trivial⟩ w [] rfl (by decide) [0, 1, 2] rfl (by decide) (by decide) rfl hl.1 rfl (lv_room (Nat.le_of_ble_eq_true rfl)) dX3_readDigit_8 ⟨Nat.zero_le _, Nat.zero_le _⟩ (fun r W1 H locs hp w => ?_)
  obtain ⟨rfl, rfl⟩ := hp
  have w : zW D A s.heap s [(hpd9, .inr (3, [.ref htx, .int (zI (((pl : Nat) : Int))), .int (zI (((a : Nat) : Int))), .int (zI (((kk : Nat) : Int))), .ref hnu, .int (zI (((rd : Nat) : Int)))])), (htx, .inl (D.2 2, 80, .inl (fT T))), (hnu, .inl (D.2 0, 4, .inl (fQ Q)))] H locs := w.sub [0, 1, 2] (by decide) rfl
  refine z_if_ne_b (tgt := 16) hx hb dX3_readDigit_11 (by decide) (fun c11 => ?_) (fun c11 => ?_)
  · skip
    have hq := (dg_in c11.1).2
    exact absurd (show 48 ≤ cA T pl a ∧ cA T pl a ≤ 50 by omega) hy
  · skip
    refine lv_iconst (v := zI 0) hx hb dX3_readDigit_14 rfl ?_
    exact z_zret hx hb hr hlocks w dX3_readDigit_15 (by omega) ⟨rfl, rfl⟩
set_option maxHeartbeats 6000000 in
set_option maxRecDepth 100000 in
theorem c_X3_readNumberN (l : Launch) (D : zD) (hpd9 htx hnu : Nat) (pl a kk rd : Nat) (T : Nat → Nat) (Q : Nat → Int) (hT : OkT T pl) (hapl : a ≤ pl) (hy : ¬ 0 ≤ dg T pl a) : zM l yX3_readNumber wsX3_readNumber (zR (2)) zE0 D [.ref hpd9] [(hpd9, .inr (3, [.ref htx, .int (zI (((pl : Nat) : Int))), .int (zI (((a : Nat) : Int))), .int (zI (((kk : Nat) : Int))), .ref hnu, .int (zI (((rd : Nat) : Int)))])), (htx, .inl (D.2 2, 80, .inl (fT T))), (hnu, .inl (D.2 0, 4, .inl (fQ Q)))] (zQi D (fun r W1 => r = zI 0 ∧ W1 = [(hpd9, .inr (3, [.ref htx, .int (zI (((pl : Nat) : Int))), .int (zI (((a : Nat) : Int))), .int (zI (((kk : Nat) : Int))), .ref hnu, .int (zI (((rd : Nat) : Int)))])), (htx, .inl (D.2 2, 80, .inl (fT T))), (hnu, .inl (D.2 0, 4, .inl (fQ Q)))])) := by
  refine zM.of (cc := cX3_readNumber) (maxL := 3) (ret := (some .boolean)) (by decide) rfl (Nat.le_of_ble_eq_true rfl) ?_
  intro p e s m below meth c A hx hb hml hown hts hr hlocks hE hnm w ls hl
  have hown : s.vm.findClass RX3 = some m.cls := hown
  have hl : lv_has ls 3 [(0, .ref hpd9)] := hl
  have hpl := hT.1
  have hca := cA_b hT a
  have w : zW D A s.heap s [(hpd9, .inr (3, [.ref htx, .int (zI (((pl : Nat) : Int))), .int (zI (((a : Nat) : Int))), .int (zI (((kk : Nat) : Int))), .ref hnu, .int (zI (((rd : Nat) : Int)))])), (htx, .inl (D.2 2, 80, .inl (fT T))), (hnu, .inl (D.2 0, 4, .inl (fQ Q)))] s.heap [] := w
  refine lv_aload_n hx hb dX3_readNumber_0 rfl (lv_at hl 0 rfl) ?_
  refine z_V_i (As := []) (rest := []) (Wr := []) ⟨hx, hb, hml, hown, hts⟩ (c_X3_digitHere l D hpd9 htx hnu pl a kk rd T Q hT (by omega)) (cwV 0 hts gX3_readNumber_X3_digitHere rfl rfl rfl (by decide +kernel) ⟨Nat.le_of_ble_eq_true rfl, Nat.le_of_ble_eq_true rfl⟩) w (q0 := 0) rfl rfl rfl [0, 1, 2] rfl (by decide) [] rfl (by decide) (by decide) rfl hl.1 rfl (lv_room (Nat.le_of_ble_eq_true rfl)) dX3_readNumber_1 ⟨Nat.zero_le _, Nat.zero_le _⟩ (fun r W1 H locs hp w => ?_)
  obtain ⟨rfl, rfl⟩ := hp
  have w : zW D A s.heap s [(hpd9, .inr (3, [.ref htx, .int (zI (((pl : Nat) : Int))), .int (zI (((a : Nat) : Int))), .int (zI (((kk : Nat) : Int))), .ref hnu, .int (zI (((rd : Nat) : Int)))])), (htx, .inl (D.2 2, 80, .inl (fT T))), (hnu, .inl (D.2 0, 4, .inl (fQ Q)))] H locs := w.sub [0, 1, 2] (by decide) rfl
  have hdb := dg_b T pl a
  refine lv_istore_n (lv' := [(1, .int (zI (dg T pl a))), (0, .ref hpd9)]) hx hb dX3_readNumber_4 rfl hl (by decide) rfl (fun ls hl => ?_)
  refine lv_iload_n hx hb dX3_readNumber_5 rfl (lv_at hl 0 rfl) ?_
  refine z_if_ge (tgt := 11) hx hb (by omega) dX3_readNumber_6 (by decide) (fun c6 => ?_) (fun c6 => ?_)
  · skip
    exact absurd c6 hy
  · skip
    refine lv_iconst (v := zI 0) hx hb dX3_readNumber_9 rfl ?_
    exact z_zret hx hb hr hlocks w dX3_readNumber_10 (by omega) ⟨rfl, rfl⟩
set_option maxHeartbeats 6000000 in
set_option maxRecDepth 100000 in
theorem c_X3_readNumberY (l : Launch) (D : zD) (hpd9 htx hnu : Nat) (pl a kk rd : Nat) (T : Nat → Nat) (Q : Nat → Int) (hT : OkT T pl) (hapl : a ≤ pl) (hrd : rd < 4) (hy : 0 ≤ dg T pl a) : zM l yX3_readNumber wsX3_readNumber (zR (2)) zE0 D [.ref hpd9] [(hpd9, .inr (3, [.ref htx, .int (zI (((pl : Nat) : Int))), .int (zI (((a : Nat) : Int))), .int (zI (((kk : Nat) : Int))), .ref hnu, .int (zI (((rd : Nat) : Int)))])), (htx, .inl (D.2 2, 80, .inl (fT T))), (hnu, .inl (D.2 0, 4, .inl (fQ Q)))] (zQi D (fun r W1 => r = zI 1 ∧ W1 = [(hpd9, .inr (3, [.ref htx, .int (zI (((pl : Nat) : Int))), .int (zI (((((nIt T pl a 2).2) : Nat) : Int))), .int (zI (((kk : Nat) : Int))), .ref hnu, .int (zI ((((rd + 1) : Nat) : Int)))])), (htx, .inl (D.2 2, 80, .inl (fT T))), (hnu, .inl (D.2 0, 4, .inl (fQ (zu Q rd (nIt T pl a 2).1))))])) := by
  refine zM.of (cc := cX3_readNumber) (maxL := 3) (ret := (some .boolean)) (by decide) rfl (Nat.le_of_ble_eq_true rfl) ?_
  intro p e s m below meth c A hx hb hml hown hts hr hlocks hE hnm w ls hl
  have hown : s.vm.findClass RX3 = some m.cls := hown
  have hl : lv_has ls 3 [(0, .ref hpd9)] := hl
  have f_19 : (Cond.fieldLink RX3 19 "RelaxedSteps$Pad" "at" "I").before _ s = true := hts _ (by decide +kernel)
  have inX3 : ∀ w ∈ u_ws RX3 TX3 6, w ∈ wsX3_readNumber := by decide +kernel
  have hpl := hT.1
  have hca := cA_b hT a
  have hal := dg_lt hy
  have w : zW D A s.heap s [(hpd9, .inr (3, [.ref htx, .int (zI (((pl : Nat) : Int))), .int (zI (((a : Nat) : Int))), .int (zI (((kk : Nat) : Int))), .ref hnu, .int (zI (((rd : Nat) : Int)))])), (htx, .inl (D.2 2, 80, .inl (fT T))), (hnu, .inl (D.2 0, 4, .inl (fQ Q)))] s.heap [] := w
  refine lv_aload_n hx hb dX3_readNumber_0 rfl (lv_at hl 0 rfl) ?_
  refine z_V_i (As := []) (rest := []) (Wr := []) ⟨hx, hb, hml, hown, hts⟩ (c_X3_digitHere l D hpd9 htx hnu pl a kk rd T Q hT (by omega)) (cwV 0 hts gX3_readNumber_X3_digitHere rfl rfl rfl (by decide +kernel) ⟨Nat.le_of_ble_eq_true rfl, Nat.le_of_ble_eq_true rfl⟩) w (q0 := 0) rfl rfl rfl [0, 1, 2] rfl (by decide) [] rfl (by decide) (by decide) rfl hl.1 rfl (lv_room (Nat.le_of_ble_eq_true rfl)) dX3_readNumber_1 ⟨Nat.zero_le _, Nat.zero_le _⟩ (fun r W1 H locs hp w => ?_)
  obtain ⟨rfl, rfl⟩ := hp
  have w : zW D A s.heap s [(hpd9, .inr (3, [.ref htx, .int (zI (((pl : Nat) : Int))), .int (zI (((a : Nat) : Int))), .int (zI (((kk : Nat) : Int))), .ref hnu, .int (zI (((rd : Nat) : Int)))])), (htx, .inl (D.2 2, 80, .inl (fT T))), (hnu, .inl (D.2 0, 4, .inl (fQ Q)))] H locs := w.sub [0, 1, 2] (by decide) rfl
  have hdb := dg_b T pl a
  refine lv_istore_n (lv' := [(1, .int (zI (dg T pl a))), (0, .ref hpd9)]) hx hb dX3_readNumber_4 rfl hl (by decide) rfl (fun ls hl => ?_)
  refine lv_iload_n hx hb dX3_readNumber_5 rfl (lv_at hl 0 rfl) ?_
  refine z_if_ge (tgt := 11) hx hb (by omega) dX3_readNumber_6 (by decide) (fun c6 => ?_) (fun c6 => ?_)
  · skip
    refine lv_aload_n hx hb dX3_readNumber_11 rfl (lv_at hl 1 rfl) ?_
    refine lv_dup hx hb dX3_readNumber_12 rfl ?_
    refine z_get hx hb hown hts w inX3 0 2 rfl rfl (by decide) f_19 rfl rfl dX3_readNumber_13 ?_
    refine lv_iconst (v := zI 1) hx hb dX3_readNumber_16 rfl ?_
    refine z_iadd hx hb dX3_readNumber_17 ?_
    refine z_put hx hb hown hts w inX3 tyX3 tyX3_ok nmX3 0 2 rfl rfl (by decide) f_19 rfl rfl (ty := .int) rfl rfl rfl (Nat.le_of_ble_eq_true rfl) dX3_readNumber_18 (fun H locs w => ?_)
    have w : zW D A s.heap s [(hpd9, .inr (3, [.ref htx, .int (zI (((pl : Nat) : Int))), .int (zI (((a : Nat) : Int) + 1)), .int (zI (((kk : Nat) : Int))), .ref hnu, .int (zI (((rd : Nat) : Int)))])), (htx, .inl (D.2 2, 80, .inl (fT T))), (hnu, .inl (D.2 0, 4, .inl (fQ Q)))] H locs := w
    refine lv_iconst (v := zI 0) hx hb dX3_readNumber_21 rfl ?_
    refine lv_istore_n (lv' := [(2, .int (zI (0))), (1, .int (zI (dg T pl a))), (0, .ref hpd9)]) hx hb dX3_readNumber_22 rfl hl (by decide) rfl (fun ls hl => ?_)
    have lp_23 : ∀ (n_23 : Nat) (k : Nat) (x2 : Int) (x1 : Int) , 2 - k < n_23 → (k ≤ 2) → x2 = ((k : Nat) : Int) → x1 = (nIt T pl a k).1 → ∀ (H : Heap) (locs : List Loc) (ls : Array Slot), zW D A s.heap s [(hpd9, .inr (3, [.ref htx, .int (zI (((pl : Nat) : Int))), .int (zI ((((nIt T pl a k).2 : Nat) : Int))), .int (zI (((kk : Nat) : Int))), .ref hnu, .int (zI (((rd : Nat) : Int)))])), (htx, .inl (D.2 2, 80, .inl (fT T))), (hnu, .inl (D.2 0, 4, .inl (fQ Q)))] H locs → lv_has ls 3 [(2, .int (zI (x2))), (1, .int (zI (x1))), (0, .ref hpd9)] → W p l e (zR (2)) s m [.ref hpd9].toArray below meth c H locs 0 0 (MQ below ((zQi D (fun r W1 => r = zI 1 ∧ W1 = [(hpd9, .inr (3, [.ref htx, .int (zI (((pl : Nat) : Int))), .int (zI (((((nIt T pl a 2).2) : Nat) : Int))), .int (zI (((kk : Nat) : Int))), .ref hnu, .int (zI ((((rd + 1) : Nat) : Int)))])), (htx, .inl (D.2 2, 80, .inl (fT T))), (hnu, .inl (D.2 0, 4, .inl (fQ (zu Q rd (nIt T pl a 2).1))))])) A) [.ref hpd9].toArray s 0 0 A) (F0 m 23 ls []) := by
      intro n_23
      induction n_23 with
      | zero => intro k x2 x1 h_; exact absurd h_ (Nat.not_lt_zero _)
      | succ n_23 ih_23 =>
        intro k x2 x1 hf_23 hk ex2 ex1 H locs ls w hl
        subst ex2
        subst ex1
        have hkb := nIt_bk hy hk
        have hka := nIt_at hy k
        have hdk := dg_b T pl (nIt T pl a k).2
        have hl : lv_has ls 3 [(2, .int (zI (((k : Nat) : Int)))), (1, .int (zI ((nIt T pl a k).1))), (0, .ref hpd9)] := hl
        refine lv_iload_n hx hb dX3_readNumber_23 rfl (lv_at hl 0 rfl) ?_
        refine lv_iconst (v := zI 2) hx hb dX3_readNumber_24 rfl ?_
        refine z_icmp_ge (tgt := 65) hx hb (by omega) (by omega) dX3_readNumber_25 (by decide) (fun c25 => ?_) (fun c25 => ?_)
        · skip
          have e2 : nIt T pl a 2 = nIt T pl a k := nIt_2 hk (by omega)
          refine lv_aload_n hx hb dX3_readNumber_65 rfl (lv_at hl 2 rfl) ?_
          refine lv_iload_n hx hb dX3_readNumber_66 rfl (lv_at hl 1 rfl) ?_
          refine z_V_v (As := [.int (zI ((nIt T pl a k).1))]) (rest := []) (Wr := []) ⟨hx, hb, hml, hown, hts⟩ (c_X3_note l D hpd9 htx hnu pl ((nIt T pl a k).2) kk rd T Q ((nIt T pl a k).1) (by omega)) (cwV 1 hts gX3_readNumber_X3_note rfl rfl rfl (by decide +kernel) ⟨Nat.le_of_ble_eq_true rfl, Nat.le_of_ble_eq_true rfl⟩) w (q0 := 0) rfl rfl rfl [0, 1, 2] rfl (by decide) [] rfl (by decide) (by decide) rfl hl.1 rfl (lv_room (Nat.le_of_ble_eq_true rfl)) dX3_readNumber_67 ⟨Nat.zero_le _, Nat.zero_le _⟩ (fun W1 H locs hp w => ?_)
          subst hp
          have w : zW D A s.heap s [(hpd9, .inr (3, [.ref htx, .int (zI (((pl : Nat) : Int))), .int (zI ((((nIt T pl a k).2 : Nat) : Int))), .int (zI (((kk : Nat) : Int))), .ref hnu, .int (zI (((rd + 1 : Nat) : Int)))])), (htx, .inl (D.2 2, 80, .inl (fT T))), (hnu, .inl (D.2 0, 4, .inl (fQ (zu Q rd ((nIt T pl a k).1)))))] H locs := w.sub [0, 1, 2] (by decide) rfl
          refine lv_iconst (v := zI 1) hx hb dX3_readNumber_70 rfl ?_
          exact z_zret hx hb hr hlocks w dX3_readNumber_71 (by omega) ⟨rfl, by rw [e2]⟩
        · skip
          refine lv_iload_n hx hb dX3_readNumber_28 rfl (lv_at hl 1 rfl) ?_
          refine z_if_le (tgt := 65) hx hb (by omega) dX3_readNumber_29 (by decide) (fun c29 => ?_) (fun c29 => ?_)
          · skip
            have e2 : nIt T pl a 2 = nIt T pl a k := nIt_2 hk (by omega)
            refine lv_aload_n hx hb dX3_readNumber_65 rfl (lv_at hl 2 rfl) ?_
            refine lv_iload_n hx hb dX3_readNumber_66 rfl (lv_at hl 1 rfl) ?_
            refine z_V_v (As := [.int (zI ((nIt T pl a k).1))]) (rest := []) (Wr := []) ⟨hx, hb, hml, hown, hts⟩ (c_X3_note l D hpd9 htx hnu pl ((nIt T pl a k).2) kk rd T Q ((nIt T pl a k).1) (by omega)) (cwV 1 hts gX3_readNumber_X3_note rfl rfl rfl (by decide +kernel) ⟨Nat.le_of_ble_eq_true rfl, Nat.le_of_ble_eq_true rfl⟩) w (q0 := 0) rfl rfl rfl [0, 1, 2] rfl (by decide) [] rfl (by decide) (by decide) rfl hl.1 rfl (lv_room (Nat.le_of_ble_eq_true rfl)) dX3_readNumber_67 ⟨Nat.zero_le _, Nat.zero_le _⟩ (fun W1 H locs hp w => ?_)
            subst hp
            have w : zW D A s.heap s [(hpd9, .inr (3, [.ref htx, .int (zI (((pl : Nat) : Int))), .int (zI ((((nIt T pl a k).2 : Nat) : Int))), .int (zI (((kk : Nat) : Int))), .ref hnu, .int (zI (((rd + 1 : Nat) : Int)))])), (htx, .inl (D.2 2, 80, .inl (fT T))), (hnu, .inl (D.2 0, 4, .inl (fQ (zu Q rd ((nIt T pl a k).1)))))] H locs := w.sub [0, 1, 2] (by decide) rfl
            refine lv_iconst (v := zI 1) hx hb dX3_readNumber_70 rfl ?_
            exact z_zret hx hb hr hlocks w dX3_readNumber_71 (by omega) ⟨rfl, by rw [e2]⟩
          · skip
            refine lv_aload_n hx hb dX3_readNumber_32 rfl (lv_at hl 2 rfl) ?_
            refine z_V_i (As := []) (rest := []) (Wr := []) ⟨hx, hb, hml, hown, hts⟩ (c_X3_digitHere l D hpd9 htx hnu pl ((nIt T pl a k).2) kk rd T Q hT (by omega)) (cwV 0 hts gX3_readNumber_X3_digitHere rfl rfl rfl (by decide +kernel) ⟨Nat.le_of_ble_eq_true rfl, Nat.le_of_ble_eq_true rfl⟩) w (q0 := 0) rfl rfl rfl [0, 1, 2] rfl (by decide) [] rfl (by decide) (by decide) rfl hl.1 rfl (lv_room (Nat.le_of_ble_eq_true rfl)) dX3_readNumber_33 ⟨Nat.zero_le _, Nat.zero_le _⟩ (fun r W1 H locs hp w => ?_)
            obtain ⟨rfl, rfl⟩ := hp
            have w : zW D A s.heap s [(hpd9, .inr (3, [.ref htx, .int (zI (((pl : Nat) : Int))), .int (zI ((((nIt T pl a k).2 : Nat) : Int))), .int (zI (((kk : Nat) : Int))), .ref hnu, .int (zI (((rd : Nat) : Int)))])), (htx, .inl (D.2 2, 80, .inl (fT T))), (hnu, .inl (D.2 0, 4, .inl (fQ Q)))] H locs := w.sub [0, 1, 2] (by decide) rfl
            have hdb := dg_b T pl ((nIt T pl a k).2)
            refine z_if_lt (tgt := 65) hx hb (by omega) dX3_readNumber_36 (by decide) (fun c36 => ?_) (fun c36 => ?_)
            · skip
              have e2 : nIt T pl a 2 = nIt T pl a k := nIt_2 hk (by omega)
              refine lv_aload_n hx hb dX3_readNumber_65 rfl (lv_at hl 2 rfl) ?_
              refine lv_iload_n hx hb dX3_readNumber_66 rfl (lv_at hl 1 rfl) ?_
              refine z_V_v (As := [.int (zI ((nIt T pl a k).1))]) (rest := []) (Wr := []) ⟨hx, hb, hml, hown, hts⟩ (c_X3_note l D hpd9 htx hnu pl ((nIt T pl a k).2) kk rd T Q ((nIt T pl a k).1) (by omega)) (cwV 1 hts gX3_readNumber_X3_note rfl rfl rfl (by decide +kernel) ⟨Nat.le_of_ble_eq_true rfl, Nat.le_of_ble_eq_true rfl⟩) w (q0 := 0) rfl rfl rfl [0, 1, 2] rfl (by decide) [] rfl (by decide) (by decide) rfl hl.1 rfl (lv_room (Nat.le_of_ble_eq_true rfl)) dX3_readNumber_67 ⟨Nat.zero_le _, Nat.zero_le _⟩ (fun W1 H locs hp w => ?_)
              subst hp
              have w : zW D A s.heap s [(hpd9, .inr (3, [.ref htx, .int (zI (((pl : Nat) : Int))), .int (zI ((((nIt T pl a k).2 : Nat) : Int))), .int (zI (((kk : Nat) : Int))), .ref hnu, .int (zI (((rd + 1 : Nat) : Int)))])), (htx, .inl (D.2 2, 80, .inl (fT T))), (hnu, .inl (D.2 0, 4, .inl (fQ (zu Q rd ((nIt T pl a k).1)))))] H locs := w.sub [0, 1, 2] (by decide) rfl
              refine lv_iconst (v := zI 1) hx hb dX3_readNumber_70 rfl ?_
              exact z_zret hx hb hr hlocks w dX3_readNumber_71 (by omega) ⟨rfl, by rw [e2]⟩
            · skip
              refine lv_bipush (v := zI 10) hx hb dX3_readNumber_39 (by decide +kernel) ?_
              refine lv_iload_n hx hb dX3_readNumber_41 rfl (lv_at hl 1 rfl) ?_
              refine z_imul hx hb dX3_readNumber_42 ?_
              refine lv_aload_n hx hb dX3_readNumber_43 rfl (lv_at hl 2 rfl) ?_
              refine z_V_i (As := []) (rest := [.int (zI (10 * ((nIt T pl a k).1)))]) (Wr := []) ⟨hx, hb, hml, hown, hts⟩ (c_X3_digitHere l D hpd9 htx hnu pl ((nIt T pl a k).2) kk rd T Q hT (by omega)) (cwV 0 hts gX3_readNumber_X3_digitHere rfl rfl rfl (by decide +kernel) ⟨Nat.le_of_ble_eq_true rfl, Nat.le_of_ble_eq_true rfl⟩) w (q0 := 0) rfl rfl rfl [0, 1, 2] rfl (by decide) [] rfl (by decide) (by decide) rfl hl.1 rfl (lv_room (Nat.le_of_ble_eq_true rfl)) dX3_readNumber_44 ⟨Nat.zero_le _, Nat.zero_le _⟩ (fun r W1 H locs hp w => ?_)
              obtain ⟨rfl, rfl⟩ := hp
              have w : zW D A s.heap s [(hpd9, .inr (3, [.ref htx, .int (zI (((pl : Nat) : Int))), .int (zI ((((nIt T pl a k).2 : Nat) : Int))), .int (zI (((kk : Nat) : Int))), .ref hnu, .int (zI (((rd : Nat) : Int)))])), (htx, .inl (D.2 2, 80, .inl (fT T))), (hnu, .inl (D.2 0, 4, .inl (fQ Q)))] H locs := w.sub [0, 1, 2] (by decide) rfl
              have hdb := dg_b T pl ((nIt T pl a k).2)
              refine z_iadd hx hb dX3_readNumber_47 ?_
              refine lv_istore_n (lv' := [(1, .int (zI ((10 * ((nIt T pl a k).1)) + (dg T pl ((nIt T pl a k).2))))), (2, .int (zI (((k : Nat) : Int)))), (0, .ref hpd9)]) hx hb dX3_readNumber_48 rfl hl (by decide) rfl (fun ls hl => ?_)
              refine lv_aload_n hx hb dX3_readNumber_49 rfl (lv_at hl 2 rfl) ?_
              refine lv_dup hx hb dX3_readNumber_50 rfl ?_
              refine z_get hx hb hown hts w inX3 0 2 rfl rfl (by decide) f_19 rfl rfl dX3_readNumber_51 ?_
              refine lv_iconst (v := zI 1) hx hb dX3_readNumber_54 rfl ?_
              refine z_iadd hx hb dX3_readNumber_55 ?_
              refine z_put hx hb hown hts w inX3 tyX3 tyX3_ok nmX3 0 2 rfl rfl (by decide) f_19 rfl rfl (ty := .int) rfl rfl rfl (Nat.le_of_ble_eq_true rfl) dX3_readNumber_56 (fun H locs w => ?_)
              have w : zW D A s.heap s [(hpd9, .inr (3, [.ref htx, .int (zI (((pl : Nat) : Int))), .int (zI ((((nIt T pl a k).2 : Nat) : Int) + 1)), .int (zI (((kk : Nat) : Int))), .ref hnu, .int (zI (((rd : Nat) : Int)))])), (htx, .inl (D.2 2, 80, .inl (fT T))), (hnu, .inl (D.2 0, 4, .inl (fQ Q)))] H locs := w
              refine z_iinc (lv' := [(2, .int (zI (((k : Nat) : Int) + 1))), (1, .int (zI ((10 * ((nIt T pl a k).1)) + (dg T pl ((nIt T pl a k).2))))), (0, .ref hpd9)]) hx hb dX3_readNumber_59 hl (k := 1) rfl (by decide) rfl (fun ls hl => ?_)
              refine lv_goto (tgt := 23) hx hb dX3_readNumber_62 (by decide) ?_
              have ego := nIt_go (k := k) (by omega) (by omega)
              exact ih_23 (k + 1) _ _ (by omega) (by omega) (by first | rfl | omega) (by rw [ego]) _ _ _ (w.to (by rw [ego]; rfl)) (lv_sub hl [0, 1, 2] rfl)
    exact lp_23 ((2 - 0) + 1) 0 _ _ (by omega) (by omega) (by first | rfl | omega) (by first | rfl | omega) _ _ _ w (lv_sub hl [0, 1, 2] rfl)
  · skip
    exact absurd hy (by omega)
