set_option maxHeartbeats 6000000 in
set_option maxRecDepth 100000 in
theorem c_X4_hasRoomFor (l : Launch) (D : zD) (hse hlf hwb hp hw hz h0 h1 h2 hl0 : Nat) (S : Nat → Int) (L : Nat → Int) (Wb : Nat → Int32) (hok : OkP S) (hL : OkL L) (k : Nat) (hk : k < 16) : zM l yX4_hasRoomFor wsX4_hasRoomFor (zR (0)) zE0 D [.ref hse, .ref hp, .int (zI (((k : Nat) : Int)))] (wSe D hse hlf hwb (fMu L) Wb ++ wPk D hp hw hz h0 h1 h2 hl0 S) (zQi D (fun r W1 => r = zI (zb (sRoom S L k)) ∧ W1 = (wSe D hse hlf hwb (fMu L) Wb ++ wPk D hp hw hz h0 h1 h2 hl0 S))) := by
  refine zM.of (cc := cX4_hasRoomFor) (maxL := 4) (ret := (some .boolean)) (by decide) rfl (Nat.le_of_ble_eq_true rfl) ?_
  intro p e s m below meth c A hx hb hml hown hts hr hlocks hE hnm w ls hl
  have hown : s.vm.findClass RX4 = some m.cls := hown
  have hl : lv_has ls 4 [(0, .ref hse), (1, .ref hp), (2, .int (zI (((k : Nat) : Int))))] := hl
  have f_73 : (Cond.fieldLink RX4 73 "RelaxedSteps$Packing" "sizes" "[[I").before _ s = true := hts _ (by decide +kernel)
  have f_9 : (Cond.fieldLink RX4 9 "RelaxedSteps$Search" "left" "[I").before _ s = true := hts _ (by decide +kernel)
  have inX2 : ∀ w ∈ u_ws RX2 TX2 4, w ∈ wsX4_hasRoomFor := by decide +kernel
  have inX4 : ∀ w ∈ u_ws RX4 TX4 2, w ∈ wsX4_hasRoomFor := by decide +kernel
  have hn := zn_eq hok
  have h16 := zn_le hok
  have hlim := hok.2.2
  have hokp := hok
  have hL1 := hL
  unfold OkL at hL1
  have hck := hok.2.1 k hk
  have w : zW D A s.heap s [(hse, .inr (4, [.ref hlf, .ref hwb])), (hlf, .inl (D.2 0, 3, .inl (fMu L))), (hwb, .inl (D.2 0, 17, .inl (Wb))), (hp, .inr (2, [.ref hw, .ref hz, .ref hl0, .int (zI (S 0))])), (hw, .inl (D.2 0, 16, .inl (fC S 0))), (hz, .inl (D.2 5, 3, .inr (.inr (.inr (.inr (f3 h0 h1 h2)))))), (h0, .inl (D.2 0, 16, .inl (fC S 1))), (h1, .inl (D.2 0, 16, .inl (fC S 2))), (h2, .inl (D.2 0, 16, .inl (fC S 3))), (hl0, .inl (D.2 0, 3, .inl (fLm S)))] s.heap [] := w
  refine lv_iconst (v := zI 0) hx hb dX4_hasRoomFor_0 rfl ?_
  refine lv_istore_n (lv' := [(3, .int (zI (0))), (0, .ref hse), (1, .ref hp), (2, .int (zI (((k : Nat) : Int))))]) hx hb dX4_hasRoomFor_1 rfl hl (by decide) rfl (fun ls hl => ?_)
  refine lv_iload_n hx hb dX4_hasRoomFor_2 rfl (lv_at hl 0 rfl) ?_
  refine lv_iconst (v := zI 3) hx hb dX4_hasRoomFor_3 rfl ?_
  refine z_icmp_ge (tgt := 32) hx hb (by omega) (by omega) dX4_hasRoomFor_4 (by decide) (fun c4 => ?_) (fun c4 => ?_)
  · skip
    exact absurd c4 (by omega)
  · skip
    refine lv_aload_n hx hb dX4_hasRoomFor_7 rfl (lv_at hl 2 rfl) ?_
    refine z_get hx hb hown hts w inX2 3 1 rfl rfl (by decide) f_73 rfl rfl dX4_hasRoomFor_8 ?_
    refine lv_iload_n hx hb dX4_hasRoomFor_11 rfl (lv_at hl 0 rfl) ?_
    refine z_aald (t0 := 5) hx hb w 5 rfl rfl rfl 0 (by omega) (by decide) rfl (v := h0) rfl dX4_hasRoomFor_12 ?_
    refine lv_iload_n hx hb dX4_hasRoomFor_13 rfl (lv_at hl 3 rfl) ?_
    refine z_iald hx hb w 6 rfl k (by omega) (by decide) rfl (v := (zI (sC S 1 k))) (if_pos (by omega)) dX4_hasRoomFor_14 ?_
    refine lv_aload_n hx hb dX4_hasRoomFor_15 rfl (lv_at hl 1 rfl) ?_
    refine z_get hx hb hown hts w inX4 0 0 rfl rfl (by decide) f_9 rfl rfl dX4_hasRoomFor_16 ?_
    refine lv_iload_n hx hb dX4_hasRoomFor_19 rfl (lv_at hl 0 rfl) ?_
    refine z_iald hx hb w 1 rfl 0 (by omega) (by decide) rfl (v := (zI (L 0))) (if_pos (by omega)) dX4_hasRoomFor_20 ?_
    refine z_icmp_le (tgt := 26) hx hb (by omega) (by omega) dX4_hasRoomFor_21 (by decide) (fun c21 => ?_) (fun c21 => ?_)
    · skip
      refine z_iinc (lv' := [(3, .int (zI (0 + 1))), (0, .ref hse), (1, .ref hp), (2, .int (zI (((k : Nat) : Int))))]) hx hb dX4_hasRoomFor_26 hl (k := 0) rfl (by decide) rfl (fun ls hl => ?_)
      have hl : lv_has ls 4 [(3, .int (zI (1))), (0, .ref hse), (1, .ref hp), (2, .int (zI (((k : Nat) : Int))))] := hl
      refine lv_goto (tgt := 2) hx hb dX4_hasRoomFor_29 (by decide) ?_
      refine lv_iload_n hx hb dX4_hasRoomFor_2 rfl (lv_at hl 0 rfl) ?_
      refine lv_iconst (v := zI 3) hx hb dX4_hasRoomFor_3 rfl ?_
      refine z_icmp_ge (tgt := 32) hx hb (by omega) (by omega) dX4_hasRoomFor_4 (by decide) (fun c4 => ?_) (fun c4 => ?_)
      · skip
        exact absurd c4 (by omega)
      · skip
        refine lv_aload_n hx hb dX4_hasRoomFor_7 rfl (lv_at hl 2 rfl) ?_
        refine z_get hx hb hown hts w inX2 3 1 rfl rfl (by decide) f_73 rfl rfl dX4_hasRoomFor_8 ?_
        refine lv_iload_n hx hb dX4_hasRoomFor_11 rfl (lv_at hl 0 rfl) ?_
        refine z_aald (t0 := 5) hx hb w 5 rfl rfl rfl 1 (by omega) (by decide) rfl (v := h1) rfl dX4_hasRoomFor_12 ?_
        refine lv_iload_n hx hb dX4_hasRoomFor_13 rfl (lv_at hl 3 rfl) ?_
        refine z_iald hx hb w 7 rfl k (by omega) (by decide) rfl (v := (zI (sC S 2 k))) (if_pos (by omega)) dX4_hasRoomFor_14 ?_
        refine lv_aload_n hx hb dX4_hasRoomFor_15 rfl (lv_at hl 1 rfl) ?_
        refine z_get hx hb hown hts w inX4 0 0 rfl rfl (by decide) f_9 rfl rfl dX4_hasRoomFor_16 ?_
        refine lv_iload_n hx hb dX4_hasRoomFor_19 rfl (lv_at hl 0 rfl) ?_
        refine z_iald hx hb w 1 rfl 1 (by omega) (by decide) rfl (v := (zI (L 1))) (if_pos (by omega)) dX4_hasRoomFor_20 ?_
        refine z_icmp_le (tgt := 26) hx hb (by omega) (by omega) dX4_hasRoomFor_21 (by decide) (fun c21 => ?_) (fun c21 => ?_)
        · skip
          refine z_iinc (lv' := [(3, .int (zI (1 + 1))), (0, .ref hse), (1, .ref hp), (2, .int (zI (((k : Nat) : Int))))]) hx hb dX4_hasRoomFor_26 hl (k := 0) rfl (by decide) rfl (fun ls hl => ?_)
          have hl : lv_has ls 4 [(3, .int (zI (2))), (0, .ref hse), (1, .ref hp), (2, .int (zI (((k : Nat) : Int))))] := hl
          refine lv_goto (tgt := 2) hx hb dX4_hasRoomFor_29 (by decide) ?_
          refine lv_iload_n hx hb dX4_hasRoomFor_2 rfl (lv_at hl 0 rfl) ?_
          refine lv_iconst (v := zI 3) hx hb dX4_hasRoomFor_3 rfl ?_
          refine z_icmp_ge (tgt := 32) hx hb (by omega) (by omega) dX4_hasRoomFor_4 (by decide) (fun c4 => ?_) (fun c4 => ?_)
          · skip
            exact absurd c4 (by omega)
          · skip
            refine lv_aload_n hx hb dX4_hasRoomFor_7 rfl (lv_at hl 2 rfl) ?_
            refine z_get hx hb hown hts w inX2 3 1 rfl rfl (by decide) f_73 rfl rfl dX4_hasRoomFor_8 ?_
            refine lv_iload_n hx hb dX4_hasRoomFor_11 rfl (lv_at hl 0 rfl) ?_
            refine z_aald (t0 := 5) hx hb w 5 rfl rfl rfl 2 (by omega) (by decide) rfl (v := h2) rfl dX4_hasRoomFor_12 ?_
            refine lv_iload_n hx hb dX4_hasRoomFor_13 rfl (lv_at hl 3 rfl) ?_
            refine z_iald hx hb w 8 rfl k (by omega) (by decide) rfl (v := (zI (sC S 3 k))) (if_pos (by omega)) dX4_hasRoomFor_14 ?_
            refine lv_aload_n hx hb dX4_hasRoomFor_15 rfl (lv_at hl 1 rfl) ?_
            refine z_get hx hb hown hts w inX4 0 0 rfl rfl (by decide) f_9 rfl rfl dX4_hasRoomFor_16 ?_
            refine lv_iload_n hx hb dX4_hasRoomFor_19 rfl (lv_at hl 0 rfl) ?_
            refine z_iald hx hb w 1 rfl 2 (by omega) (by decide) rfl (v := (zI (L 2))) (if_pos (by omega)) dX4_hasRoomFor_20 ?_
            refine z_icmp_le (tgt := 26) hx hb (by omega) (by omega) dX4_hasRoomFor_21 (by decide) (fun c21 => ?_) (fun c21 => ?_)
            · skip
              refine z_iinc (lv' := [(3, .int (zI (2 + 1))), (0, .ref hse), (1, .ref hp), (2, .int (zI (((k : Nat) : Int))))]) hx hb dX4_hasRoomFor_26 hl (k := 0) rfl (by decide) rfl (fun ls hl => ?_)
              have hl : lv_has ls 4 [(3, .int (zI (3))), (0, .ref hse), (1, .ref hp), (2, .int (zI (((k : Nat) : Int))))] := hl
              refine lv_goto (tgt := 2) hx hb dX4_hasRoomFor_29 (by decide) ?_
              refine lv_iload_n hx hb dX4_hasRoomFor_2 rfl (lv_at hl 0 rfl) ?_
              refine lv_iconst (v := zI 3) hx hb dX4_hasRoomFor_3 rfl ?_
              refine z_icmp_ge (tgt := 32) hx hb (by omega) (by omega) dX4_hasRoomFor_4 (by decide) (fun c4 => ?_) (fun c4 => ?_)
              · skip
                refine lv_iconst (v := zI 1) hx hb dX4_hasRoomFor_32 rfl ?_
                exact z_zret hx hb hr hlocks w dX4_hasRoomFor_33 (by omega) ⟨by first | rw [zb_t (by omega)] | rw [zb_f (by omega)], rfl⟩
              · skip
                exact absurd c4 (by omega)
            · skip
              refine lv_iconst (v := zI 0) hx hb dX4_hasRoomFor_24 rfl ?_
              exact z_zret hx hb hr hlocks w dX4_hasRoomFor_25 (by omega) ⟨by first | rw [zb_t (by omega)] | rw [zb_f (by omega)], rfl⟩
        · skip
          refine lv_iconst (v := zI 0) hx hb dX4_hasRoomFor_24 rfl ?_
          exact z_zret hx hb hr hlocks w dX4_hasRoomFor_25 (by omega) ⟨by first | rw [zb_t (by omega)] | rw [zb_f (by omega)], rfl⟩
    · skip
      refine lv_iconst (v := zI 0) hx hb dX4_hasRoomFor_24 rfl ?_
      exact z_zret hx hb hr hlocks w dX4_hasRoomFor_25 (by omega) ⟨by first | rw [zb_t (by omega)] | rw [zb_f (by omega)], rfl⟩
set_option maxHeartbeats 6000000 in
set_option maxRecDepth 100000 in
theorem c_X4_leaveM (l : Launch) (D : zD) (hse hlf hwb hp hw hz h0 h1 h2 hl0 : Nat) (S : Nat → Int) (L : Nat → Int) (Wb : Nat → Int32) (k : Nat) (hk : k < 16) : zM l yX4_leave wsX4_leave (zR (0)) zE0 D [.ref hse, .ref hp, .int (zI (((k : Nat) : Int))), .int (zI ((-1)))] (wSe D hse hlf hwb (fMu L) Wb ++ wPk D hp hw hz h0 h1 h2 hl0 S) (zQv D (fun W1 => W1 = (wSe D hse hlf hwb (fMu (sLv S L k (-1))) Wb ++ wPk D hp hw hz h0 h1 h2 hl0 S))) := by
  refine zM.of (cc := cX4_leave) (maxL := 5) (ret := none) (by decide) rfl (Nat.le_of_ble_eq_true rfl) ?_
  intro p e s m below meth c A hx hb hml hown hts hr hlocks hE hnm w ls hl
  have hown : s.vm.findClass RX4 = some m.cls := hown
  have hl : lv_has ls 5 [(0, .ref hse), (1, .ref hp), (2, .int (zI (((k : Nat) : Int)))), (3, .int (zI ((-1))))] := hl
  have f_9 : (Cond.fieldLink RX4 9 "RelaxedSteps$Search" "left" "[I").before _ s = true := hts _ (by decide +kernel)
  have f_73 : (Cond.fieldLink RX4 73 "RelaxedSteps$Packing" "sizes" "[[I").before _ s = true := hts _ (by decide +kernel)
  have inX4 : ∀ w ∈ u_ws RX4 TX4 2, w ∈ wsX4_leave := by decide +kernel
  have inX2 : ∀ w ∈ u_ws RX2 TX2 4, w ∈ wsX4_leave := by decide +kernel
  have w : zW D A s.heap s [(hse, .inr (4, [.ref hlf, .ref hwb])), (hlf, .inl (D.2 0, 3, .inl (fMu L))), (hwb, .inl (D.2 0, 17, .inl (Wb))), (hp, .inr (2, [.ref hw, .ref hz, .ref hl0, .int (zI (S 0))])), (hw, .inl (D.2 0, 16, .inl (fC S 0))), (hz, .inl (D.2 5, 3, .inr (.inr (.inr (.inr (f3 h0 h1 h2)))))), (h0, .inl (D.2 0, 16, .inl (fC S 1))), (h1, .inl (D.2 0, 16, .inl (fC S 2))), (h2, .inl (D.2 0, 16, .inl (fC S 3))), (hl0, .inl (D.2 0, 3, .inl (fLm S)))] s.heap [] := w
  refine lv_iconst (v := zI 0) hx hb dX4_leave_0 rfl ?_
  refine lv_istore (lv' := [(4, .int (zI (0))), (0, .ref hse), (1, .ref hp), (2, .int (zI (((k : Nat) : Int)))), (3, .int (zI ((-1))))]) hx hb dX4_leave_1 hl (by decide) rfl (fun ls hl => ?_)
  refine lv_iload hx hb dX4_leave_3 (lv_at hl 0 rfl) ?_
  refine lv_iconst (v := zI 3) hx hb dX4_leave_5 rfl ?_
  refine z_icmp_ge (tgt := 36) hx hb (by omega) (by omega) dX4_leave_6 (by decide) (fun c6 => ?_) (fun c6 => ?_)
  · skip
    exact absurd c6 (by omega)
  · skip
    refine lv_aload_n hx hb dX4_leave_9 rfl (lv_at hl 1 rfl) ?_
    refine z_get hx hb hown hts w inX4 0 0 rfl rfl (by decide) f_9 rfl rfl dX4_leave_10 ?_
    refine lv_iload hx hb dX4_leave_13 (lv_at hl 0 rfl) ?_
    refine lv_dup2_11 hx hb dX4_leave_15 rfl rfl ?_
    refine z_iald hx hb w 1 rfl 0 (by omega) (by decide) rfl (v := (zI (L 0))) (if_pos (by omega)) dX4_leave_16 ?_
    refine lv_iload_n hx hb dX4_leave_17 rfl (lv_at hl 4 rfl) ?_
    refine lv_aload_n hx hb dX4_leave_18 rfl (lv_at hl 2 rfl) ?_
    refine z_get hx hb hown hts w inX2 3 1 rfl rfl (by decide) f_73 rfl rfl dX4_leave_19 ?_
    refine lv_iload hx hb dX4_leave_22 (lv_at hl 0 rfl) ?_
    refine z_aald (t0 := 5) hx hb w 5 rfl rfl rfl 0 (by omega) (by decide) rfl (v := h0) rfl dX4_leave_24 ?_
    refine lv_iload_n hx hb dX4_leave_25 rfl (lv_at hl 3 rfl) ?_
    refine z_iald hx hb w 6 rfl k (by omega) (by decide) rfl (v := (zI (sC S 1 k))) (if_pos (by omega)) dX4_leave_26 ?_
    refine z_imul hx hb dX4_leave_27 ?_
    refine z_iadd hx hb dX4_leave_28 ?_
    refine z_iast hx hb w 1 rfl 0 (by omega) (by decide) rfl dX4_leave_29 (upd (fMu L) 0 (zI (L 0 + (-1) * sC S 1 k))) (fun _ _ => rfl) (fun H locs w => ?_)
    have w : zW D A s.heap s [(hse, .inr (4, [.ref hlf, .ref hwb])), (hlf, .inl (D.2 0, 3, .inl (upd (fMu L) 0 (zI (L 0 + (-1) * sC S 1 k))))), (hwb, .inl (D.2 0, 17, .inl (Wb))), (hp, .inr (2, [.ref hw, .ref hz, .ref hl0, .int (zI (S 0))])), (hw, .inl (D.2 0, 16, .inl (fC S 0))), (hz, .inl (D.2 5, 3, .inr (.inr (.inr (.inr (f3 h0 h1 h2)))))), (h0, .inl (D.2 0, 16, .inl (fC S 1))), (h1, .inl (D.2 0, 16, .inl (fC S 2))), (h2, .inl (D.2 0, 16, .inl (fC S 3))), (hl0, .inl (D.2 0, 3, .inl (fLm S)))] H locs := w
    refine z_iinc (lv' := [(4, .int (zI (0 + 1))), (0, .ref hse), (1, .ref hp), (2, .int (zI (((k : Nat) : Int)))), (3, .int (zI ((-1))))]) hx hb dX4_leave_30 hl (k := 0) rfl (by decide) rfl (fun ls hl => ?_)
    have hl : lv_has ls 5 [(4, .int (zI (1))), (0, .ref hse), (1, .ref hp), (2, .int (zI (((k : Nat) : Int)))), (3, .int (zI ((-1))))] := hl
    refine lv_goto (tgt := 3) hx hb dX4_leave_33 (by decide) ?_
    refine lv_iload hx hb dX4_leave_3 (lv_at hl 0 rfl) ?_
    refine lv_iconst (v := zI 3) hx hb dX4_leave_5 rfl ?_
    refine z_icmp_ge (tgt := 36) hx hb (by omega) (by omega) dX4_leave_6 (by decide) (fun c6 => ?_) (fun c6 => ?_)
    · skip
      exact absurd c6 (by omega)
    · skip
      refine lv_aload_n hx hb dX4_leave_9 rfl (lv_at hl 1 rfl) ?_
      refine z_get hx hb hown hts w inX4 0 0 rfl rfl (by decide) f_9 rfl rfl dX4_leave_10 ?_
      refine lv_iload hx hb dX4_leave_13 (lv_at hl 0 rfl) ?_
      refine lv_dup2_11 hx hb dX4_leave_15 rfl rfl ?_
      refine z_iald hx hb w 1 rfl 1 (by omega) (by decide) rfl (v := (zI (L 1))) rfl dX4_leave_16 ?_
      refine lv_iload_n hx hb dX4_leave_17 rfl (lv_at hl 4 rfl) ?_
      refine lv_aload_n hx hb dX4_leave_18 rfl (lv_at hl 2 rfl) ?_
      refine z_get hx hb hown hts w inX2 3 1 rfl rfl (by decide) f_73 rfl rfl dX4_leave_19 ?_
      refine lv_iload hx hb dX4_leave_22 (lv_at hl 0 rfl) ?_
      refine z_aald (t0 := 5) hx hb w 5 rfl rfl rfl 1 (by omega) (by decide) rfl (v := h1) rfl dX4_leave_24 ?_
      refine lv_iload_n hx hb dX4_leave_25 rfl (lv_at hl 3 rfl) ?_
      refine z_iald hx hb w 7 rfl k (by omega) (by decide) rfl (v := (zI (sC S 2 k))) (if_pos (by omega)) dX4_leave_26 ?_
      refine z_imul hx hb dX4_leave_27 ?_
      refine z_iadd hx hb dX4_leave_28 ?_
      refine z_iast hx hb w 1 rfl 1 (by omega) (by decide) rfl dX4_leave_29 (upd (upd (fMu L) 0 (zI (L 0 + (-1) * sC S 1 k))) 1 (zI (L 1 + (-1) * sC S 2 k))) (fun _ _ => rfl) (fun H locs w => ?_)
      have w : zW D A s.heap s [(hse, .inr (4, [.ref hlf, .ref hwb])), (hlf, .inl (D.2 0, 3, .inl (upd (upd (fMu L) 0 (zI (L 0 + (-1) * sC S 1 k))) 1 (zI (L 1 + (-1) * sC S 2 k))))), (hwb, .inl (D.2 0, 17, .inl (Wb))), (hp, .inr (2, [.ref hw, .ref hz, .ref hl0, .int (zI (S 0))])), (hw, .inl (D.2 0, 16, .inl (fC S 0))), (hz, .inl (D.2 5, 3, .inr (.inr (.inr (.inr (f3 h0 h1 h2)))))), (h0, .inl (D.2 0, 16, .inl (fC S 1))), (h1, .inl (D.2 0, 16, .inl (fC S 2))), (h2, .inl (D.2 0, 16, .inl (fC S 3))), (hl0, .inl (D.2 0, 3, .inl (fLm S)))] H locs := w
      refine z_iinc (lv' := [(4, .int (zI (1 + 1))), (0, .ref hse), (1, .ref hp), (2, .int (zI (((k : Nat) : Int)))), (3, .int (zI ((-1))))]) hx hb dX4_leave_30 hl (k := 0) rfl (by decide) rfl (fun ls hl => ?_)
      have hl : lv_has ls 5 [(4, .int (zI (2))), (0, .ref hse), (1, .ref hp), (2, .int (zI (((k : Nat) : Int)))), (3, .int (zI ((-1))))] := hl
      refine lv_goto (tgt := 3) hx hb dX4_leave_33 (by decide) ?_
      refine lv_iload hx hb dX4_leave_3 (lv_at hl 0 rfl) ?_
      refine lv_iconst (v := zI 3) hx hb dX4_leave_5 rfl ?_
      refine z_icmp_ge (tgt := 36) hx hb (by omega) (by omega) dX4_leave_6 (by decide) (fun c6 => ?_) (fun c6 => ?_)
      · skip
        exact absurd c6 (by omega)
      · skip
        refine lv_aload_n hx hb dX4_leave_9 rfl (lv_at hl 1 rfl) ?_
        refine z_get hx hb hown hts w inX4 0 0 rfl rfl (by decide) f_9 rfl rfl dX4_leave_10 ?_
        refine lv_iload hx hb dX4_leave_13 (lv_at hl 0 rfl) ?_
        refine lv_dup2_11 hx hb dX4_leave_15 rfl rfl ?_
        refine z_iald hx hb w 1 rfl 2 (by omega) (by decide) rfl (v := (zI (L 2))) rfl dX4_leave_16 ?_
        refine lv_iload_n hx hb dX4_leave_17 rfl (lv_at hl 4 rfl) ?_
        refine lv_aload_n hx hb dX4_leave_18 rfl (lv_at hl 2 rfl) ?_
        refine z_get hx hb hown hts w inX2 3 1 rfl rfl (by decide) f_73 rfl rfl dX4_leave_19 ?_
        refine lv_iload hx hb dX4_leave_22 (lv_at hl 0 rfl) ?_
        refine z_aald (t0 := 5) hx hb w 5 rfl rfl rfl 2 (by omega) (by decide) rfl (v := h2) rfl dX4_leave_24 ?_
        refine lv_iload_n hx hb dX4_leave_25 rfl (lv_at hl 3 rfl) ?_
        refine z_iald hx hb w 8 rfl k (by omega) (by decide) rfl (v := (zI (sC S 3 k))) (if_pos (by omega)) dX4_leave_26 ?_
        refine z_imul hx hb dX4_leave_27 ?_
        refine z_iadd hx hb dX4_leave_28 ?_
        refine z_iast hx hb w 1 rfl 2 (by omega) (by decide) rfl dX4_leave_29 (fMu (sLv S L k (-1))) (fun i hi => fMu_lv hi) (fun H locs w => ?_)
        have w : zW D A s.heap s [(hse, .inr (4, [.ref hlf, .ref hwb])), (hlf, .inl (D.2 0, 3, .inl (fMu (sLv S L k (-1))))), (hwb, .inl (D.2 0, 17, .inl (Wb))), (hp, .inr (2, [.ref hw, .ref hz, .ref hl0, .int (zI (S 0))])), (hw, .inl (D.2 0, 16, .inl (fC S 0))), (hz, .inl (D.2 5, 3, .inr (.inr (.inr (.inr (f3 h0 h1 h2)))))), (h0, .inl (D.2 0, 16, .inl (fC S 1))), (h1, .inl (D.2 0, 16, .inl (fC S 2))), (h2, .inl (D.2 0, 16, .inl (fC S 3))), (hl0, .inl (D.2 0, 3, .inl (fLm S)))] H locs := w
        refine z_iinc (lv' := [(4, .int (zI (2 + 1))), (0, .ref hse), (1, .ref hp), (2, .int (zI (((k : Nat) : Int)))), (3, .int (zI ((-1))))]) hx hb dX4_leave_30 hl (k := 0) rfl (by decide) rfl (fun ls hl => ?_)
        have hl : lv_has ls 5 [(4, .int (zI (3))), (0, .ref hse), (1, .ref hp), (2, .int (zI (((k : Nat) : Int)))), (3, .int (zI ((-1))))] := hl
        refine lv_goto (tgt := 3) hx hb dX4_leave_33 (by decide) ?_
        refine lv_iload hx hb dX4_leave_3 (lv_at hl 0 rfl) ?_
        refine lv_iconst (v := zI 3) hx hb dX4_leave_5 rfl ?_
        refine z_icmp_ge (tgt := 36) hx hb (by omega) (by omega) dX4_leave_6 (by decide) (fun c6 => ?_) (fun c6 => ?_)
        · skip
          exact z_vret hx hb hr hlocks w dX4_leave_36 rfl
        · skip
          exact absurd c6 (by omega)
set_option maxHeartbeats 6000000 in
set_option maxRecDepth 100000 in
theorem c_X4_leaveP (l : Launch) (D : zD) (hse hlf hwb hp hw hz h0 h1 h2 hl0 : Nat) (S : Nat → Int) (L : Nat → Int) (Wb : Nat → Int32) (k : Nat) (hk : k < 16) : zM l yX4_leave wsX4_leave (zR (0)) zE0 D [.ref hse, .ref hp, .int (zI (((k : Nat) : Int))), .int (zI (1))] (wSe D hse hlf hwb (fMu L) Wb ++ wPk D hp hw hz h0 h1 h2 hl0 S) (zQv D (fun W1 => W1 = (wSe D hse hlf hwb (fMu (sLv S L k 1)) Wb ++ wPk D hp hw hz h0 h1 h2 hl0 S))) := by
  refine zM.of (cc := cX4_leave) (maxL := 5) (ret := none) (by decide) rfl (Nat.le_of_ble_eq_true rfl) ?_
  intro p e s m below meth c A hx hb hml hown hts hr hlocks hE hnm w ls hl
  have hown : s.vm.findClass RX4 = some m.cls := hown
  have hl : lv_has ls 5 [(0, .ref hse), (1, .ref hp), (2, .int (zI (((k : Nat) : Int)))), (3, .int (zI (1)))] := hl
  have f_9 : (Cond.fieldLink RX4 9 "RelaxedSteps$Search" "left" "[I").before _ s = true := hts _ (by decide +kernel)
  have f_73 : (Cond.fieldLink RX4 73 "RelaxedSteps$Packing" "sizes" "[[I").before _ s = true := hts _ (by decide +kernel)
  have inX4 : ∀ w ∈ u_ws RX4 TX4 2, w ∈ wsX4_leave := by decide +kernel
  have inX2 : ∀ w ∈ u_ws RX2 TX2 4, w ∈ wsX4_leave := by decide +kernel
  have w : zW D A s.heap s [(hse, .inr (4, [.ref hlf, .ref hwb])), (hlf, .inl (D.2 0, 3, .inl (fMu L))), (hwb, .inl (D.2 0, 17, .inl (Wb))), (hp, .inr (2, [.ref hw, .ref hz, .ref hl0, .int (zI (S 0))])), (hw, .inl (D.2 0, 16, .inl (fC S 0))), (hz, .inl (D.2 5, 3, .inr (.inr (.inr (.inr (f3 h0 h1 h2)))))), (h0, .inl (D.2 0, 16, .inl (fC S 1))), (h1, .inl (D.2 0, 16, .inl (fC S 2))), (h2, .inl (D.2 0, 16, .inl (fC S 3))), (hl0, .inl (D.2 0, 3, .inl (fLm S)))] s.heap [] := w
  refine lv_iconst (v := zI 0) hx hb dX4_leave_0 rfl ?_
  refine lv_istore (lv' := [(4, .int (zI (0))), (0, .ref hse), (1, .ref hp), (2, .int (zI (((k : Nat) : Int)))), (3, .int (zI (1)))]) hx hb dX4_leave_1 hl (by decide) rfl (fun ls hl => ?_)
  refine lv_iload hx hb dX4_leave_3 (lv_at hl 0 rfl) ?_
  refine lv_iconst (v := zI 3) hx hb dX4_leave_5 rfl ?_
  refine z_icmp_ge (tgt := 36) hx hb (by omega) (by omega) dX4_leave_6 (by decide) (fun c6 => ?_) (fun c6 => ?_)
  · skip
    exact absurd c6 (by omega)
  · skip
    refine lv_aload_n hx hb dX4_leave_9 rfl (lv_at hl 1 rfl) ?_
    refine z_get hx hb hown hts w inX4 0 0 rfl rfl (by decide) f_9 rfl rfl dX4_leave_10 ?_
    refine lv_iload hx hb dX4_leave_13 (lv_at hl 0 rfl) ?_
    refine lv_dup2_11 hx hb dX4_leave_15 rfl rfl ?_
    refine z_iald hx hb w 1 rfl 0 (by omega) (by decide) rfl (v := (zI (L 0))) (if_pos (by omega)) dX4_leave_16 ?_
    refine lv_iload_n hx hb dX4_leave_17 rfl (lv_at hl 4 rfl) ?_
    refine lv_aload_n hx hb dX4_leave_18 rfl (lv_at hl 2 rfl) ?_
    refine z_get hx hb hown hts w inX2 3 1 rfl rfl (by decide) f_73 rfl rfl dX4_leave_19 ?_
    refine lv_iload hx hb dX4_leave_22 (lv_at hl 0 rfl) ?_
    refine z_aald (t0 := 5) hx hb w 5 rfl rfl rfl 0 (by omega) (by decide) rfl (v := h0) rfl dX4_leave_24 ?_
    refine lv_iload_n hx hb dX4_leave_25 rfl (lv_at hl 3 rfl) ?_
    refine z_iald hx hb w 6 rfl k (by omega) (by decide) rfl (v := (zI (sC S 1 k))) (if_pos (by omega)) dX4_leave_26 ?_
    refine z_imul hx hb dX4_leave_27 ?_
    refine z_iadd hx hb dX4_leave_28 ?_
    refine z_iast hx hb w 1 rfl 0 (by omega) (by decide) rfl dX4_leave_29 (upd (fMu L) 0 (zI (L 0 + 1 * sC S 1 k))) (fun _ _ => rfl) (fun H locs w => ?_)
    have w : zW D A s.heap s [(hse, .inr (4, [.ref hlf, .ref hwb])), (hlf, .inl (D.2 0, 3, .inl (upd (fMu L) 0 (zI (L 0 + 1 * sC S 1 k))))), (hwb, .inl (D.2 0, 17, .inl (Wb))), (hp, .inr (2, [.ref hw, .ref hz, .ref hl0, .int (zI (S 0))])), (hw, .inl (D.2 0, 16, .inl (fC S 0))), (hz, .inl (D.2 5, 3, .inr (.inr (.inr (.inr (f3 h0 h1 h2)))))), (h0, .inl (D.2 0, 16, .inl (fC S 1))), (h1, .inl (D.2 0, 16, .inl (fC S 2))), (h2, .inl (D.2 0, 16, .inl (fC S 3))), (hl0, .inl (D.2 0, 3, .inl (fLm S)))] H locs := w
    refine z_iinc (lv' := [(4, .int (zI (0 + 1))), (0, .ref hse), (1, .ref hp), (2, .int (zI (((k : Nat) : Int)))), (3, .int (zI (1)))]) hx hb dX4_leave_30 hl (k := 0) rfl (by decide) rfl (fun ls hl => ?_)
    have hl : lv_has ls 5 [(4, .int (zI (1))), (0, .ref hse), (1, .ref hp), (2, .int (zI (((k : Nat) : Int)))), (3, .int (zI (1)))] := hl
    refine lv_goto (tgt := 3) hx hb dX4_leave_33 (by decide) ?_
    refine lv_iload hx hb dX4_leave_3 (lv_at hl 0 rfl) ?_
    refine lv_iconst (v := zI 3) hx hb dX4_leave_5 rfl ?_
    refine z_icmp_ge (tgt := 36) hx hb (by omega) (by omega) dX4_leave_6 (by decide) (fun c6 => ?_) (fun c6 => ?_)
    · skip
      exact absurd c6 (by omega)
    · skip
      refine lv_aload_n hx hb dX4_leave_9 rfl (lv_at hl 1 rfl) ?_
      refine z_get hx hb hown hts w inX4 0 0 rfl rfl (by decide) f_9 rfl rfl dX4_leave_10 ?_
      refine lv_iload hx hb dX4_leave_13 (lv_at hl 0 rfl) ?_
      refine lv_dup2_11 hx hb dX4_leave_15 rfl rfl ?_
      refine z_iald hx hb w 1 rfl 1 (by omega) (by decide) rfl (v := (zI (L 1))) rfl dX4_leave_16 ?_
      refine lv_iload_n hx hb dX4_leave_17 rfl (lv_at hl 4 rfl) ?_
      refine lv_aload_n hx hb dX4_leave_18 rfl (lv_at hl 2 rfl) ?_
      refine z_get hx hb hown hts w inX2 3 1 rfl rfl (by decide) f_73 rfl rfl dX4_leave_19 ?_
      refine lv_iload hx hb dX4_leave_22 (lv_at hl 0 rfl) ?_
      refine z_aald (t0 := 5) hx hb w 5 rfl rfl rfl 1 (by omega) (by decide) rfl (v := h1) rfl dX4_leave_24 ?_
      refine lv_iload_n hx hb dX4_leave_25 rfl (lv_at hl 3 rfl) ?_
      refine z_iald hx hb w 7 rfl k (by omega) (by decide) rfl (v := (zI (sC S 2 k))) (if_pos (by omega)) dX4_leave_26 ?_
      refine z_imul hx hb dX4_leave_27 ?_
      refine z_iadd hx hb dX4_leave_28 ?_
      refine z_iast hx hb w 1 rfl 1 (by omega) (by decide) rfl dX4_leave_29 (upd (upd (fMu L) 0 (zI (L 0 + 1 * sC S 1 k))) 1 (zI (L 1 + 1 * sC S 2 k))) (fun _ _ => rfl) (fun H locs w => ?_)
      have w : zW D A s.heap s [(hse, .inr (4, [.ref hlf, .ref hwb])), (hlf, .inl (D.2 0, 3, .inl (upd (upd (fMu L) 0 (zI (L 0 + 1 * sC S 1 k))) 1 (zI (L 1 + 1 * sC S 2 k))))), (hwb, .inl (D.2 0, 17, .inl (Wb))), (hp, .inr (2, [.ref hw, .ref hz, .ref hl0, .int (zI (S 0))])), (hw, .inl (D.2 0, 16, .inl (fC S 0))), (hz, .inl (D.2 5, 3, .inr (.inr (.inr (.inr (f3 h0 h1 h2)))))), (h0, .inl (D.2 0, 16, .inl (fC S 1))), (h1, .inl (D.2 0, 16, .inl (fC S 2))), (h2, .inl (D.2 0, 16, .inl (fC S 3))), (hl0, .inl (D.2 0, 3, .inl (fLm S)))] H locs := w
      refine z_iinc (lv' := [(4, .int (zI (1 + 1))), (0, .ref hse), (1, .ref hp), (2, .int (zI (((k : Nat) : Int)))), (3, .int (zI (1)))]) hx hb dX4_leave_30 hl (k := 0) rfl (by decide) rfl (fun ls hl => ?_)
      have hl : lv_has ls 5 [(4, .int (zI (2))), (0, .ref hse), (1, .ref hp), (2, .int (zI (((k : Nat) : Int)))), (3, .int (zI (1)))] := hl
      refine lv_goto (tgt := 3) hx hb dX4_leave_33 (by decide) ?_
      refine lv_iload hx hb dX4_leave_3 (lv_at hl 0 rfl) ?_
      refine lv_iconst (v := zI 3) hx hb dX4_leave_5 rfl ?_
      refine z_icmp_ge (tgt := 36) hx hb (by omega) (by omega) dX4_leave_6 (by decide) (fun c6 => ?_) (fun c6 => ?_)
      · skip
        exact absurd c6 (by omega)
      · skip
        refine lv_aload_n hx hb dX4_leave_9 rfl (lv_at hl 1 rfl) ?_
        refine z_get hx hb hown hts w inX4 0 0 rfl rfl (by decide) f_9 rfl rfl dX4_leave_10 ?_
        refine lv_iload hx hb dX4_leave_13 (lv_at hl 0 rfl) ?_
        refine lv_dup2_11 hx hb dX4_leave_15 rfl rfl ?_
        refine z_iald hx hb w 1 rfl 2 (by omega) (by decide) rfl (v := (zI (L 2))) rfl dX4_leave_16 ?_
        refine lv_iload_n hx hb dX4_leave_17 rfl (lv_at hl 4 rfl) ?_
        refine lv_aload_n hx hb dX4_leave_18 rfl (lv_at hl 2 rfl) ?_
        refine z_get hx hb hown hts w inX2 3 1 rfl rfl (by decide) f_73 rfl rfl dX4_leave_19 ?_
        refine lv_iload hx hb dX4_leave_22 (lv_at hl 0 rfl) ?_
        refine z_aald (t0 := 5) hx hb w 5 rfl rfl rfl 2 (by omega) (by decide) rfl (v := h2) rfl dX4_leave_24 ?_
        refine lv_iload_n hx hb dX4_leave_25 rfl (lv_at hl 3 rfl) ?_
        refine z_iald hx hb w 8 rfl k (by omega) (by decide) rfl (v := (zI (sC S 3 k))) (if_pos (by omega)) dX4_leave_26 ?_
        refine z_imul hx hb dX4_leave_27 ?_
        refine z_iadd hx hb dX4_leave_28 ?_
        refine z_iast hx hb w 1 rfl 2 (by omega) (by decide) rfl dX4_leave_29 (fMu (sLv S L k 1)) (fun i hi => fMu_lv hi) (fun H locs w => ?_)
        have w : zW D A s.heap s [(hse, .inr (4, [.ref hlf, .ref hwb])), (hlf, .inl (D.2 0, 3, .inl (fMu (sLv S L k 1)))), (hwb, .inl (D.2 0, 17, .inl (Wb))), (hp, .inr (2, [.ref hw, .ref hz, .ref hl0, .int (zI (S 0))])), (hw, .inl (D.2 0, 16, .inl (fC S 0))), (hz, .inl (D.2 5, 3, .inr (.inr (.inr (.inr (f3 h0 h1 h2)))))), (h0, .inl (D.2 0, 16, .inl (fC S 1))), (h1, .inl (D.2 0, 16, .inl (fC S 2))), (h2, .inl (D.2 0, 16, .inl (fC S 3))), (hl0, .inl (D.2 0, 3, .inl (fLm S)))] H locs := w
        refine z_iinc (lv' := [(4, .int (zI (2 + 1))), (0, .ref hse), (1, .ref hp), (2, .int (zI (((k : Nat) : Int)))), (3, .int (zI (1)))]) hx hb dX4_leave_30 hl (k := 0) rfl (by decide) rfl (fun ls hl => ?_)
        have hl : lv_has ls 5 [(4, .int (zI (3))), (0, .ref hse), (1, .ref hp), (2, .int (zI (((k : Nat) : Int)))), (3, .int (zI (1)))] := hl
        refine lv_goto (tgt := 3) hx hb dX4_leave_33 (by decide) ?_
        refine lv_iload hx hb dX4_leave_3 (lv_at hl 0 rfl) ?_
        refine lv_iconst (v := zI 3) hx hb dX4_leave_5 rfl ?_
        refine z_icmp_ge (tgt := 36) hx hb (by omega) (by omega) dX4_leave_6 (by decide) (fun c6 => ?_) (fun c6 => ?_)
        · skip
          exact z_vret hx hb hr hlocks w dX4_leave_36 rfl
        · skip
          exact absurd c6 (by omega)
set_option maxHeartbeats 6000000 in
set_option maxRecDepth 100000 in
theorem c_X4_start (l : Launch) (D : zD) (hse hlf hwb hp hw hz h0 h1 h2 hl0 : Nat) (S : Nat → Int) (L Wb : Nat → Int32) (hok : OkP S) : zM l yX4_start wsX4_start (zR (1)) zE0 D [.ref hse, .ref hp] (wSe D hse hlf hwb L Wb ++ wPk D hp hw hz h0 h1 h2 hl0 S) (zQv D (fun W1 => ∃ W2, W1 = (wSe D hse hlf hwb (fLm S) W2 ++ wPk D hp hw hz h0 h1 h2 hl0 S) ∧ ∀ j, j ≤ zn S → W2 j = zI (sPre S j))) := by
  refine zM.of (cc := cX4_start) (maxL := 3) (ret := none) (by decide) rfl (Nat.le_of_ble_eq_true rfl) ?_
  intro p e s m below meth c A hx hb hml hown hts hr hlocks hE hnm w ls hl
  have hown : s.vm.findClass RX4 = some m.cls := hown
  have hl : lv_has ls 3 [(0, .ref hse), (1, .ref hp)] := hl
  have f_43 : (Cond.fieldLink RX4 43 "RelaxedSteps$Packing" "limits" "[I").before _ s = true := hts _ (by decide +kernel)
  have f_9 : (Cond.fieldLink RX4 9 "RelaxedSteps$Search" "left" "[I").before _ s = true := hts _ (by decide +kernel)
  have ac_l : (Cond.methodLink RX4 46 arraycopyName).before _ s = true := hts _ (by decide +kernel)
  have ac_n : (Cond.native arraycopyName).before _ s = true := hts _ (by decide +kernel)
  have ac_s : (Cond.static arraycopyName).before _ s = true := hts _ (by decide +kernel)
  have ac_i : (Cond.initialized "java/lang/System").before _ s = true := hts _ (by decide +kernel)
  have f_15 : (Cond.fieldLink RX4 15 "RelaxedSteps$Search" "worthBelow" "[I").before _ s = true := hts _ (by decide +kernel)
  have f_26 : (Cond.fieldLink RX4 26 "RelaxedSteps$Packing" "items" "I").before _ s = true := hts _ (by decide +kernel)
  have f_52 : (Cond.fieldLink RX4 52 "RelaxedSteps$Packing" "worths" "[I").before _ s = true := hts _ (by decide +kernel)
  have inX2 : ∀ w ∈ u_ws RX2 TX2 4, w ∈ wsX4_start := by decide +kernel
  have inX4 : ∀ w ∈ u_ws RX4 TX4 2, w ∈ wsX4_start := by decide +kernel
  have hn := zn_eq hok
  have h16 := zn_le hok
  have hlim := hok.2.2
  have w : zW D A s.heap s [(hse, .inr (4, [.ref hlf, .ref hwb])), (hlf, .inl (D.2 0, 3, .inl (L))), (hwb, .inl (D.2 0, 17, .inl (Wb))), (hp, .inr (2, [.ref hw, .ref hz, .ref hl0, .int (zI (S 0))])), (hw, .inl (D.2 0, 16, .inl (fC S 0))), (hz, .inl (D.2 5, 3, .inr (.inr (.inr (.inr (f3 h0 h1 h2)))))), (h0, .inl (D.2 0, 16, .inl (fC S 1))), (h1, .inl (D.2 0, 16, .inl (fC S 2))), (h2, .inl (D.2 0, 16, .inl (fC S 3))), (hl0, .inl (D.2 0, 3, .inl (fLm S)))] s.heap [] := w
  refine lv_aload_n hx hb dX4_start_0 rfl (lv_at hl 1 rfl) ?_
  refine z_get hx hb hown hts w inX2 3 2 rfl rfl (by decide) f_43 rfl rfl dX4_start_1 ?_
  refine lv_iconst (v := zI 0) hx hb dX4_start_4 rfl ?_
  refine lv_aload_n hx hb dX4_start_5 rfl (lv_at hl 0 rfl) ?_
  refine z_get hx hb hown hts w inX4 0 0 rfl rfl (by decide) f_9 rfl rfl dX4_start_6 ?_
  refine lv_iconst (v := zI 0) hx hb dX4_start_9 rfl ?_
  refine lv_iconst (v := zI 3) hx hb dX4_start_10 rfl ?_
  refine z_copy (sp := 0) (dp := 0) (n := 3) hx hb (by rw [hml]; exact hl.1.symm) hown ac_l ac_n ac_s ac_i w 9 1 rfl rfl (by omega) rfl rfl rfl (by decide) (by decide) (by omega) dX4_start_11 (Nat.le_of_ble_eq_true rfl) (Nat.le_of_ble_eq_true rfl) (fLm S) (fun i hi => zcpy_all hi) (fun H locs w => ?_)
  have w : zW D A s.heap s [(hse, .inr (4, [.ref hlf, .ref hwb])), (hlf, .inl (D.2 0, 3, .inl (fLm S))), (hwb, .inl (D.2 0, 17, .inl (Wb))), (hp, .inr (2, [.ref hw, .ref hz, .ref hl0, .int (zI (S 0))])), (hw, .inl (D.2 0, 16, .inl (fC S 0))), (hz, .inl (D.2 5, 3, .inr (.inr (.inr (.inr (f3 h0 h1 h2)))))), (h0, .inl (D.2 0, 16, .inl (fC S 1))), (h1, .inl (D.2 0, 16, .inl (fC S 2))), (h2, .inl (D.2 0, 16, .inl (fC S 3))), (hl0, .inl (D.2 0, 3, .inl (fLm S)))] H locs := w
  refine lv_aload_n hx hb dX4_start_14 rfl (lv_at hl 0 rfl) ?_
  refine z_get hx hb hown hts w inX4 0 1 rfl rfl (by decide) f_15 rfl rfl dX4_start_15 ?_
  refine lv_iconst (v := zI 0) hx hb dX4_start_18 rfl ?_
  refine lv_iconst (v := zI 0) hx hb dX4_start_19 rfl ?_
  refine z_iast hx hb w 2 rfl 0 (by omega) (by decide) rfl dX4_start_20 (upd Wb 0 (zI 0)) (fun _ _ => rfl) (fun H locs w => ?_)
  have w : zW D A s.heap s [(hse, .inr (4, [.ref hlf, .ref hwb])), (hlf, .inl (D.2 0, 3, .inl (fLm S))), (hwb, .inl (D.2 0, 17, .inl (upd Wb 0 (zI 0)))), (hp, .inr (2, [.ref hw, .ref hz, .ref hl0, .int (zI (S 0))])), (hw, .inl (D.2 0, 16, .inl (fC S 0))), (hz, .inl (D.2 5, 3, .inr (.inr (.inr (.inr (f3 h0 h1 h2)))))), (h0, .inl (D.2 0, 16, .inl (fC S 1))), (h1, .inl (D.2 0, 16, .inl (fC S 2))), (h2, .inl (D.2 0, 16, .inl (fC S 3))), (hl0, .inl (D.2 0, 3, .inl (fLm S)))] H locs := w
  refine lv_iconst (v := zI 0) hx hb dX4_start_21 rfl ?_
  refine lv_istore_n (lv' := [(2, .int (zI (0))), (0, .ref hse), (1, .ref hp)]) hx hb dX4_start_22 rfl hl (by decide) rfl (fun ls hl => ?_)
  have lp_23 : ∀ (n_23 : Nat) (i : Nat) (V : Nat → Int32) (x2 : Int) , zn S - i < n_23 → (i ≤ zn S) → (∀ j, j ≤ i → V j = zI (sPre S j)) → x2 = ((i : Nat) : Int) → ∀ (H : Heap) (locs : List Loc) (ls : Array Slot), zW D A s.heap s [(hse, .inr (4, [.ref hlf, .ref hwb])), (hlf, .inl (D.2 0, 3, .inl (fLm S))), (hwb, .inl (D.2 0, 17, .inl (V))), (hp, .inr (2, [.ref hw, .ref hz, .ref hl0, .int (zI (S 0))])), (hw, .inl (D.2 0, 16, .inl (fC S 0))), (hz, .inl (D.2 5, 3, .inr (.inr (.inr (.inr (f3 h0 h1 h2)))))), (h0, .inl (D.2 0, 16, .inl (fC S 1))), (h1, .inl (D.2 0, 16, .inl (fC S 2))), (h2, .inl (D.2 0, 16, .inl (fC S 3))), (hl0, .inl (D.2 0, 3, .inl (fLm S)))] H locs → lv_has ls 3 [(2, .int (zI (x2))), (0, .ref hse), (1, .ref hp)] → W p l e (zR (1)) s m [.ref hse, .ref hp].toArray below meth c H locs 0 0 (MQ below ((zQv D (fun W1 => ∃ W2, W1 = (wSe D hse hlf hwb (fLm S) W2 ++ wPk D hp hw hz h0 h1 h2 hl0 S) ∧ ∀ j, j ≤ zn S → W2 j = zI (sPre S j))) A) [.ref hse, .ref hp].toArray s 0 0 A) (F0 m 23 ls []) := by
    intro n_23
    induction n_23 with
    | zero => intro i V x2 h_; exact absurd h_ (Nat.not_lt_zero _)
    | succ n_23 ih_23 =>
      intro i V x2 hf_23 hi hV ex2 H locs ls w hl
      subst ex2
      have hl : lv_has ls 3 [(2, .int (zI (((i : Nat) : Int)))), (0, .ref hse), (1, .ref hp)] := hl
      refine lv_iload_n hx hb dX4_start_23 rfl (lv_at hl 0 rfl) ?_
      refine lv_aload_n hx hb dX4_start_24 rfl (lv_at hl 2 rfl) ?_
      refine z_get hx hb hown hts w inX2 3 3 rfl rfl (by decide) f_26 rfl rfl dX4_start_25 ?_
      refine z_icmp_ge (tgt := 58) hx hb (by omega) (by omega) dX4_start_28 (by decide) (fun c28 => ?_) (fun c28 => ?_)
      · skip
        exact z_vret hx hb hr hlocks w dX4_start_58 ⟨V, rfl, fun j hj => hV j (by omega)⟩
      · skip
        refine lv_aload_n hx hb dX4_start_31 rfl (lv_at hl 1 rfl) ?_
        refine z_get hx hb hown hts w inX4 0 1 rfl rfl (by decide) f_15 rfl rfl dX4_start_32 ?_
        refine lv_iload_n hx hb dX4_start_35 rfl (lv_at hl 0 rfl) ?_
        refine lv_iconst (v := zI 1) hx hb dX4_start_36 rfl ?_
        refine z_iadd hx hb dX4_start_37 ?_
        refine lv_aload_n hx hb dX4_start_38 rfl (lv_at hl 1 rfl) ?_
        refine z_get hx hb hown hts w inX4 0 1 rfl rfl (by decide) f_15 rfl rfl dX4_start_39 ?_
        refine lv_iload_n hx hb dX4_start_42 rfl (lv_at hl 0 rfl) ?_
        refine z_iald hx hb w 2 rfl i (by omega) (by decide) rfl (v := (zI (sPre S i))) (hV _ (Nat.le_refl _)) dX4_start_43 ?_
        refine lv_aload_n hx hb dX4_start_44 rfl (lv_at hl 2 rfl) ?_
        refine z_get hx hb hown hts w inX2 3 0 rfl rfl (by decide) f_52 rfl rfl dX4_start_45 ?_
        refine lv_iload_n hx hb dX4_start_48 rfl (lv_at hl 0 rfl) ?_
        refine z_iald hx hb w 4 rfl i (by omega) (by decide) rfl (v := (zI (sC S 0 i))) (if_pos (by omega)) dX4_start_49 ?_
        refine z_iadd hx hb dX4_start_50 ?_
        refine z_iast hx hb w 2 rfl (i + 1) (by omega) (by decide) (by omega) dX4_start_51 (upd V (i + 1) (zI ((sPre S i) + (sC S 0 i)))) (fun _ _ => rfl) (fun H locs w => ?_)
        have w : zW D A s.heap s [(hse, .inr (4, [.ref hlf, .ref hwb])), (hlf, .inl (D.2 0, 3, .inl (fLm S))), (hwb, .inl (D.2 0, 17, .inl (upd V (i + 1) (zI ((sPre S i) + (sC S 0 i)))))), (hp, .inr (2, [.ref hw, .ref hz, .ref hl0, .int (zI (S 0))])), (hw, .inl (D.2 0, 16, .inl (fC S 0))), (hz, .inl (D.2 5, 3, .inr (.inr (.inr (.inr (f3 h0 h1 h2)))))), (h0, .inl (D.2 0, 16, .inl (fC S 1))), (h1, .inl (D.2 0, 16, .inl (fC S 2))), (h2, .inl (D.2 0, 16, .inl (fC S 3))), (hl0, .inl (D.2 0, 3, .inl (fLm S)))] H locs := w
        refine z_iinc (lv' := [(2, .int (zI (((i : Nat) : Int) + 1))), (0, .ref hse), (1, .ref hp)]) hx hb dX4_start_52 hl (k := 0) rfl (by decide) rfl (fun ls hl => ?_)
        refine lv_goto (tgt := 23) hx hb dX4_start_55 (by decide) ?_
        exact ih_23 (i + 1) (upd V (i + 1) (zI (sPre S i + sC S 0 i))) _ (by omega) (by omega) (fun j hj => if e9 : j = i + 1 then (by subst e9; exact upd_s _ _ _) else (by rw [upd_n _ _ e9]; exact hV j (by omega))) (by first | rfl | omega) _ _ _ w (lv_sub hl [0, 1, 2] rfl)
  exact lp_23 ((zn S - 0) + 1) 0 (upd Wb 0 (zI 0)) _ (by omega) (by omega) (fun j hj => by have e9 : j = 0 := (by omega); subst e9; exact upd_s _ _ _) (by first | rfl | omega) _ _ _ w (lv_sub hl [0, 1, 2] rfl)
set_option maxHeartbeats 6000000 in
set_option maxRecDepth 100000 in
theorem c_X4_greatestS (l : Launch) (D : zD) (hse hlf hwb hp hw hz h0 h1 h2 hl0 : Nat) (S : Nat → Int) (Wb : Nat → Int32) (hok : OkP S) (hW : ∀ j, j ≤ zn S → Wb j = zI (sPre S j)) (k : Nat) (hk : k + 1 ≤ zn S) (ih : ∀ (L : Nat → Int) (w0 kn : Int), OkL L → 0 ≤ w0 → w0 + 1000 * (k : Int) ≤ 100000 → 0 ≤ kn → kn ≤ 200000 → zM l yX4_greatest wsX4_greatest (zR (3 + k)) zE0 D [.ref hse, .ref hp, .int (zI ((k : Nat) : Int)), .int (zI w0), .int (zI kn)] (wSe D hse hlf hwb (fMu L) Wb ++ wPk D hp hw hz h0 h1 h2 hl0 S) (zQi D (fun r W1 => r = zI (sGr S k L w0 kn) ∧ W1 = (wSe D hse hlf hwb (fMu L) Wb ++ wPk D hp hw hz h0 h1 h2 hl0 S)))) (L : Nat → Int) (hL : OkL L) (w0 kn : Int) (hw0 : 0 ≤ w0) (hw1 : w0 + 1000 * ((k : Int) + 1) ≤ 100000) (hk0 : 0 ≤ kn) (hk1 : kn ≤ 200000) : zM l yX4_greatest wsX4_greatest (zR (3 + (k + 1))) zE0 D [.ref hse, .ref hp, .int (zI (((k + 1 : Nat) : Int))), .int (zI (w0)), .int (zI (kn))] (wSe D hse hlf hwb (fMu L) Wb ++ wPk D hp hw hz h0 h1 h2 hl0 S) ((zQi D (fun r W1 => r = zI (sGr S (k + 1) L w0 kn) ∧ W1 = (wSe D hse hlf hwb (fMu L) Wb ++ wPk D hp hw hz h0 h1 h2 hl0 S)))) := by
  refine zM.of (cc := cX4_greatest) (maxL := 7) (ret := (some .int)) (by decide) rfl (Nat.le_of_ble_eq_true rfl) ?_
  intro p e s m below meth c A hx hb hml hown hts hr hlocks hE hnm w ls hl
  have hown : s.vm.findClass RX4 = some m.cls := hown
  have hl : lv_has ls 7 [(0, .ref hse), (1, .ref hp), (2, .int (zI (((k + 1 : Nat) : Int)))), (3, .int (zI (w0))), (4, .int (zI (kn)))] := hl
  have f_15 : (Cond.fieldLink RX4 15 "RelaxedSteps$Search" "worthBelow" "[I").before _ s = true := hts _ (by decide +kernel)
  have f_52 : (Cond.fieldLink RX4 52 "RelaxedSteps$Packing" "worths" "[I").before _ s = true := hts _ (by decide +kernel)
  have inX4 : ∀ w ∈ u_ws RX4 TX4 2, w ∈ wsX4_greatest := by decide +kernel
  have inX2 : ∀ w ∈ u_ws RX2 TX2 4, w ∈ wsX4_greatest := by decide +kernel
  have hn := zn_eq hok
  have h16 := zn_le hok
  have hlim := hok.2.2
  have hokp := hok
  have hpb := sPre_b hok (k := k + 1) (by omega)
  have hcb := sC_b hok (i := k) (what := 0) (by omega) (by omega)
  have w : zW D A s.heap s [(hse, .inr (4, [.ref hlf, .ref hwb])), (hlf, .inl (D.2 0, 3, .inl (fMu L))), (hwb, .inl (D.2 0, 17, .inl (Wb))), (hp, .inr (2, [.ref hw, .ref hz, .ref hl0, .int (zI (S 0))])), (hw, .inl (D.2 0, 16, .inl (fC S 0))), (hz, .inl (D.2 5, 3, .inr (.inr (.inr (.inr (f3 h0 h1 h2)))))), (h0, .inl (D.2 0, 16, .inl (fC S 1))), (h1, .inl (D.2 0, 16, .inl (fC S 2))), (h2, .inl (D.2 0, 16, .inl (fC S 3))), (hl0, .inl (D.2 0, 3, .inl (fLm S)))] s.heap [] := w
  refine lv_iload_n hx hb dX4_greatest_0 rfl (lv_at hl 2 rfl) ?_
  refine lv_iconst (v := zI 1) hx hb dX4_greatest_1 rfl ?_
  refine lv_bipush (v := zI 16) hx hb dX4_greatest_2 (by decide +kernel) ?_
  refine z_SN_i (As := [.int (zI (((k + 1 : Nat) : Int))), .int (zI (1)), .int (zI (16))]) (rest := []) (Wr := [(hse, .inr (4, [.ref hlf, .ref hwb])), (hlf, .inl (D.2 0, 3, .inl (fMu L))), (hwb, .inl (D.2 0, 17, .inl (Wb))), (hp, .inr (2, [.ref hw, .ref hz, .ref hl0, .int (zI (S 0))])), (hw, .inl (D.2 0, 16, .inl (fC S 0))), (hz, .inl (D.2 5, 3, .inr (.inr (.inr (.inr (f3 h0 h1 h2)))))), (h0, .inl (D.2 0, 16, .inl (fC S 1))), (h1, .inl (D.2 0, 16, .inl (fC S 2))), (h2, .inl (D.2 0, 16, .inl (fC S 3))), (hl0, .inl (D.2 0, 3, .inl (fLm S)))]) ⟨hx, hb, hml, hown, hts⟩ (c_X6_within l D ((k + 1 : Nat) : Int) 1 16 (by omega) (by omega) (by omega)) ⟨va_cnB 3 hts ggX4_greatest_X6_within rfl rfl rfl (w.1.2 (RX4, 55, yX6_within, "RelaxedSteps") (by decide +kernel)) (hts (.initialized RX6) (by decide +kernel)) (by decide +kernel) ⟨by simp only [zR]; omega, by simp only [zR]; omega⟩, hts (.static yX6_within) (by decide +kernel), trivial⟩ w [] rfl (by decide) [0, 1, 2, 3, 4, 5, 6, 7, 8, 9] rfl (by decide) (by decide) rfl hl.1 rfl (lv_room (Nat.le_of_ble_eq_true rfl)) dX4_greatest_4 ⟨Nat.zero_le _, Nat.zero_le _⟩ (fun r W1 H locs hp w => ?_)
  obtain ⟨rfl, rfl⟩ := hp
  have w : zW D A s.heap s [(hse, .inr (4, [.ref hlf, .ref hwb])), (hlf, .inl (D.2 0, 3, .inl (fMu L))), (hwb, .inl (D.2 0, 17, .inl (Wb))), (hp, .inr (2, [.ref hw, .ref hz, .ref hl0, .int (zI (S 0))])), (hw, .inl (D.2 0, 16, .inl (fC S 0))), (hz, .inl (D.2 5, 3, .inr (.inr (.inr (.inr (f3 h0 h1 h2)))))), (h0, .inl (D.2 0, 16, .inl (fC S 1))), (h1, .inl (D.2 0, 16, .inl (fC S 2))), (h2, .inl (D.2 0, 16, .inl (fC S 3))), (hl0, .inl (D.2 0, 3, .inl (fLm S)))] H locs := w.sub [0, 1, 2, 3, 4, 5, 6, 7, 8, 9] (by decide) rfl
  refine z_if_ne_b (tgt := 17) hx hb dX4_greatest_7 (by decide) (fun c7 => ?_) (fun c7 => ?_)
  · skip
    refine lv_iload_n hx hb dX4_greatest_17 rfl (lv_at hl 3 rfl) ?_
    refine lv_aload_n hx hb dX4_greatest_18 rfl (lv_at hl 0 rfl) ?_
    refine z_get hx hb hown hts w inX4 0 1 rfl rfl (by decide) f_15 rfl rfl dX4_greatest_19 ?_
    refine lv_iload_n hx hb dX4_greatest_22 rfl (lv_at hl 2 rfl) ?_
    refine z_iald hx hb w 2 rfl (k + 1) (by omega) (by decide) rfl (v := (zI (sPre S (k + 1)))) (hW _ (by omega)) dX4_greatest_23 ?_
    refine z_iadd hx hb dX4_greatest_24 ?_
    refine lv_iload hx hb dX4_greatest_25 (lv_at hl 4 rfl) ?_
    refine z_icmp_gt (tgt := 33) hx hb (by omega) (by omega) dX4_greatest_27 (by decide) (fun c27 => ?_) (fun c27 => ?_)
    · skip
      refine lv_iload_n hx hb dX4_greatest_33 rfl (lv_at hl 2 rfl) ?_
      refine lv_iconst (v := zI 1) hx hb dX4_greatest_34 rfl ?_
      refine z_isub hx hb dX4_greatest_35 ?_
      refine W.eq (g2 := F0 m 36 ls [.int (zI (((k : Nat) : Int)))]) (by rw [show ((k + 1 : Nat) : Int) - 1 = ((k : Nat) : Int) by omega]) ?_
      refine lv_istore (lv' := [(5, .int (zI (((k : Nat) : Int)))), (0, .ref hse), (1, .ref hp), (2, .int (zI (((k + 1 : Nat) : Int)))), (3, .int (zI (w0))), (4, .int (zI (kn)))]) hx hb dX4_greatest_36 hl (by decide) rfl (fun ls hl => ?_)
      refine lv_iload hx hb dX4_greatest_38 (lv_at hl 5 rfl) ?_
      refine lv_istore (lv' := [(6, .int (zI (kn))), (5, .int (zI (((k : Nat) : Int)))), (0, .ref hse), (1, .ref hp), (2, .int (zI (((k + 1 : Nat) : Int)))), (3, .int (zI (w0))), (4, .int (zI (kn)))]) hx hb dX4_greatest_40 hl (by decide) rfl (fun ls hl => ?_)
      refine lv_aload_n hx hb dX4_greatest_42 rfl (lv_at hl 2 rfl) ?_
      refine lv_aload_n hx hb dX4_greatest_43 rfl (lv_at hl 3 rfl) ?_
      refine lv_iload hx hb dX4_greatest_44 (lv_at hl 1 rfl) ?_
      refine z_V_i (As := [.ref hp, .int (zI (((k : Nat) : Int)))]) (rest := []) (Wr := []) ⟨hx, hb, hml, hown, hts⟩ (c_X4_hasRoomFor l D hse hlf hwb hp hw hz h0 h1 h2 hl0 S L Wb hok hL k (by omega)) (cwV 2 hts gX4_greatest_X4_hasRoomFor rfl rfl rfl (by decide +kernel) ⟨by simp only [zR]; omega, by simp only [zR]; omega⟩) w (q0 := 0) rfl rfl rfl [0, 1, 2, 3, 4, 5, 6, 7, 8, 9] rfl (by decide) [] rfl (by decide) (by decide) rfl hl.1 rfl (lv_room (Nat.le_of_ble_eq_true rfl)) dX4_greatest_46 ⟨Nat.zero_le _, Nat.zero_le _⟩ (fun r W1 H locs hp w => ?_)
      obtain ⟨rfl, rfl⟩ := hp
      have w : zW D A s.heap s [(hse, .inr (4, [.ref hlf, .ref hwb])), (hlf, .inl (D.2 0, 3, .inl (fMu L))), (hwb, .inl (D.2 0, 17, .inl (Wb))), (hp, .inr (2, [.ref hw, .ref hz, .ref hl0, .int (zI (S 0))])), (hw, .inl (D.2 0, 16, .inl (fC S 0))), (hz, .inl (D.2 5, 3, .inr (.inr (.inr (.inr (f3 h0 h1 h2)))))), (h0, .inl (D.2 0, 16, .inl (fC S 1))), (h1, .inl (D.2 0, 16, .inl (fC S 2))), (h2, .inl (D.2 0, 16, .inl (fC S 3))), (hl0, .inl (D.2 0, 3, .inl (fLm S)))] H locs := w.sub [0, 1, 2, 3, 4, 5, 6, 7, 8, 9] (by decide) rfl
      refine z_if_eq_b (tgt := 88) hx hb dX4_greatest_49 (by decide) (fun c49 => ?_) (fun c49 => ?_)
      · skip
        refine lv_aload_n hx hb dX4_greatest_88 rfl (lv_at hl 2 rfl) ?_
        refine lv_aload_n hx hb dX4_greatest_89 rfl (lv_at hl 3 rfl) ?_
        refine lv_iload hx hb dX4_greatest_90 (lv_at hl 1 rfl) ?_
        refine lv_iload_n hx hb dX4_greatest_92 rfl (lv_at hl 5 rfl) ?_
        refine lv_iload hx hb dX4_greatest_93 (lv_at hl 0 rfl) ?_
        refine z_S_i (As := [.ref hse, .ref hp, .int (zI (((k : Nat) : Int))), .int (zI (w0)), .int (zI (kn))]) (rest := []) (Wr := []) ⟨hx, hb, hml, hown, hts⟩ (ih L w0 kn hL (by omega) (by omega) (by omega) (by omega)) (va_cwS 5 hts gX4_greatest_X4_greatest rfl rfl rfl (by decide +kernel) ⟨by simp only [zR]; omega, by simp only [zR]; omega⟩) w [0, 1, 2, 3, 4, 5, 6, 7, 8, 9] rfl (by decide) [] rfl (by decide) (by decide) rfl hl.1 rfl (lv_room (Nat.le_of_ble_eq_true rfl)) dX4_greatest_95 ⟨Nat.zero_le _, Nat.zero_le _⟩ (fun r W1 H locs hp w => ?_)
        obtain ⟨rfl, rfl⟩ := hp
        have w : zW D A s.heap s [(hse, .inr (4, [.ref hlf, .ref hwb])), (hlf, .inl (D.2 0, 3, .inl (fMu L))), (hwb, .inl (D.2 0, 17, .inl (Wb))), (hp, .inr (2, [.ref hw, .ref hz, .ref hl0, .int (zI (S 0))])), (hw, .inl (D.2 0, 16, .inl (fC S 0))), (hz, .inl (D.2 5, 3, .inr (.inr (.inr (.inr (f3 h0 h1 h2)))))), (h0, .inl (D.2 0, 16, .inl (fC S 1))), (h1, .inl (D.2 0, 16, .inl (fC S 2))), (h2, .inl (D.2 0, 16, .inl (fC S 3))), (hl0, .inl (D.2 0, 3, .inl (fLm S)))] H locs := w.sub [0, 1, 2, 3, 4, 5, 6, 7, 8, 9] (by decide) rfl
        exact z_iret hx hb hr hlocks w dX4_greatest_98 ⟨by rw [sGr_s, if_neg (by omega)]; first | rw [if_pos c49] | rw [if_neg c49], rfl⟩
      · skip
        refine lv_aload_n hx hb dX4_greatest_52 rfl (lv_at hl 2 rfl) ?_
        refine lv_aload_n hx hb dX4_greatest_53 rfl (lv_at hl 3 rfl) ?_
        refine lv_iload hx hb dX4_greatest_54 (lv_at hl 1 rfl) ?_
        refine lv_iconst (v := zI (-1)) hx hb dX4_greatest_56 rfl ?_
        refine z_V_v (As := [.ref hp, .int (zI (((k : Nat) : Int))), .int (zI ((-1)))]) (rest := []) (Wr := []) ⟨hx, hb, hml, hown, hts⟩ (c_X4_leaveM l D hse hlf hwb hp hw hz h0 h1 h2 hl0 S L Wb k (by omega)) (cwV 3 hts gX4_greatest_X4_leave rfl rfl rfl (by decide +kernel) ⟨by simp only [zR]; omega, by simp only [zR]; omega⟩) w (q0 := 0) rfl rfl rfl [0, 1, 2, 3, 4, 5, 6, 7, 8, 9] rfl (by decide) [] rfl (by decide) (by decide) rfl hl.1 rfl (lv_room (Nat.le_of_ble_eq_true rfl)) dX4_greatest_57 ⟨Nat.zero_le _, Nat.zero_le _⟩ (fun W1 H locs hp w => ?_)
        subst hp
        have w : zW D A s.heap s [(hse, .inr (4, [.ref hlf, .ref hwb])), (hlf, .inl (D.2 0, 3, .inl (fMu (sLv S L k (-1))))), (hwb, .inl (D.2 0, 17, .inl (Wb))), (hp, .inr (2, [.ref hw, .ref hz, .ref hl0, .int (zI (S 0))])), (hw, .inl (D.2 0, 16, .inl (fC S 0))), (hz, .inl (D.2 5, 3, .inr (.inr (.inr (.inr (f3 h0 h1 h2)))))), (h0, .inl (D.2 0, 16, .inl (fC S 1))), (h1, .inl (D.2 0, 16, .inl (fC S 2))), (h2, .inl (D.2 0, 16, .inl (fC S 3))), (hl0, .inl (D.2 0, 3, .inl (fLm S)))] H locs := w.sub [0, 1, 2, 3, 4, 5, 6, 7, 8, 9] (by decide) rfl
        refine lv_aload_n hx hb dX4_greatest_60 rfl (lv_at hl 2 rfl) ?_
        refine lv_aload_n hx hb dX4_greatest_61 rfl (lv_at hl 3 rfl) ?_
        refine lv_iload hx hb dX4_greatest_62 (lv_at hl 1 rfl) ?_
        refine lv_iload_n hx hb dX4_greatest_64 rfl (lv_at hl 5 rfl) ?_
        refine lv_aload_n hx hb dX4_greatest_65 rfl (lv_at hl 3 rfl) ?_
        refine z_get hx hb hown hts w inX2 3 0 rfl rfl (by decide) f_52 rfl rfl dX4_greatest_66 ?_
        refine lv_iload hx hb dX4_greatest_69 (lv_at hl 1 rfl) ?_
        refine z_iald hx hb w 4 rfl k (by omega) (by decide) rfl (v := (zI (sC S 0 k))) (if_pos (by omega)) dX4_greatest_71 ?_
        refine z_iadd hx hb dX4_greatest_72 ?_
        refine lv_iload hx hb dX4_greatest_73 (lv_at hl 0 rfl) ?_
        refine z_S_i (As := [.ref hse, .ref hp, .int (zI (((k : Nat) : Int))), .int (zI (w0 + (sC S 0 k))), .int (zI (kn))]) (rest := []) (Wr := []) ⟨hx, hb, hml, hown, hts⟩ (ih (sLv S L k (-1)) (w0 + (sC S 0 k)) kn (OkL_lv hok hL (by omega) c49) (by omega) (by omega) (by omega) (by omega)) (va_cwS 5 hts gX4_greatest_X4_greatest rfl rfl rfl (by decide +kernel) ⟨by simp only [zR]; omega, by simp only [zR]; omega⟩) w [0, 1, 2, 3, 4, 5, 6, 7, 8, 9] rfl (by decide) [] rfl (by decide) (by decide) rfl hl.1 rfl (lv_room (Nat.le_of_ble_eq_true rfl)) dX4_greatest_75 ⟨Nat.zero_le _, Nat.zero_le _⟩ (fun r W1 H locs hp w => ?_)
        obtain ⟨rfl, rfl⟩ := hp
        have w : zW D A s.heap s [(hse, .inr (4, [.ref hlf, .ref hwb])), (hlf, .inl (D.2 0, 3, .inl (fMu (sLv S L k (-1))))), (hwb, .inl (D.2 0, 17, .inl (Wb))), (hp, .inr (2, [.ref hw, .ref hz, .ref hl0, .int (zI (S 0))])), (hw, .inl (D.2 0, 16, .inl (fC S 0))), (hz, .inl (D.2 5, 3, .inr (.inr (.inr (.inr (f3 h0 h1 h2)))))), (h0, .inl (D.2 0, 16, .inl (fC S 1))), (h1, .inl (D.2 0, 16, .inl (fC S 2))), (h2, .inl (D.2 0, 16, .inl (fC S 3))), (hl0, .inl (D.2 0, 3, .inl (fLm S)))] H locs := w.sub [0, 1, 2, 3, 4, 5, 6, 7, 8, 9] (by decide) rfl
        refine lv_istore (lv' := [(6, .int (zI (sGr S k (sLv S L k (-1)) (w0 + (sC S 0 k)) kn))), (5, .int (zI (((k : Nat) : Int)))), (0, .ref hse), (1, .ref hp), (2, .int (zI (((k + 1 : Nat) : Int)))), (3, .int (zI (w0))), (4, .int (zI (kn)))]) hx hb dX4_greatest_78 hl (by decide) rfl (fun ls hl => ?_)
        refine lv_aload_n hx hb dX4_greatest_80 rfl (lv_at hl 2 rfl) ?_
        refine lv_aload_n hx hb dX4_greatest_81 rfl (lv_at hl 3 rfl) ?_
        refine lv_iload hx hb dX4_greatest_82 (lv_at hl 1 rfl) ?_
        refine lv_iconst (v := zI 1) hx hb dX4_greatest_84 rfl ?_
        refine z_V_v (As := [.ref hp, .int (zI (((k : Nat) : Int))), .int (zI (1))]) (rest := []) (Wr := []) ⟨hx, hb, hml, hown, hts⟩ (c_X4_leaveP l D hse hlf hwb hp hw hz h0 h1 h2 hl0 S (sLv S L k (-1)) Wb k (by omega)) (cwV 3 hts gX4_greatest_X4_leave rfl rfl rfl (by decide +kernel) ⟨by simp only [zR]; omega, by simp only [zR]; omega⟩) w (q0 := 0) rfl rfl rfl [0, 1, 2, 3, 4, 5, 6, 7, 8, 9] rfl (by decide) [] rfl (by decide) (by decide) rfl hl.1 rfl (lv_room (Nat.le_of_ble_eq_true rfl)) dX4_greatest_85 ⟨Nat.zero_le _, Nat.zero_le _⟩ (fun W1 H locs hp w => ?_)
        subst hp
        have w : zW D A s.heap s [(hse, .inr (4, [.ref hlf, .ref hwb])), (hlf, .inl (D.2 0, 3, .inl (fMu (sLv S (sLv S L k (-1)) k 1)))), (hwb, .inl (D.2 0, 17, .inl (Wb))), (hp, .inr (2, [.ref hw, .ref hz, .ref hl0, .int (zI (S 0))])), (hw, .inl (D.2 0, 16, .inl (fC S 0))), (hz, .inl (D.2 5, 3, .inr (.inr (.inr (.inr (f3 h0 h1 h2)))))), (h0, .inl (D.2 0, 16, .inl (fC S 1))), (h1, .inl (D.2 0, 16, .inl (fC S 2))), (h2, .inl (D.2 0, 16, .inl (fC S 3))), (hl0, .inl (D.2 0, 3, .inl (fLm S)))] H locs := w.sub [0, 1, 2, 3, 4, 5, 6, 7, 8, 9] (by decide) rfl
        have w : zW D A s.heap s [(hse, .inr (4, [.ref hlf, .ref hwb])), (hlf, .inl (D.2 0, 3, .inl (fMu L))), (hwb, .inl (D.2 0, 17, .inl (Wb))), (hp, .inr (2, [.ref hw, .ref hz, .ref hl0, .int (zI (S 0))])), (hw, .inl (D.2 0, 16, .inl (fC S 0))), (hz, .inl (D.2 5, 3, .inr (.inr (.inr (.inr (f3 h0 h1 h2)))))), (h0, .inl (D.2 0, 16, .inl (fC S 1))), (h1, .inl (D.2 0, 16, .inl (fC S 2))), (h2, .inl (D.2 0, 16, .inl (fC S 3))), (hl0, .inl (D.2 0, 3, .inl (fLm S)))] H locs := w.to (by rw [sLv_back])
        have hgb := sGr_b (S := S) k (sLv S L k (-1)) (w0 + sC S 0 k) kn hok (by omega) (by omega) (by omega) (by omega) (by omega)
        refine lv_aload_n hx hb dX4_greatest_88 rfl (lv_at hl 2 rfl) ?_
        refine lv_aload_n hx hb dX4_greatest_89 rfl (lv_at hl 3 rfl) ?_
        refine lv_iload hx hb dX4_greatest_90 (lv_at hl 1 rfl) ?_
        refine lv_iload_n hx hb dX4_greatest_92 rfl (lv_at hl 5 rfl) ?_
        refine lv_iload hx hb dX4_greatest_93 (lv_at hl 0 rfl) ?_
        refine z_S_i (As := [.ref hse, .ref hp, .int (zI (((k : Nat) : Int))), .int (zI (w0)), .int (zI (sGr S k (sLv S L k (-1)) (w0 + (sC S 0 k)) kn))]) (rest := []) (Wr := []) ⟨hx, hb, hml, hown, hts⟩ (ih L w0 (sGr S k (sLv S L k (-1)) (w0 + (sC S 0 k)) kn) hL (by omega) (by omega) (by omega) (by omega)) (va_cwS 5 hts gX4_greatest_X4_greatest rfl rfl rfl (by decide +kernel) ⟨by simp only [zR]; omega, by simp only [zR]; omega⟩) w [0, 1, 2, 3, 4, 5, 6, 7, 8, 9] rfl (by decide) [] rfl (by decide) (by decide) rfl hl.1 rfl (lv_room (Nat.le_of_ble_eq_true rfl)) dX4_greatest_95 ⟨Nat.zero_le _, Nat.zero_le _⟩ (fun r W1 H locs hp w => ?_)
        obtain ⟨rfl, rfl⟩ := hp
        have w : zW D A s.heap s [(hse, .inr (4, [.ref hlf, .ref hwb])), (hlf, .inl (D.2 0, 3, .inl (fMu L))), (hwb, .inl (D.2 0, 17, .inl (Wb))), (hp, .inr (2, [.ref hw, .ref hz, .ref hl0, .int (zI (S 0))])), (hw, .inl (D.2 0, 16, .inl (fC S 0))), (hz, .inl (D.2 5, 3, .inr (.inr (.inr (.inr (f3 h0 h1 h2)))))), (h0, .inl (D.2 0, 16, .inl (fC S 1))), (h1, .inl (D.2 0, 16, .inl (fC S 2))), (h2, .inl (D.2 0, 16, .inl (fC S 3))), (hl0, .inl (D.2 0, 3, .inl (fLm S)))] H locs := w.sub [0, 1, 2, 3, 4, 5, 6, 7, 8, 9] (by decide) rfl
        exact z_iret hx hb hr hlocks w dX4_greatest_98 ⟨by rw [sGr_s, if_neg (by omega)]; first | rw [if_pos c49] | rw [if_neg c49], rfl⟩
    · skip
      refine lv_iload hx hb dX4_greatest_30 (lv_at hl 4 rfl) ?_
      exact z_iret hx hb hr hlocks w dX4_greatest_32 ⟨by rw [sGr_s, if_pos (by omega)], rfl⟩
  · skip
    exact absurd (show (1 : Int) ≤ ((k + 1 : Nat) : Int) ∧ ((k + 1 : Nat) : Int) ≤ 16 by omega) c7
set_option maxHeartbeats 6000000 in
set_option maxRecDepth 100000 in
theorem c_X4_greatestZ (l : Launch) (D : zD) (hse hlf hwb hp hw hz h0 h1 h2 hl0 : Nat) (S : Nat → Int) (Wb : Nat → Int32) (hok : OkP S) (L : Nat → Int) (w0 kn : Int) (hw0 : 0 ≤ w0) (hw1 : w0 ≤ 100000) (hk0 : 0 ≤ kn) (hk1 : kn ≤ 200000) : zM l yX4_greatest wsX4_greatest (zR (3)) zE0 D [.ref hse, .ref hp, .int (zI (0)), .int (zI (w0)), .int (zI (kn))] (wSe D hse hlf hwb (fMu L) Wb ++ wPk D hp hw hz h0 h1 h2 hl0 S) ((zQi D (fun r W1 => r = zI (sGr S 0 L w0 kn) ∧ W1 = (wSe D hse hlf hwb (fMu L) Wb ++ wPk D hp hw hz h0 h1 h2 hl0 S)))) := by
  refine zM.of (cc := cX4_greatest) (maxL := 7) (ret := (some .int)) (by decide) rfl (Nat.le_of_ble_eq_true rfl) ?_
  intro p e s m below meth c A hx hb hml hown hts hr hlocks hE hnm w ls hl
  have hown : s.vm.findClass RX4 = some m.cls := hown
  have hl : lv_has ls 7 [(0, .ref hse), (1, .ref hp), (2, .int (zI (0))), (3, .int (zI (w0))), (4, .int (zI (kn)))] := hl
  have mm_59_l : (Cond.methodLink RX4 59 Lib.Math.max.name).before _ s = true := hts _ (by decide +kernel)
  have mm_59_s : (Cond.static Lib.Math.max.name).before _ s = true := hts _ (by decide +kernel)
  have mm_59_c : (Cond.code Lib.Math.max.name Lib.Math.max.code 2 (some .int)).before _ s = true := hts _ (by decide +kernel)
  have mm_59_i : (Cond.initialized "java/lang/Math").before _ s = true := hts _ (by decide +kernel)
  have hn := zn_eq hok
  have h16 := zn_le hok
  have hlim := hok.2.2
  have w : zW D A s.heap s [(hse, .inr (4, [.ref hlf, .ref hwb])), (hlf, .inl (D.2 0, 3, .inl (fMu L))), (hwb, .inl (D.2 0, 17, .inl (Wb))), (hp, .inr (2, [.ref hw, .ref hz, .ref hl0, .int (zI (S 0))])), (hw, .inl (D.2 0, 16, .inl (fC S 0))), (hz, .inl (D.2 5, 3, .inr (.inr (.inr (.inr (f3 h0 h1 h2)))))), (h0, .inl (D.2 0, 16, .inl (fC S 1))), (h1, .inl (D.2 0, 16, .inl (fC S 2))), (h2, .inl (D.2 0, 16, .inl (fC S 3))), (hl0, .inl (D.2 0, 3, .inl (fLm S)))] s.heap [] := w
  refine lv_iload_n hx hb dX4_greatest_0 rfl (lv_at hl 2 rfl) ?_
  refine lv_iconst (v := zI 1) hx hb dX4_greatest_1 rfl ?_
  refine lv_bipush (v := zI 16) hx hb dX4_greatest_2 (by decide +kernel) ?_
  refine z_SN_i (As := [.int (zI (0)), .int (zI (1)), .int (zI (16))]) (rest := []) (Wr := [(hse, .inr (4, [.ref hlf, .ref hwb])), (hlf, .inl (D.2 0, 3, .inl (fMu L))), (hwb, .inl (D.2 0, 17, .inl (Wb))), (hp, .inr (2, [.ref hw, .ref hz, .ref hl0, .int (zI (S 0))])), (hw, .inl (D.2 0, 16, .inl (fC S 0))), (hz, .inl (D.2 5, 3, .inr (.inr (.inr (.inr (f3 h0 h1 h2)))))), (h0, .inl (D.2 0, 16, .inl (fC S 1))), (h1, .inl (D.2 0, 16, .inl (fC S 2))), (h2, .inl (D.2 0, 16, .inl (fC S 3))), (hl0, .inl (D.2 0, 3, .inl (fLm S)))]) ⟨hx, hb, hml, hown, hts⟩ (c_X6_within l D 0 1 16 (by omega) (by omega) (by omega)) ⟨va_cnB 3 hts ggX4_greatest_X6_within rfl rfl rfl (w.1.2 (RX4, 55, yX6_within, "RelaxedSteps") (by decide +kernel)) (hts (.initialized RX6) (by decide +kernel)) (by decide +kernel) ⟨Nat.le_of_ble_eq_true rfl, Nat.le_of_ble_eq_true rfl⟩, hts (.static yX6_within) (by decide +kernel), trivial⟩ w [] rfl (by decide) [0, 1, 2, 3, 4, 5, 6, 7, 8, 9] rfl (by decide) (by decide) rfl hl.1 rfl (lv_room (Nat.le_of_ble_eq_true rfl)) dX4_greatest_4 ⟨Nat.zero_le _, Nat.zero_le _⟩ (fun r W1 H locs hp w => ?_)
  obtain ⟨rfl, rfl⟩ := hp
  have w : zW D A s.heap s [(hse, .inr (4, [.ref hlf, .ref hwb])), (hlf, .inl (D.2 0, 3, .inl (fMu L))), (hwb, .inl (D.2 0, 17, .inl (Wb))), (hp, .inr (2, [.ref hw, .ref hz, .ref hl0, .int (zI (S 0))])), (hw, .inl (D.2 0, 16, .inl (fC S 0))), (hz, .inl (D.2 5, 3, .inr (.inr (.inr (.inr (f3 h0 h1 h2)))))), (h0, .inl (D.2 0, 16, .inl (fC S 1))), (h1, .inl (D.2 0, 16, .inl (fC S 2))), (h2, .inl (D.2 0, 16, .inl (fC S 3))), (hl0, .inl (D.2 0, 3, .inl (fLm S)))] H locs := w.sub [0, 1, 2, 3, 4, 5, 6, 7, 8, 9] (by decide) rfl
  refine z_if_ne_b (tgt := 17) hx hb dX4_greatest_7 (by decide) (fun c7 => ?_) (fun c7 => ?_)
  · skip
    exact absurd c7 (by omega)
  · skip
    refine lv_iload hx hb dX4_greatest_10 (lv_at hl 4 rfl) ?_
    refine lv_iload_n hx hb dX4_greatest_12 rfl (lv_at hl 3 rfl) ?_
    refine z_max hx hb (by rw [hml]; exact hl.1.symm) hown mm_59_l mm_59_s mm_59_i mm_59_c (Nat.le_of_ble_eq_true rfl) (Nat.le_of_ble_eq_true rfl) (Nat.zero_le _) (Nat.zero_le _) (by omega) (by omega) dX4_greatest_13 ?_
    exact z_iret hx hb hr hlocks w dX4_greatest_16 ⟨rfl, rfl⟩
set_option maxRecDepth 100000 in
theorem c_X4_greatest (l : Launch) (D : zD) (hse hlf hwb hp hw hz h0 h1 h2 hl0 : Nat) (S : Nat → Int) (Wb : Nat → Int32) (hok : OkP S) (hW : ∀ j, j ≤ zn S → Wb j = zI (sPre S j)) : ∀ (k : Nat), k ≤ zn S → ∀ (L : Nat → Int) (w0 kn : Int), OkL L → 0 ≤ w0 → w0 + 1000 * (k : Int) ≤ 100000 → 0 ≤ kn → kn ≤ 200000 → zM l yX4_greatest wsX4_greatest (zR (3 + k)) zE0 D [.ref hse, .ref hp, .int (zI ((k : Nat) : Int)), .int (zI w0), .int (zI kn)] (wSe D hse hlf hwb (fMu L) Wb ++ wPk D hp hw hz h0 h1 h2 hl0 S) (zQi D (fun r W1 => r = zI (sGr S k L w0 kn) ∧ W1 = (wSe D hse hlf hwb (fMu L) Wb ++ wPk D hp hw hz h0 h1 h2 hl0 S)))
  | 0, _, L, w0, kn, hL, a, b, c, d => c_X4_greatestZ l D hse hlf hwb hp hw hz h0 h1 h2 hl0 S Wb hok L w0 kn a (by omega) c d
  | k + 1, hk, L, w0, kn, hL, a, b, c, d => c_X4_greatestS l D hse hlf hwb hp hw hz h0 h1 h2 hl0 S Wb hok hW k hk (c_X4_greatest l D hse hlf hwb hp hw hz h0 h1 h2 hl0 S Wb hok hW k (by omega)) L hL w0 kn a (by omega) c d
set_option maxHeartbeats 6000000 in
set_option maxRecDepth 100000 in
theorem c_X4_leastS (l : Launch) (D : zD) (hse hlf hwb hp hw hz h0 h1 h2 hl0 : Nat) (S : Nat → Int) (Wb : Nat → Int32) (hok : OkP S) (hW : ∀ j, j ≤ zn S → Wb j = zI (sPre S j)) (k : Nat) (hk : k + 1 ≤ zn S) (ih : ∀ (L : Nat → Int) (ms : Int) (set : Nat), OkL L → -100000 + 1000 * (k : Int) ≤ ms → ms ≤ 200000 → set < 65536 → zM l yX4_least wsX4_least (zR (3 + k)) zE0 D [.ref hse, .ref hp, .int (zI ((k : Nat) : Int)), .int (zI ms), .int (zI ((set : Nat) : Int))] (wSe D hse hlf hwb (fMu L) Wb ++ wPk D hp hw hz h0 h1 h2 hl0 S) (zQi D (fun r W1 => r = zI (sLe S k L ms set) ∧ W1 = (wSe D hse hlf hwb (fMu L) Wb ++ wPk D hp hw hz h0 h1 h2 hl0 S)))) (L : Nat → Int) (hL : OkL L) (ms : Int) (set : Nat) (hm0 : -100000 + 1000 * ((k : Int) + 1) ≤ ms) (hm1 : ms ≤ 200000) (hset : set < 65536) : zM l yX4_least wsX4_least (zR (3 + (k + 1))) zE0 D [.ref hse, .ref hp, .int (zI (((k + 1 : Nat) : Int))), .int (zI (ms)), .int (zI (((set : Nat) : Int)))] (wSe D hse hlf hwb (fMu L) Wb ++ wPk D hp hw hz h0 h1 h2 hl0 S) ((zQi D (fun r W1 => r = zI (sLe S (k + 1) L ms set) ∧ W1 = (wSe D hse hlf hwb (fMu L) Wb ++ wPk D hp hw hz h0 h1 h2 hl0 S)))) := by
  refine zM.of (cc := cX4_least) (maxL := 7) (ret := (some .int)) (by decide) rfl (Nat.le_of_ble_eq_true rfl) ?_
  intro p e s m below meth c A hx hb hml hown hts hr hlocks hE hnm w ls hl
  have hown : s.vm.findClass RX4 = some m.cls := hown
  have hl : lv_has ls 7 [(0, .ref hse), (1, .ref hp), (2, .int (zI (((k + 1 : Nat) : Int)))), (3, .int (zI (ms))), (4, .int (zI (((set : Nat) : Int))))] := hl
  have f_15 : (Cond.fieldLink RX4 15 "RelaxedSteps$Search" "worthBelow" "[I").before _ s = true := hts _ (by decide +kernel)
  have f_52 : (Cond.fieldLink RX4 52 "RelaxedSteps$Packing" "worths" "[I").before _ s = true := hts _ (by decide +kernel)
  have inX4 : ∀ w ∈ u_ws RX4 TX4 2, w ∈ wsX4_least := by decide +kernel
  have inX2 : ∀ w ∈ u_ws RX2 TX2 4, w ∈ wsX4_least := by decide +kernel
  have hn := zn_eq hok
  have h16 := zn_le hok
  have hlim := hok.2.2
  have hokp := hok
  have hpb := sPre_b hok (k := k + 1) (by omega)
  have hcb := sC_b hok (i := k) (what := 0) (by omega) (by omega)
  have hlb := sLe_b (S := S) k L ms set (by omega) hset
  have w : zW D A s.heap s [(hse, .inr (4, [.ref hlf, .ref hwb])), (hlf, .inl (D.2 0, 3, .inl (fMu L))), (hwb, .inl (D.2 0, 17, .inl (Wb))), (hp, .inr (2, [.ref hw, .ref hz, .ref hl0, .int (zI (S 0))])), (hw, .inl (D.2 0, 16, .inl (fC S 0))), (hz, .inl (D.2 5, 3, .inr (.inr (.inr (.inr (f3 h0 h1 h2)))))), (h0, .inl (D.2 0, 16, .inl (fC S 1))), (h1, .inl (D.2 0, 16, .inl (fC S 2))), (h2, .inl (D.2 0, 16, .inl (fC S 3))), (hl0, .inl (D.2 0, 3, .inl (fLm S)))] s.heap [] := w
  refine lv_iload_n hx hb dX4_least_0 rfl (lv_at hl 3 rfl) ?_
  refine z_if_gt (tgt := 7) hx hb (by omega) dX4_least_1 (by decide) (fun c1 => ?_) (fun c1 => ?_)
  · skip
    refine lv_iload_n hx hb dX4_least_7 rfl (lv_at hl 2 rfl) ?_
    refine lv_iconst (v := zI 1) hx hb dX4_least_8 rfl ?_
    refine lv_bipush (v := zI 16) hx hb dX4_least_9 (by decide +kernel) ?_
    refine z_SN_i (As := [.int (zI (((k + 1 : Nat) : Int))), .int (zI (1)), .int (zI (16))]) (rest := []) (Wr := [(hse, .inr (4, [.ref hlf, .ref hwb])), (hlf, .inl (D.2 0, 3, .inl (fMu L))), (hwb, .inl (D.2 0, 17, .inl (Wb))), (hp, .inr (2, [.ref hw, .ref hz, .ref hl0, .int (zI (S 0))])), (hw, .inl (D.2 0, 16, .inl (fC S 0))), (hz, .inl (D.2 5, 3, .inr (.inr (.inr (.inr (f3 h0 h1 h2)))))), (h0, .inl (D.2 0, 16, .inl (fC S 1))), (h1, .inl (D.2 0, 16, .inl (fC S 2))), (h2, .inl (D.2 0, 16, .inl (fC S 3))), (hl0, .inl (D.2 0, 3, .inl (fLm S)))]) ⟨hx, hb, hml, hown, hts⟩ (c_X6_within l D ((k + 1 : Nat) : Int) 1 16 (by omega) (by omega) (by omega)) ⟨va_cnB 3 hts ggX4_least_X6_within rfl rfl rfl (w.1.2 (RX4, 55, yX6_within, "RelaxedSteps") (by decide +kernel)) (hts (.initialized RX6) (by decide +kernel)) (by decide +kernel) ⟨by simp only [zR]; omega, by simp only [zR]; omega⟩, hts (.static yX6_within) (by decide +kernel), trivial⟩ w [] rfl (by decide) [0, 1, 2, 3, 4, 5, 6, 7, 8, 9] rfl (by decide) (by decide) rfl hl.1 rfl (lv_room (Nat.le_of_ble_eq_true rfl)) dX4_least_11 ⟨Nat.zero_le _, Nat.zero_le _⟩ (fun r W1 H locs hp w => ?_)
    obtain ⟨rfl, rfl⟩ := hp
    have w : zW D A s.heap s [(hse, .inr (4, [.ref hlf, .ref hwb])), (hlf, .inl (D.2 0, 3, .inl (fMu L))), (hwb, .inl (D.2 0, 17, .inl (Wb))), (hp, .inr (2, [.ref hw, .ref hz, .ref hl0, .int (zI (S 0))])), (hw, .inl (D.2 0, 16, .inl (fC S 0))), (hz, .inl (D.2 5, 3, .inr (.inr (.inr (.inr (f3 h0 h1 h2)))))), (h0, .inl (D.2 0, 16, .inl (fC S 1))), (h1, .inl (D.2 0, 16, .inl (fC S 2))), (h2, .inl (D.2 0, 16, .inl (fC S 3))), (hl0, .inl (D.2 0, 3, .inl (fLm S)))] H locs := w.sub [0, 1, 2, 3, 4, 5, 6, 7, 8, 9] (by decide) rfl
    refine z_if_eq_b (tgt := 27) hx hb dX4_least_14 (by decide) (fun c14 => ?_) (fun c14 => ?_)
    · skip
      exact absurd (show (1 : Int) ≤ ((k + 1 : Nat) : Int) ∧ ((k + 1 : Nat) : Int) ≤ 16 by omega) c14
    · skip
      refine lv_aload_n hx hb dX4_least_17 rfl (lv_at hl 0 rfl) ?_
      refine z_get hx hb hown hts w inX4 0 1 rfl rfl (by decide) f_15 rfl rfl dX4_least_18 ?_
      refine lv_iload_n hx hb dX4_least_21 rfl (lv_at hl 2 rfl) ?_
      refine z_iald hx hb w 2 rfl (k + 1) (by omega) (by decide) rfl (v := (zI (sPre S (k + 1)))) (hW _ (by omega)) dX4_least_22 ?_
      refine lv_iload_n hx hb dX4_least_23 rfl (lv_at hl 3 rfl) ?_
      refine z_icmp_ge (tgt := 29) hx hb (by omega) (by omega) dX4_least_24 (by decide) (fun c24 => ?_) (fun c24 => ?_)
      · skip
        refine lv_iload_n hx hb dX4_least_29 rfl (lv_at hl 2 rfl) ?_
        refine lv_iconst (v := zI 1) hx hb dX4_least_30 rfl ?_
        refine z_isub hx hb dX4_least_31 ?_
        refine W.eq (g2 := F0 m 32 ls [.int (zI (((k : Nat) : Int)))]) (by rw [show ((k + 1 : Nat) : Int) - 1 = ((k : Nat) : Int) by omega]) ?_
        refine lv_istore (lv' := [(5, .int (zI (((k : Nat) : Int)))), (0, .ref hse), (1, .ref hp), (2, .int (zI (((k + 1 : Nat) : Int)))), (3, .int (zI (ms))), (4, .int (zI (((set : Nat) : Int))))]) hx hb dX4_least_32 hl (by decide) rfl (fun ls hl => ?_)
        refine lv_aload_n hx hb dX4_least_34 rfl (lv_at hl 1 rfl) ?_
        refine lv_aload_n hx hb dX4_least_35 rfl (lv_at hl 2 rfl) ?_
        refine lv_iload hx hb dX4_least_36 (lv_at hl 0 rfl) ?_
        refine lv_iload_n hx hb dX4_least_38 rfl (lv_at hl 4 rfl) ?_
        refine lv_iload hx hb dX4_least_39 (lv_at hl 5 rfl) ?_
        refine z_S_i (As := [.ref hse, .ref hp, .int (zI (((k : Nat) : Int))), .int (zI (ms)), .int (zI (((set : Nat) : Int)))]) (rest := []) (Wr := []) ⟨hx, hb, hml, hown, hts⟩ (ih L ms set hL (by omega) (by omega) hset) (va_cwS 5 hts gX4_least_X4_least rfl rfl rfl (by decide +kernel) ⟨by simp only [zR]; omega, by simp only [zR]; omega⟩) w [0, 1, 2, 3, 4, 5, 6, 7, 8, 9] rfl (by decide) [] rfl (by decide) (by decide) rfl hl.1 rfl (lv_room (Nat.le_of_ble_eq_true rfl)) dX4_least_41 ⟨Nat.zero_le _, Nat.zero_le _⟩ (fun r W1 H locs hp w => ?_)
        obtain ⟨rfl, rfl⟩ := hp
        have w : zW D A s.heap s [(hse, .inr (4, [.ref hlf, .ref hwb])), (hlf, .inl (D.2 0, 3, .inl (fMu L))), (hwb, .inl (D.2 0, 17, .inl (Wb))), (hp, .inr (2, [.ref hw, .ref hz, .ref hl0, .int (zI (S 0))])), (hw, .inl (D.2 0, 16, .inl (fC S 0))), (hz, .inl (D.2 5, 3, .inr (.inr (.inr (.inr (f3 h0 h1 h2)))))), (h0, .inl (D.2 0, 16, .inl (fC S 1))), (h1, .inl (D.2 0, 16, .inl (fC S 2))), (h2, .inl (D.2 0, 16, .inl (fC S 3))), (hl0, .inl (D.2 0, 3, .inl (fLm S)))] H locs := w.sub [0, 1, 2, 3, 4, 5, 6, 7, 8, 9] (by decide) rfl
        refine lv_istore (lv' := [(6, .int (zI (sLe S k L ms set))), (5, .int (zI (((k : Nat) : Int)))), (0, .ref hse), (1, .ref hp), (2, .int (zI (((k + 1 : Nat) : Int)))), (3, .int (zI (ms))), (4, .int (zI (((set : Nat) : Int))))]) hx hb dX4_least_44 hl (by decide) rfl (fun ls hl => ?_)
        refine lv_iload hx hb dX4_least_46 (lv_at hl 0 rfl) ?_
        refine lv_iconst (v := zI (-1)) hx hb dX4_least_48 rfl ?_
        refine z_icmp_ne (tgt := 103) hx hb (by omega) (by omega) dX4_least_49 (by decide) (fun c49 => ?_) (fun c49 => ?_)
        · skip
          refine lv_iload hx hb dX4_least_103 (lv_at hl 0 rfl) ?_
          exact z_iret hx hb hr hlocks w dX4_least_105 ⟨by rw [sLe_s, if_neg (by omega), if_neg (by omega)]; first | rw [if_neg (fun q => c49 q.1)] | rw [if_neg (fun q => c59 q.2)] | rw [if_pos ⟨c49, c59⟩], rfl⟩
        · skip
          refine lv_aload_n hx hb dX4_least_52 rfl (lv_at hl 2 rfl) ?_
          refine lv_aload_n hx hb dX4_least_53 rfl (lv_at hl 3 rfl) ?_
          refine lv_iload hx hb dX4_least_54 (lv_at hl 1 rfl) ?_
          refine z_V_i (As := [.ref hp, .int (zI (((k : Nat) : Int)))]) (rest := []) (Wr := []) ⟨hx, hb, hml, hown, hts⟩ (c_X4_hasRoomFor l D hse hlf hwb hp hw hz h0 h1 h2 hl0 S L Wb hok hL k (by omega)) (cwV 2 hts gX4_least_X4_hasRoomFor rfl rfl rfl (by decide +kernel) ⟨by simp only [zR]; omega, by simp only [zR]; omega⟩) w (q0 := 0) rfl rfl rfl [0, 1, 2, 3, 4, 5, 6, 7, 8, 9] rfl (by decide) [] rfl (by decide) (by decide) rfl hl.1 rfl (lv_room (Nat.le_of_ble_eq_true rfl)) dX4_least_56 ⟨Nat.zero_le _, Nat.zero_le _⟩ (fun r W1 H locs hp w => ?_)
          obtain ⟨rfl, rfl⟩ := hp
          have w : zW D A s.heap s [(hse, .inr (4, [.ref hlf, .ref hwb])), (hlf, .inl (D.2 0, 3, .inl (fMu L))), (hwb, .inl (D.2 0, 17, .inl (Wb))), (hp, .inr (2, [.ref hw, .ref hz, .ref hl0, .int (zI (S 0))])), (hw, .inl (D.2 0, 16, .inl (fC S 0))), (hz, .inl (D.2 5, 3, .inr (.inr (.inr (.inr (f3 h0 h1 h2)))))), (h0, .inl (D.2 0, 16, .inl (fC S 1))), (h1, .inl (D.2 0, 16, .inl (fC S 2))), (h2, .inl (D.2 0, 16, .inl (fC S 3))), (hl0, .inl (D.2 0, 3, .inl (fLm S)))] H locs := w.sub [0, 1, 2, 3, 4, 5, 6, 7, 8, 9] (by decide) rfl
          refine z_if_eq_b (tgt := 103) hx hb dX4_least_59 (by decide) (fun c59 => ?_) (fun c59 => ?_)
          · skip
            refine lv_iload hx hb dX4_least_103 (lv_at hl 0 rfl) ?_
            exact z_iret hx hb hr hlocks w dX4_least_105 ⟨by rw [sLe_s, if_neg (by omega), if_neg (by omega)]; first | rw [if_neg (fun q => c49 q.1)] | rw [if_neg (fun q => c59 q.2)] | rw [if_pos ⟨c49, c59⟩], rfl⟩
          · skip
            refine lv_aload_n hx hb dX4_least_62 rfl (lv_at hl 2 rfl) ?_
            refine lv_aload_n hx hb dX4_least_63 rfl (lv_at hl 3 rfl) ?_
            refine lv_iload hx hb dX4_least_64 (lv_at hl 1 rfl) ?_
            refine lv_iconst (v := zI (-1)) hx hb dX4_least_66 rfl ?_
            refine z_V_v (As := [.ref hp, .int (zI (((k : Nat) : Int))), .int (zI ((-1)))]) (rest := []) (Wr := []) ⟨hx, hb, hml, hown, hts⟩ (c_X4_leaveM l D hse hlf hwb hp hw hz h0 h1 h2 hl0 S L Wb k (by omega)) (cwV 3 hts gX4_least_X4_leave rfl rfl rfl (by decide +kernel) ⟨by simp only [zR]; omega, by simp only [zR]; omega⟩) w (q0 := 0) rfl rfl rfl [0, 1, 2, 3, 4, 5, 6, 7, 8, 9] rfl (by decide) [] rfl (by decide) (by decide) rfl hl.1 rfl (lv_room (Nat.le_of_ble_eq_true rfl)) dX4_least_67 ⟨Nat.zero_le _, Nat.zero_le _⟩ (fun W1 H locs hp w => ?_)
            subst hp
            have w : zW D A s.heap s [(hse, .inr (4, [.ref hlf, .ref hwb])), (hlf, .inl (D.2 0, 3, .inl (fMu (sLv S L k (-1))))), (hwb, .inl (D.2 0, 17, .inl (Wb))), (hp, .inr (2, [.ref hw, .ref hz, .ref hl0, .int (zI (S 0))])), (hw, .inl (D.2 0, 16, .inl (fC S 0))), (hz, .inl (D.2 5, 3, .inr (.inr (.inr (.inr (f3 h0 h1 h2)))))), (h0, .inl (D.2 0, 16, .inl (fC S 1))), (h1, .inl (D.2 0, 16, .inl (fC S 2))), (h2, .inl (D.2 0, 16, .inl (fC S 3))), (hl0, .inl (D.2 0, 3, .inl (fLm S)))] H locs := w.sub [0, 1, 2, 3, 4, 5, 6, 7, 8, 9] (by decide) rfl
            refine lv_aload_n hx hb dX4_least_70 rfl (lv_at hl 2 rfl) ?_
            refine lv_aload_n hx hb dX4_least_71 rfl (lv_at hl 3 rfl) ?_
            refine lv_iload hx hb dX4_least_72 (lv_at hl 1 rfl) ?_
            refine lv_iload_n hx hb dX4_least_74 rfl (lv_at hl 5 rfl) ?_
            refine lv_aload_n hx hb dX4_least_75 rfl (lv_at hl 3 rfl) ?_
            refine z_get hx hb hown hts w inX2 3 0 rfl rfl (by decide) f_52 rfl rfl dX4_least_76 ?_
            refine lv_iload hx hb dX4_least_79 (lv_at hl 1 rfl) ?_
            refine z_iald hx hb w 4 rfl k (by omega) (by decide) rfl (v := (zI (sC S 0 k))) (if_pos (by omega)) dX4_least_81 ?_
            refine z_isub hx hb dX4_least_82 ?_
            refine lv_iload hx hb dX4_least_83 (lv_at hl 6 rfl) ?_
            refine lv_iconst (v := zI 1) hx hb dX4_least_85 rfl ?_
            refine lv_iload hx hb dX4_least_86 (lv_at hl 1 rfl) ?_
            refine z_ishl1 (b := k) hx hb (by omega) dX4_least_88 ?_
            refine z_ior (a := set) (b := 2 ^ k) hx hb dX4_least_89 ?_
            refine z_S_i (As := [.ref hse, .ref hp, .int (zI (((k : Nat) : Int))), .int (zI (ms - (sC S 0 k))), .int (zI (((set ||| (2 ^ k) : Nat) : Int)))]) (rest := []) (Wr := []) ⟨hx, hb, hml, hown, hts⟩ (ih (sLv S L k (-1)) (ms - (sC S 0 k)) (set ||| (2 ^ k)) (OkL_lv hok hL (by omega) c59) (by omega) (by omega) (zor_16 hset (by omega))) (va_cwS 5 hts gX4_least_X4_least rfl rfl rfl (by decide +kernel) ⟨by simp only [zR]; omega, by simp only [zR]; omega⟩) w [0, 1, 2, 3, 4, 5, 6, 7, 8, 9] rfl (by decide) [] rfl (by decide) (by decide) rfl hl.1 rfl (lv_room (Nat.le_of_ble_eq_true rfl)) dX4_least_90 ⟨Nat.zero_le _, Nat.zero_le _⟩ (fun r W1 H locs hp w => ?_)
            obtain ⟨rfl, rfl⟩ := hp
            have w : zW D A s.heap s [(hse, .inr (4, [.ref hlf, .ref hwb])), (hlf, .inl (D.2 0, 3, .inl (fMu (sLv S L k (-1))))), (hwb, .inl (D.2 0, 17, .inl (Wb))), (hp, .inr (2, [.ref hw, .ref hz, .ref hl0, .int (zI (S 0))])), (hw, .inl (D.2 0, 16, .inl (fC S 0))), (hz, .inl (D.2 5, 3, .inr (.inr (.inr (.inr (f3 h0 h1 h2)))))), (h0, .inl (D.2 0, 16, .inl (fC S 1))), (h1, .inl (D.2 0, 16, .inl (fC S 2))), (h2, .inl (D.2 0, 16, .inl (fC S 3))), (hl0, .inl (D.2 0, 3, .inl (fLm S)))] H locs := w.sub [0, 1, 2, 3, 4, 5, 6, 7, 8, 9] (by decide) rfl
            refine lv_istore (lv' := [(6, .int (zI (sLe S k (sLv S L k (-1)) (ms - (sC S 0 k)) (set ||| (2 ^ k))))), (5, .int (zI (((k : Nat) : Int)))), (0, .ref hse), (1, .ref hp), (2, .int (zI (((k + 1 : Nat) : Int)))), (3, .int (zI (ms))), (4, .int (zI (((set : Nat) : Int))))]) hx hb dX4_least_93 hl (by decide) rfl (fun ls hl => ?_)
            refine lv_aload_n hx hb dX4_least_95 rfl (lv_at hl 2 rfl) ?_
            refine lv_aload_n hx hb dX4_least_96 rfl (lv_at hl 3 rfl) ?_
            refine lv_iload hx hb dX4_least_97 (lv_at hl 1 rfl) ?_
            refine lv_iconst (v := zI 1) hx hb dX4_least_99 rfl ?_
            refine z_V_v (As := [.ref hp, .int (zI (((k : Nat) : Int))), .int (zI (1))]) (rest := []) (Wr := []) ⟨hx, hb, hml, hown, hts⟩ (c_X4_leaveP l D hse hlf hwb hp hw hz h0 h1 h2 hl0 S (sLv S L k (-1)) Wb k (by omega)) (cwV 3 hts gX4_least_X4_leave rfl rfl rfl (by decide +kernel) ⟨by simp only [zR]; omega, by simp only [zR]; omega⟩) w (q0 := 0) rfl rfl rfl [0, 1, 2, 3, 4, 5, 6, 7, 8, 9] rfl (by decide) [] rfl (by decide) (by decide) rfl hl.1 rfl (lv_room (Nat.le_of_ble_eq_true rfl)) dX4_least_100 ⟨Nat.zero_le _, Nat.zero_le _⟩ (fun W1 H locs hp w => ?_)
            subst hp
            have w : zW D A s.heap s [(hse, .inr (4, [.ref hlf, .ref hwb])), (hlf, .inl (D.2 0, 3, .inl (fMu (sLv S (sLv S L k (-1)) k 1)))), (hwb, .inl (D.2 0, 17, .inl (Wb))), (hp, .inr (2, [.ref hw, .ref hz, .ref hl0, .int (zI (S 0))])), (hw, .inl (D.2 0, 16, .inl (fC S 0))), (hz, .inl (D.2 5, 3, .inr (.inr (.inr (.inr (f3 h0 h1 h2)))))), (h0, .inl (D.2 0, 16, .inl (fC S 1))), (h1, .inl (D.2 0, 16, .inl (fC S 2))), (h2, .inl (D.2 0, 16, .inl (fC S 3))), (hl0, .inl (D.2 0, 3, .inl (fLm S)))] H locs := w.sub [0, 1, 2, 3, 4, 5, 6, 7, 8, 9] (by decide) rfl
            have w : zW D A s.heap s [(hse, .inr (4, [.ref hlf, .ref hwb])), (hlf, .inl (D.2 0, 3, .inl (fMu L))), (hwb, .inl (D.2 0, 17, .inl (Wb))), (hp, .inr (2, [.ref hw, .ref hz, .ref hl0, .int (zI (S 0))])), (hw, .inl (D.2 0, 16, .inl (fC S 0))), (hz, .inl (D.2 5, 3, .inr (.inr (.inr (.inr (f3 h0 h1 h2)))))), (h0, .inl (D.2 0, 16, .inl (fC S 1))), (h1, .inl (D.2 0, 16, .inl (fC S 2))), (h2, .inl (D.2 0, 16, .inl (fC S 3))), (hl0, .inl (D.2 0, 3, .inl (fLm S)))] H locs := w.to (by rw [sLv_back])
            refine lv_iload hx hb dX4_least_103 (lv_at hl 0 rfl) ?_
            exact z_iret hx hb hr hlocks w dX4_least_105 ⟨by rw [sLe_s, if_neg (by omega), if_neg (by omega)]; first | rw [if_neg (fun q => c49 q.1)] | rw [if_neg (fun q => c59 q.2)] | rw [if_pos ⟨c49, c59⟩], rfl⟩
      · skip
        refine lv_iconst (v := zI (-1)) hx hb dX4_least_27 rfl ?_
        exact z_iret hx hb hr hlocks w dX4_least_28 ⟨by rw [sLe_s, if_neg (by omega), if_pos (by omega)], rfl⟩
  · skip
    refine lv_iload hx hb dX4_least_4 (lv_at hl 4 rfl) ?_
    exact z_iret hx hb hr hlocks w dX4_least_6 ⟨by rw [sLe_s, if_pos (by omega)], rfl⟩
set_option maxHeartbeats 6000000 in
set_option maxRecDepth 100000 in
theorem c_X4_leastZ (l : Launch) (D : zD) (hse hlf hwb hp hw hz h0 h1 h2 hl0 : Nat) (S : Nat → Int) (Wb : Nat → Int32) (hok : OkP S) (L : Nat → Int) (ms : Int) (set : Nat) (hm0 : -100000 ≤ ms) (hm1 : ms ≤ 200000) : zM l yX4_least wsX4_least (zR (3)) zE0 D [.ref hse, .ref hp, .int (zI (0)), .int (zI (ms)), .int (zI (((set : Nat) : Int)))] (wSe D hse hlf hwb (fMu L) Wb ++ wPk D hp hw hz h0 h1 h2 hl0 S) ((zQi D (fun r W1 => r = zI (sLe S 0 L ms set) ∧ W1 = (wSe D hse hlf hwb (fMu L) Wb ++ wPk D hp hw hz h0 h1 h2 hl0 S)))) := by
  refine zM.of (cc := cX4_least) (maxL := 7) (ret := (some .int)) (by decide) rfl (Nat.le_of_ble_eq_true rfl) ?_
  intro p e s m below meth c A hx hb hml hown hts hr hlocks hE hnm w ls hl
  have hown : s.vm.findClass RX4 = some m.cls := hown
  have hl : lv_has ls 7 [(0, .ref hse), (1, .ref hp), (2, .int (zI (0))), (3, .int (zI (ms))), (4, .int (zI (((set : Nat) : Int))))] := hl
  have hn := zn_eq hok
  have h16 := zn_le hok
  have hlim := hok.2.2
  have w : zW D A s.heap s [(hse, .inr (4, [.ref hlf, .ref hwb])), (hlf, .inl (D.2 0, 3, .inl (fMu L))), (hwb, .inl (D.2 0, 17, .inl (Wb))), (hp, .inr (2, [.ref hw, .ref hz, .ref hl0, .int (zI (S 0))])), (hw, .inl (D.2 0, 16, .inl (fC S 0))), (hz, .inl (D.2 5, 3, .inr (.inr (.inr (.inr (f3 h0 h1 h2)))))), (h0, .inl (D.2 0, 16, .inl (fC S 1))), (h1, .inl (D.2 0, 16, .inl (fC S 2))), (h2, .inl (D.2 0, 16, .inl (fC S 3))), (hl0, .inl (D.2 0, 3, .inl (fLm S)))] s.heap [] := w
  refine lv_iload_n hx hb dX4_least_0 rfl (lv_at hl 3 rfl) ?_
  refine z_if_gt (tgt := 7) hx hb (by omega) dX4_least_1 (by decide) (fun c1 => ?_) (fun c1 => ?_)
  · skip
    refine lv_iload_n hx hb dX4_least_7 rfl (lv_at hl 2 rfl) ?_
    refine lv_iconst (v := zI 1) hx hb dX4_least_8 rfl ?_
    refine lv_bipush (v := zI 16) hx hb dX4_least_9 (by decide +kernel) ?_
    refine z_SN_i (As := [.int (zI (0)), .int (zI (1)), .int (zI (16))]) (rest := []) (Wr := [(hse, .inr (4, [.ref hlf, .ref hwb])), (hlf, .inl (D.2 0, 3, .inl (fMu L))), (hwb, .inl (D.2 0, 17, .inl (Wb))), (hp, .inr (2, [.ref hw, .ref hz, .ref hl0, .int (zI (S 0))])), (hw, .inl (D.2 0, 16, .inl (fC S 0))), (hz, .inl (D.2 5, 3, .inr (.inr (.inr (.inr (f3 h0 h1 h2)))))), (h0, .inl (D.2 0, 16, .inl (fC S 1))), (h1, .inl (D.2 0, 16, .inl (fC S 2))), (h2, .inl (D.2 0, 16, .inl (fC S 3))), (hl0, .inl (D.2 0, 3, .inl (fLm S)))]) ⟨hx, hb, hml, hown, hts⟩ (c_X6_within l D 0 1 16 (by omega) (by omega) (by omega)) ⟨va_cnB 3 hts ggX4_least_X6_within rfl rfl rfl (w.1.2 (RX4, 55, yX6_within, "RelaxedSteps") (by decide +kernel)) (hts (.initialized RX6) (by decide +kernel)) (by decide +kernel) ⟨Nat.le_of_ble_eq_true rfl, Nat.le_of_ble_eq_true rfl⟩, hts (.static yX6_within) (by decide +kernel), trivial⟩ w [] rfl (by decide) [0, 1, 2, 3, 4, 5, 6, 7, 8, 9] rfl (by decide) (by decide) rfl hl.1 rfl (lv_room (Nat.le_of_ble_eq_true rfl)) dX4_least_11 ⟨Nat.zero_le _, Nat.zero_le _⟩ (fun r W1 H locs hp w => ?_)
    obtain ⟨rfl, rfl⟩ := hp
    have w : zW D A s.heap s [(hse, .inr (4, [.ref hlf, .ref hwb])), (hlf, .inl (D.2 0, 3, .inl (fMu L))), (hwb, .inl (D.2 0, 17, .inl (Wb))), (hp, .inr (2, [.ref hw, .ref hz, .ref hl0, .int (zI (S 0))])), (hw, .inl (D.2 0, 16, .inl (fC S 0))), (hz, .inl (D.2 5, 3, .inr (.inr (.inr (.inr (f3 h0 h1 h2)))))), (h0, .inl (D.2 0, 16, .inl (fC S 1))), (h1, .inl (D.2 0, 16, .inl (fC S 2))), (h2, .inl (D.2 0, 16, .inl (fC S 3))), (hl0, .inl (D.2 0, 3, .inl (fLm S)))] H locs := w.sub [0, 1, 2, 3, 4, 5, 6, 7, 8, 9] (by decide) rfl
    refine z_if_eq_b (tgt := 27) hx hb dX4_least_14 (by decide) (fun c14 => ?_) (fun c14 => ?_)
    · skip
      refine lv_iconst (v := zI (-1)) hx hb dX4_least_27 rfl ?_
      exact z_iret hx hb hr hlocks w dX4_least_28 ⟨by rw [sLe_0, if_neg (by omega)], rfl⟩
    · skip
      exact absurd c14.1 (by omega)
  · skip
    refine lv_iload hx hb dX4_least_4 (lv_at hl 4 rfl) ?_
    exact z_iret hx hb hr hlocks w dX4_least_6 ⟨by rw [sLe_0, if_pos (by omega)], rfl⟩
set_option maxRecDepth 100000 in
theorem c_X4_least (l : Launch) (D : zD) (hse hlf hwb hp hw hz h0 h1 h2 hl0 : Nat) (S : Nat → Int) (Wb : Nat → Int32) (hok : OkP S) (hW : ∀ j, j ≤ zn S → Wb j = zI (sPre S j)) : ∀ (k : Nat), k ≤ zn S → ∀ (L : Nat → Int) (ms : Int) (set : Nat), OkL L → -100000 + 1000 * (k : Int) ≤ ms → ms ≤ 200000 → set < 65536 → zM l yX4_least wsX4_least (zR (3 + k)) zE0 D [.ref hse, .ref hp, .int (zI ((k : Nat) : Int)), .int (zI ms), .int (zI ((set : Nat) : Int))] (wSe D hse hlf hwb (fMu L) Wb ++ wPk D hp hw hz h0 h1 h2 hl0 S) (zQi D (fun r W1 => r = zI (sLe S k L ms set) ∧ W1 = (wSe D hse hlf hwb (fMu L) Wb ++ wPk D hp hw hz h0 h1 h2 hl0 S)))
  | 0, _, L, ms, set, hL, a, b, c => c_X4_leastZ l D hse hlf hwb hp hw hz h0 h1 h2 hl0 S Wb hok L ms set (by omega) b
  | k + 1, hk, L, ms, set, hL, a, b, c => c_X4_leastS l D hse hlf hwb hp hw hz h0 h1 h2 hl0 S Wb hok hW k hk (c_X4_least l D hse hlf hwb hp hw hz h0 h1 h2 hl0 S Wb hok hW k (by omega)) L hL ms set (by omega) b c
