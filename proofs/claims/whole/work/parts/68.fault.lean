set_option maxHeartbeats 6000000 in
set_option maxRecDepth 100000 in
theorem c_X3_hasMore (l : Launch) (D : zD) (hpd9 htx hnu : Nat) (pl a : Nat) (kk rd : Nat) (hpl : pl ≤ 80) (hapl : a ≤ pl) : zM l yX3_hasMore wsX3_hasMore (zR (0)) zE0 D [.ref hpd9] [(hpd9, .inr (3, [.ref htx, .int (zI (((pl : Nat) : Int))), .int (zI (((a : Nat) : Int))), .int (zI (((kk : Nat) : Int))), .ref hnu, .int (zI (((rd : Nat) : Int)))]))] (zQi D (fun r W1 => r = zI (zb (((a : Nat) : Int) < ((pl : Nat) : Int))) ∧ W1 = [(hpd9, .inr (3, [.ref htx, .int (zI (((pl : Nat) : Int))), .int (zI (((a : Nat) : Int))), .int (zI (((kk : Nat) : Int))), .ref hnu, .int (zI (((rd : Nat) : Int)))]))])) := by
  refine zM.of (cc := cX3_hasMore) (maxL := 1) (ret := (some .boolean)) (by decide) rfl (Nat.le_of_ble_eq_true rfl) ?_
  intro p e s m below meth c A hx hb hml hown hts hr hlocks hE hnm w ls hl
  have hown : s.vm.findClass RX3 = some m.cls := hown
  have hl : lv_has ls 1 [(0, .ref hpd9)] := hl
  have f_19 : (Cond.fieldLink RX3 19 "RelaxedSteps$Pad" "at" "I").before _ s = true := hts _ (by decide +kernel)
  have f_15 : (Cond.fieldLink RX3 15 "RelaxedSteps$Pad" "length" "I").before _ s = true := hts _ (by decide +kernel)
  have inX3 : ∀ w ∈ u_ws RX3 TX3 6, w ∈ wsX3_hasMore := by decide +kernel
  have w : zW D A s.heap s [(hpd9, .inr (3, [.ref htx, .int (zI (((pl : Nat) : Int))), .int (zI (((a : Nat) : Int))), .int (zI (((kk : Nat) : Int))), .ref hnu, .int (zI (((rd : Nat) : Int)))]))] s.heap [] := w
  refine lv_aload_n hx hb dX3_hasMore_0 rfl (lv_at hl 0 rfl) ?_
  refine z_get hx hb hown hts w inX3 0 2 rfl rfl (by decide) f_19 rfl rfl dX3_hasMore_1 ?_
  refine lv_aload_n hx hb dX3_hasMore_4 rfl (lv_at hl 0 rfl) ?_
  refine z_get hx hb hown hts w inX3 0 1 rfl rfl (by decide) f_15 rfl rfl dX3_hasMore_5 ?_
  refine z_icmp_ge (tgt := 15) hx hb (by omega) (by omega) dX3_hasMore_8 (by decide) (fun c8 => ?_) (fun c8 => ?_)
  · skip
    refine lv_iconst (v := zI 0) hx hb dX3_hasMore_15 rfl ?_
    exact z_zret hx hb hr hlocks w dX3_hasMore_16 (by omega) ⟨by rw [zb_f (by omega)], rfl⟩
  · skip
    refine lv_iconst (v := zI 1) hx hb dX3_hasMore_11 rfl ?_
    refine lv_goto (tgt := 16) hx hb dX3_hasMore_12 (by decide) ?_
    exact z_zret hx hb hr hlocks w dX3_hasMore_16 (by omega) ⟨by rw [zb_t c8], rfl⟩
set_option maxHeartbeats 6000000 in
set_option maxRecDepth 100000 in
theorem c_X3_rewind (l : Launch) (D : zD) (hpd9 htx hnu : Nat) (pl a : Nat) (kk rd : Nat) : zM l yX3_rewind wsX3_rewind (zR (0)) zE0 D [.ref hpd9] [(hpd9, .inr (3, [.ref htx, .int (zI (((pl : Nat) : Int))), .int (zI (((a : Nat) : Int))), .int (zI (((kk : Nat) : Int))), .ref hnu, .int (zI (((rd : Nat) : Int)))]))] (zQv D (fun W1 => W1 = [(hpd9, .inr (3, [.ref htx, .int (zI (((pl : Nat) : Int))), .int (zI (0)), .int (zI (((kk : Nat) : Int))), .ref hnu, .int (zI (((rd : Nat) : Int)))]))])) := by
  refine zM.of (cc := cX3_rewind) (maxL := 1) (ret := none) (by decide) rfl (Nat.le_of_ble_eq_true rfl) ?_
  intro p e s m below meth c A hx hb hml hown hts hr hlocks hE hnm w ls hl
  have hown : s.vm.findClass RX3 = some m.cls := hown
  have hl : lv_has ls 1 [(0, .ref hpd9)] := hl
  have f_19 : (Cond.fieldLink RX3 19 "RelaxedSteps$Pad" "at" "I").before _ s = true := hts _ (by decide +kernel)
  have inX3 : ∀ w ∈ u_ws RX3 TX3 6, w ∈ wsX3_rewind := by decide +kernel
  have w : zW D A s.heap s [(hpd9, .inr (3, [.ref htx, .int (zI (((pl : Nat) : Int))), .int (zI (((a : Nat) : Int))), .int (zI (((kk : Nat) : Int))), .ref hnu, .int (zI (((rd : Nat) : Int)))]))] s.heap [] := w
  refine lv_aload_n hx hb dX3_rewind_0 rfl (lv_at hl 0 rfl) ?_
  refine lv_iconst (v := zI 0) hx hb dX3_rewind_1 rfl ?_
  refine z_put hx hb hown hts w inX3 tyX3 tyX3_ok nmX3 0 2 rfl rfl (by decide) f_19 rfl rfl (ty := .int) rfl rfl rfl (Nat.le_of_ble_eq_true rfl) dX3_rewind_2 (fun H locs w => ?_)
  have w : zW D A s.heap s [(hpd9, .inr (3, [.ref htx, .int (zI (((pl : Nat) : Int))), .int (zI (0)), .int (zI (((kk : Nat) : Int))), .ref hnu, .int (zI (((rd : Nat) : Int)))]))] H locs := w
  exact z_vret hx hb hr hlocks w dX3_rewind_5 rfl
set_option maxHeartbeats 6000000 in
set_option maxRecDepth 100000 in
theorem c_X3_firstFault (l : Launch) (D : zD) (adK adV : Nat → Nat) (hpd9 htx hnu : Nat) (pl a kk rd : Nat) (T : Nat → Nat) (Q : Nat → Int) (hT : OkT T pl) (hQB : QB Q) : zM l yX3_firstFault wsX3_firstFault (zR (6)) (zES adK adV [(hpd9, .inr (3, [.ref htx, .int (zI (((pl : Nat) : Int))), .int (zI (((a : Nat) : Int))), .int (zI (((kk : Nat) : Int))), .ref hnu, .int (zI (((rd : Nat) : Int)))])), (htx, .inl (D.2 2, 80, .inl (fT T))), (hnu, .inl (D.2 0, 4, .inl (fQ Q)))]) D [.ref hpd9] [(hpd9, .inr (3, [.ref htx, .int (zI (((pl : Nat) : Int))), .int (zI (((a : Nat) : Int))), .int (zI (((kk : Nat) : Int))), .ref hnu, .int (zI (((rd : Nat) : Int)))])), (htx, .inl (D.2 2, 80, .inl (fT T))), (hnu, .inl (D.2 0, 4, .inl (fQ Q)))] (zQi D (fun r W1 => r = zI (tF T pl) ∧ ∃ a2 k2 r2 Q2, a2 ≤ pl ∧ QB Q2 ∧ W1 = [(hpd9, .inr (3, [.ref htx, .int (zI (((pl : Nat) : Int))), .int (zI (((a2 : Nat) : Int))), .int (zI (((k2 : Nat) : Int))), .ref hnu, .int (zI (((r2 : Nat) : Int)))])), (htx, .inl (D.2 2, 80, .inl (fT T))), (hnu, .inl (D.2 0, 4, .inl (fQ Q2)))])) := by
  refine zM.ofS (cc := cX3_firstFault) (maxL := 2) (ret := (some .int)) (by decide) rfl (Nat.le_of_ble_eq_true rfl) ?_
  intro p e s m below meth c A hx hb hml hown hts hr hlocks hT0 hnm w ls hl
  have hown : s.vm.findClass RX3 = some m.cls := hown
  have hl : lv_has ls 2 [(0, .ref hpd9)] := hl
  have f_19 : (Cond.fieldLink RX3 19 "RelaxedSteps$Pad" "at" "I").before _ s = true := hts _ (by decide +kernel)
  have inX3 : ∀ w ∈ u_ws RX3 TX3 6, w ∈ wsX3_firstFault := by decide +kernel
  have hpl := hT.1
  have w : zW D A s.heap s [(hpd9, .inr (3, [.ref htx, .int (zI (((pl : Nat) : Int))), .int (zI (((a : Nat) : Int))), .int (zI (((kk : Nat) : Int))), .ref hnu, .int (zI (((rd : Nat) : Int)))])), (htx, .inl (D.2 2, 80, .inl (fT T))), (hnu, .inl (D.2 0, 4, .inl (fQ Q)))] s.heap [] := w
  refine lv_aload_n hx hb dX3_firstFault_0 rfl (lv_at hl 0 rfl) ?_
  refine z_V_v (As := []) (rest := []) (Wr := [(htx, .inl (D.2 2, 80, .inl (fT T))), (hnu, .inl (D.2 0, 4, .inl (fQ Q)))]) ⟨hx, hb, hml, hown, hts⟩ (c_X3_rewind l D hpd9 htx hnu pl a kk rd) (cwV 0 hts gX3_firstFault_X3_rewind rfl rfl rfl (by decide +kernel) ⟨Nat.le_of_ble_eq_true rfl, Nat.le_of_ble_eq_true rfl⟩) w (q0 := 0) rfl rfl rfl [0] rfl (by decide) [1, 2] rfl (by decide) (by decide) rfl hl.1 rfl (lv_room (Nat.le_of_ble_eq_true rfl)) dX3_firstFault_1 ⟨Nat.zero_le _, Nat.zero_le _⟩ (fun W1 H locs hp w => ?_)
  subst hp
  have w : zW D A s.heap s [(hpd9, .inr (3, [.ref htx, .int (zI (((pl : Nat) : Int))), .int (zI (0)), .int (zI (((kk : Nat) : Int))), .ref hnu, .int (zI (((rd : Nat) : Int)))])), (htx, .inl (D.2 2, 80, .inl (fT T))), (hnu, .inl (D.2 0, 4, .inl (fQ Q)))] H locs := w.sub [2, 0, 1] (by decide) rfl
  refine lv_iconst (v := zI 0) hx hb dX3_firstFault_4 rfl ?_
  refine lv_istore_n (lv' := [(1, .int (zI (0))), (0, .ref hpd9)]) hx hb dX3_firstFault_5 rfl hl (by decide) rfl (fun ls hl => ?_)
  have lp_6 : ∀ (n_6 : Nat) (od1 : Nat) (n8 : Nat) (a1 : Nat) (kk1 : Nat) (rd1 : Nat) (Q1 : Nat → Int) (x1 : Int) , 80 - od1 < n_6 → (a1 ≤ pl) → (od1 ≤ a1) → ((a1 = 0 ∧ n8 = pl + 1) ∨ (0 < a1 ∧ a1 < pl ∧ pl < n8 + a1 + 1)) → (cF T pl n8 a1 = tP T pl (pl + 1) 0) → (QB Q1) → x1 = ((od1 : Nat) : Int) → ∀ (H : Heap) (locs : List Loc) (ls : Array Slot), zW D A s.heap s [(hpd9, .inr (3, [.ref htx, .int (zI (((pl : Nat) : Int))), .int (zI (((a1 : Nat) : Int))), .int (zI (((kk1 : Nat) : Int))), .ref hnu, .int (zI (((rd1 : Nat) : Int)))])), (htx, .inl (D.2 2, 80, .inl (fT T))), (hnu, .inl (D.2 0, 4, .inl (fQ Q1)))] H locs → lv_has ls 2 [(1, .int (zI (x1))), (0, .ref hpd9)] → W p l e (zR (6)) s m [.ref hpd9].toArray below meth c H locs 0 0 (MQ below ((zQi D (fun r W1 => r = zI (tF T pl) ∧ ∃ a2 k2 r2 Q2, a2 ≤ pl ∧ QB Q2 ∧ W1 = [(hpd9, .inr (3, [.ref htx, .int (zI (((pl : Nat) : Int))), .int (zI (((a2 : Nat) : Int))), .int (zI (((k2 : Nat) : Int))), .ref hnu, .int (zI (((r2 : Nat) : Int)))])), (htx, .inl (D.2 2, 80, .inl (fT T))), (hnu, .inl (D.2 0, 4, .inl (fQ Q2)))])) A) [.ref hpd9].toArray s 0 0 A) (F0 m 6 ls []) := by
    intro n_6
    induction n_6 with
    | zero => intro od1 n8 a1 kk1 rd1 Q1 x1 h_; exact absurd h_ (Nat.not_lt_zero _)
    | succ n_6 ih_6 =>
      intro od1 n8 a1 kk1 rd1 Q1 x1 hf_6 hap1 hod1 hst1 hF hQB1 ex1 H locs ls w hl
      subst ex1
      have hl : lv_has ls 2 [(1, .int (zI (((od1 : Nat) : Int)))), (0, .ref hpd9)] := hl
      refine lv_iload_n hx hb dX3_firstFault_6 rfl (lv_at hl 0 rfl) ?_
      refine lv_bipush (v := zI 80) hx hb dX3_firstFault_7 (by decide +kernel) ?_
      refine z_icmp_ge (tgt := 35) hx hb (by omega) (by omega) dX3_firstFault_9 (by decide) (fun c9 => ?_) (fun c9 => ?_)
      · skip
        exact absurd c9 (by omega)
      · skip
        refine lv_aload_n hx hb dX3_firstFault_12 rfl (lv_at hl 1 rfl) ?_
        by_cases ea0 : a1 = 0
        · skip
          obtain ⟨m9, rfl⟩ : ∃ m9, n8 = m9 + 1 := ⟨n8 - 1, by omega⟩
          have hF2 : tP T pl (m9 + 1) a1 = tP T pl (pl + 1) 0 := by rw [← hF]; exact (cF_0 ea0).symm
          refine z_fin_i (Wr := []) (zRunV (As := []) (rest := []) ⟨hx, hb, hml, hown, hts⟩ (c_X3_readOrder0 l D adK adV hpd9 htx hnu pl a1 kk1 rd1 T Q1 hT (by omega) ea0) (cwV 0 hts gX3_firstFault_X3_readOrder rfl rfl rfl (by decide +kernel) ⟨Nat.le_of_ble_eq_true rfl, Nat.le_of_ble_eq_true rfl⟩) w zES_b (zES_h hT0 w [0, 1, 2] rfl (by decide)) (q0 := 0) rfl rfl rfl [0, 1, 2] rfl (by decide) rfl hl.1 rfl (lv_room (Nat.le_of_ble_eq_true rfl)) dX3_firstFault_13 ⟨Nat.zero_le _, Nat.zero_le _⟩) w [0, 1, 2] rfl [] rfl (by decide) (by decide) (fun r W1 H locs hp w => ?_)
          obtain ⟨rfl, e9⟩ := hp; rw [oQ_at.2] at e9; subst e9
          have w : zW D A s.heap s [(hpd9, .inr (3, [.ref htx, .int (zI (((pl : Nat) : Int))), .int (zI (((oE T pl a1 : Nat) : Int))), .int (zI (((cA T pl a1 : Nat) : Int))), .ref hnu, .int (zI ((((rP T pl (shL (kI (cA T pl a1))) a1 0 Q1).2.2.1 : Nat) : Int)))])), (htx, .inl (D.2 2, 80, .inl (fT T))), (hnu, .inl (D.2 0, 4, .inl (fQ ((rP T pl (shL (kI (cA T pl a1))) a1 0 Q1).2.2.2))))] H locs := w.sub [0, 1, 2] (by decide) rfl
          refine z_if_eq_b (tgt := 35) hx hb dX3_firstFault_16 (by decide) (fun c16 => ?_) (fun c16 => ?_)
          · skip
            have ho : ¬ oOk T pl a1 := fun q => c16 ⟨oQ_at.1.trans q.1, q.2⟩
            rw [tP_no ho] at hF2
            have heb9 := oE_b (T := T) (pl := pl) (b := a1) (by omega)
            have hqb9 : QB (rP T pl (shL (kI (cA T pl a1))) a1 0 Q1).2.2.2 := fun i => rP_val _ _ _ _ hQB1 i
            refine lv_aload_n hx hb dX3_firstFault_35 rfl (lv_at hl 1 rfl) ?_
            refine z_get hx hb hown hts w inX3 0 2 rfl rfl (by decide) f_19 rfl rfl dX3_firstFault_36 ?_
            exact z_iret hx hb hr hlocks w dX3_firstFault_39 ⟨by rw [tF_f hF2], _, _, _, _, heb9.2, hqb9, rfl⟩
          · skip
            have ho : oOk T pl a1 := ⟨oQ_at.1.symm.trans c16.1, c16.2⟩
            have hlt9 := oE_lt (by omega) ho
            have heb9 := oE_b (T := T) (pl := pl) (b := a1) (by omega)
            have hqb9 : QB (rP T pl (shL (kI (cA T pl a1))) a1 0 Q1).2.2.2 := fun i => rP_val _ _ _ _ hQB1 i
            refine lv_aload_n hx hb dX3_firstFault_19 rfl (lv_at hl 1 rfl) ?_
            refine z_V_i (As := []) (rest := []) (Wr := [(htx, .inl (D.2 2, 80, .inl (fT T))), (hnu, .inl (D.2 0, 4, .inl (fQ ((rP T pl (shL (kI (cA T pl a1))) a1 0 Q1).2.2.2))))]) ⟨hx, hb, hml, hown, hts⟩ (c_X3_hasMore l D hpd9 htx hnu pl (oE T pl a1) (cA T pl a1) ((rP T pl (shL (kI (cA T pl a1))) a1 0 Q1).2.2.1) (by omega) (by omega)) (cwV 0 hts gX3_firstFault_X3_hasMore rfl rfl rfl (by decide +kernel) ⟨Nat.le_of_ble_eq_true rfl, Nat.le_of_ble_eq_true rfl⟩) w (q0 := 0) rfl rfl rfl [0] rfl (by decide) [1, 2] rfl (by decide) (by decide) rfl hl.1 rfl (lv_room (Nat.le_of_ble_eq_true rfl)) dX3_firstFault_20 ⟨Nat.zero_le _, Nat.zero_le _⟩ (fun r W1 H locs hp w => ?_)
            obtain ⟨rfl, rfl⟩ := hp
            have w : zW D A s.heap s [(hpd9, .inr (3, [.ref htx, .int (zI (((pl : Nat) : Int))), .int (zI (((oE T pl a1 : Nat) : Int))), .int (zI (((cA T pl a1 : Nat) : Int))), .ref hnu, .int (zI ((((rP T pl (shL (kI (cA T pl a1))) a1 0 Q1).2.2.1 : Nat) : Int)))])), (htx, .inl (D.2 2, 80, .inl (fT T))), (hnu, .inl (D.2 0, 4, .inl (fQ ((rP T pl (shL (kI (cA T pl a1))) a1 0 Q1).2.2.2))))] H locs := w.sub [2, 0, 1] (by decide) rfl
            refine z_if_ne_b (tgt := 29) hx hb dX3_firstFault_23 (by decide) (fun c23 => ?_) (fun c23 => ?_)
            · skip
              refine z_iinc (lv' := [(1, .int (zI (((od1 : Nat) : Int) + 1))), (0, .ref hpd9)]) hx hb dX3_firstFault_29 hl (k := 0) rfl (by decide) rfl (fun ls hl => ?_)
              refine lv_goto (tgt := 6) hx hb dX3_firstFault_32 (by decide) ?_
              exact ih_6 (od1 + 1) m9 (oE T pl a1) (cA T pl a1) ((rP T pl (shL (kI (cA T pl a1))) a1 0 Q1).2.2.1) ((rP T pl (shL (kI (cA T pl a1))) a1 0 Q1).2.2.2) _ (by omega) (by omega) (by omega) (by omega) ((cF_go (by omega) ho (by omega)).trans hF2) hqb9 (by first | rfl | omega) _ _ _ w (lv_sub hl [0, 1] rfl)
            · skip
              have hend9 := tF_end hF2 ho (by omega)
              refine lv_bipush (v := zI (-6)) hx hb dX3_firstFault_26 (by decide +kernel) ?_
              exact z_iret hx hb hr hlocks w dX3_firstFault_28 ⟨by rw [hend9], _, _, _, _, heb9.2, hqb9, rfl⟩
        · skip
          by_cases e59 : cA T pl a1 = 59
          · skip
            have hal9 := cA_lt (T := T) (pl := pl) (a := a1) (by omega)
            obtain ⟨m9, rfl⟩ : ∃ m9, n8 = m9 + 1 := ⟨n8 - 1, by omega⟩
            have hF2 : tP T pl (m9 + 1) (a1 + 1) = tP T pl (pl + 1) 0 := by rw [← hF]; exact (cF_s ea0 e59).symm
            refine z_fin_i (Wr := []) (zRunV (As := []) (rest := []) ⟨hx, hb, hml, hown, hts⟩ (c_X3_readOrderS l D adK adV hpd9 htx hnu pl a1 kk1 rd1 T Q1 hT (by omega) (by omega) e59) (cwV 0 hts gX3_firstFault_X3_readOrder rfl rfl rfl (by decide +kernel) ⟨Nat.le_of_ble_eq_true rfl, Nat.le_of_ble_eq_true rfl⟩) w zES_b (zES_h hT0 w [0, 1, 2] rfl (by decide)) (q0 := 0) rfl rfl rfl [0, 1, 2] rfl (by decide) rfl hl.1 rfl (lv_room (Nat.le_of_ble_eq_true rfl)) dX3_firstFault_13 ⟨Nat.zero_le _, Nat.zero_le _⟩) w [0, 1, 2] rfl [] rfl (by decide) (by decide) (fun r W1 H locs hp w => ?_)
            obtain ⟨rfl, e9⟩ := hp; rw [oQ_at.2] at e9; subst e9
            have w : zW D A s.heap s [(hpd9, .inr (3, [.ref htx, .int (zI (((pl : Nat) : Int))), .int (zI (((oE T pl (a1 + 1) : Nat) : Int))), .int (zI (((cA T pl (a1 + 1) : Nat) : Int))), .ref hnu, .int (zI ((((rP T pl (shL (kI (cA T pl (a1 + 1)))) (a1 + 1) 0 Q1).2.2.1 : Nat) : Int)))])), (htx, .inl (D.2 2, 80, .inl (fT T))), (hnu, .inl (D.2 0, 4, .inl (fQ ((rP T pl (shL (kI (cA T pl (a1 + 1)))) (a1 + 1) 0 Q1).2.2.2))))] H locs := w.sub [0, 1, 2] (by decide) rfl
            refine z_if_eq_b (tgt := 35) hx hb dX3_firstFault_16 (by decide) (fun c16 => ?_) (fun c16 => ?_)
            · skip
              have ho : ¬ oOk T pl (a1 + 1) := fun q => c16 ⟨oQ_at.1.trans q.1, q.2⟩
              rw [tP_no ho] at hF2
              have heb9 := oE_b (T := T) (pl := pl) (b := a1 + 1) (by omega)
              have hqb9 : QB (rP T pl (shL (kI (cA T pl (a1 + 1)))) (a1 + 1) 0 Q1).2.2.2 := fun i => rP_val _ _ _ _ hQB1 i
              refine lv_aload_n hx hb dX3_firstFault_35 rfl (lv_at hl 1 rfl) ?_
              refine z_get hx hb hown hts w inX3 0 2 rfl rfl (by decide) f_19 rfl rfl dX3_firstFault_36 ?_
              exact z_iret hx hb hr hlocks w dX3_firstFault_39 ⟨by rw [tF_f hF2], _, _, _, _, heb9.2, hqb9, rfl⟩
            · skip
              have ho : oOk T pl (a1 + 1) := ⟨oQ_at.1.symm.trans c16.1, c16.2⟩
              have hlt9 := oE_lt (by omega) ho
              have heb9 := oE_b (T := T) (pl := pl) (b := a1 + 1) (by omega)
              have hqb9 : QB (rP T pl (shL (kI (cA T pl (a1 + 1)))) (a1 + 1) 0 Q1).2.2.2 := fun i => rP_val _ _ _ _ hQB1 i
              refine lv_aload_n hx hb dX3_firstFault_19 rfl (lv_at hl 1 rfl) ?_
              refine z_V_i (As := []) (rest := []) (Wr := [(htx, .inl (D.2 2, 80, .inl (fT T))), (hnu, .inl (D.2 0, 4, .inl (fQ ((rP T pl (shL (kI (cA T pl (a1 + 1)))) (a1 + 1) 0 Q1).2.2.2))))]) ⟨hx, hb, hml, hown, hts⟩ (c_X3_hasMore l D hpd9 htx hnu pl (oE T pl (a1 + 1)) (cA T pl (a1 + 1)) ((rP T pl (shL (kI (cA T pl (a1 + 1)))) (a1 + 1) 0 Q1).2.2.1) (by omega) (by omega)) (cwV 0 hts gX3_firstFault_X3_hasMore rfl rfl rfl (by decide +kernel) ⟨Nat.le_of_ble_eq_true rfl, Nat.le_of_ble_eq_true rfl⟩) w (q0 := 0) rfl rfl rfl [0] rfl (by decide) [1, 2] rfl (by decide) (by decide) rfl hl.1 rfl (lv_room (Nat.le_of_ble_eq_true rfl)) dX3_firstFault_20 ⟨Nat.zero_le _, Nat.zero_le _⟩ (fun r W1 H locs hp w => ?_)
              obtain ⟨rfl, rfl⟩ := hp
              have w : zW D A s.heap s [(hpd9, .inr (3, [.ref htx, .int (zI (((pl : Nat) : Int))), .int (zI (((oE T pl (a1 + 1) : Nat) : Int))), .int (zI (((cA T pl (a1 + 1) : Nat) : Int))), .ref hnu, .int (zI ((((rP T pl (shL (kI (cA T pl (a1 + 1)))) (a1 + 1) 0 Q1).2.2.1 : Nat) : Int)))])), (htx, .inl (D.2 2, 80, .inl (fT T))), (hnu, .inl (D.2 0, 4, .inl (fQ ((rP T pl (shL (kI (cA T pl (a1 + 1)))) (a1 + 1) 0 Q1).2.2.2))))] H locs := w.sub [2, 0, 1] (by decide) rfl
              refine z_if_ne_b (tgt := 29) hx hb dX3_firstFault_23 (by decide) (fun c23 => ?_) (fun c23 => ?_)
              · skip
                refine z_iinc (lv' := [(1, .int (zI (((od1 : Nat) : Int) + 1))), (0, .ref hpd9)]) hx hb dX3_firstFault_29 hl (k := 0) rfl (by decide) rfl (fun ls hl => ?_)
                refine lv_goto (tgt := 6) hx hb dX3_firstFault_32 (by decide) ?_
                exact ih_6 (od1 + 1) m9 (oE T pl (a1 + 1)) (cA T pl (a1 + 1)) ((rP T pl (shL (kI (cA T pl (a1 + 1)))) (a1 + 1) 0 Q1).2.2.1) ((rP T pl (shL (kI (cA T pl (a1 + 1)))) (a1 + 1) 0 Q1).2.2.2) _ (by omega) (by omega) (by omega) (by omega) ((cF_go (by omega) ho (by omega)).trans hF2) hqb9 (by first | rfl | omega) _ _ _ w (lv_sub hl [0, 1] rfl)
              · skip
                have hend9 := tF_end hF2 ho (by omega)
                refine lv_bipush (v := zI (-6)) hx hb dX3_firstFault_26 (by decide +kernel) ?_
                exact z_iret hx hb hr hlocks w dX3_firstFault_28 ⟨by rw [hend9], _, _, _, _, heb9.2, hqb9, rfl⟩
          · skip
            have hF3 : (false, a1) = tP T pl (pl + 1) 0 := by rw [← hF]; exact (cF_n ea0 e59).symm
            refine z_fin_i (Wr := []) (zRunV (As := []) (rest := []) ⟨hx, hb, hml, hown, hts⟩ (c_X3_readOrderN l D adK adV hpd9 htx hnu pl a1 kk1 rd1 T Q1 hT (by omega) (by omega) e59) (cwV 0 hts gX3_firstFault_X3_readOrder rfl rfl rfl (by decide +kernel) ⟨Nat.le_of_ble_eq_true rfl, Nat.le_of_ble_eq_true rfl⟩) w zES_b (zES_h hT0 w [0, 1, 2] rfl (by decide)) (q0 := 0) rfl rfl rfl [0, 1, 2] rfl (by decide) rfl hl.1 rfl (lv_room (Nat.le_of_ble_eq_true rfl)) dX3_firstFault_13 ⟨Nat.zero_le _, Nat.zero_le _⟩) w [0, 1, 2] rfl [] rfl (by decide) (by decide) (fun r W1 H locs hp w => ?_)
            obtain ⟨rfl, rfl⟩ := hp
            have w : zW D A s.heap s [(hpd9, .inr (3, [.ref htx, .int (zI (((pl : Nat) : Int))), .int (zI (((a1 : Nat) : Int))), .int (zI (((kk1 : Nat) : Int))), .ref hnu, .int (zI (((rd1 : Nat) : Int)))])), (htx, .inl (D.2 2, 80, .inl (fT T))), (hnu, .inl (D.2 0, 4, .inl (fQ Q1)))] H locs := w.sub [0, 1, 2] (by decide) rfl
            refine z_if_eq (tgt := 35) hx hb (by omega) dX3_firstFault_16 (by decide) (fun c16 => ?_) (fun c16 => ?_)
            · skip
              refine lv_aload_n hx hb dX3_firstFault_35 rfl (lv_at hl 1 rfl) ?_
              refine z_get hx hb hown hts w inX3 0 2 rfl rfl (by decide) f_19 rfl rfl dX3_firstFault_36 ?_
              exact z_iret hx hb hr hlocks w dX3_firstFault_39 ⟨by rw [tF_f hF3], _, _, _, _, hap1, hQB1, rfl⟩
            · skip
              exact absurd c16 (by omega)
  exact lp_6 ((80 - 0) + 1) 0 (pl + 1) 0 kk rd Q _ (by omega) (by omega) (by omega) (Or.inl ⟨rfl, rfl⟩) (cF_0 rfl) hQB (by first | rfl | omega) _ _ _ w (lv_sub hl [0, 1] rfl)
