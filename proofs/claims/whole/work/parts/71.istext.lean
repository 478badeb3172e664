set_option maxHeartbeats 6000000 in
set_option maxRecDepth 100000 in
theorem c_X7_isText (l : Launch) (D : zD) (hmo ha hth hpa hsl hhe hpd hor c9 : Nat) (pl a od : Nat) (T : Nat → Nat) (Q : Nat → Int) (hT : OkT T pl) (hQB : QB Q) : zM l yX7_isText wsX7_isText (zR (4)) zE0 D [.ref hmo] [(hmo, .inr (7, [.ref ha, .ref hth, .ref hpa, .int (zI (((c9 : Nat) : Int))), .ref hsl, .ref hhe, .ref hpd, .int (zI (((pl : Nat) : Int))), .int (zI (((a : Nat) : Int))), .ref hor, .int (zI (((od : Nat) : Int)))])), (hpd, .inl (D.2 0, 80, .inl (fT T))), (hor, .inl (D.2 0, 205, .inl (fQ Q)))] (zQi D (fun r W1 => r = zI (zb ((tP T pl (pl + 1) 0).1 = true)) ∧ ∃ o2 Q2, QB Q2 ∧ ((tP T pl (pl + 1) 0).1 = true → o2 = (sts T pl (pl + 1) 0).length ∧ ∀ k, k < o2 → oAt T pl Q2 k ((sts T pl (pl + 1) 0).getD k 0)) ∧ W1 = [(hmo, .inr (7, [.ref ha, .ref hth, .ref hpa, .int (zI (((c9 : Nat) : Int))), .ref hsl, .ref hhe, .ref hpd, .int (zI (((pl : Nat) : Int))), .int (zI (((((tP T pl (pl + 1) 0).2) : Nat) : Int))), .ref hor, .int (zI (((o2 : Nat) : Int)))])), (hpd, .inl (D.2 0, 80, .inl (fT T))), (hor, .inl (D.2 0, 205, .inl (fQ Q2)))])) := by
  refine zM.of (cc := cX7_isText) (maxL := 2) (ret := (some .boolean)) (by decide) rfl (Nat.le_of_ble_eq_true rfl) ?_
  intro p e s m below meth c A hx hb hml hown hts hr hlocks hE hnm w ls hl
  have hown : s.vm.findClass RX7 = some m.cls := hown
  have hl : lv_has ls 2 [(0, .ref hmo)] := hl
  have f_176 : (Cond.fieldLink RX7 176 "RelaxedStepsModel" "at" "I").before _ s = true := hts _ (by decide +kernel)
  have f_183 : (Cond.fieldLink RX7 183 "RelaxedStepsModel" "ordered" "I").before _ s = true := hts _ (by decide +kernel)
  have f_158 : (Cond.fieldLink RX7 158 "RelaxedStepsModel" "padded" "I").before _ s = true := hts _ (by decide +kernel)
  have inX7 : ∀ w ∈ u_ws RX7 TX7 11, w ∈ wsX7_isText := by decide +kernel
  have hpl := hT.1
  have w : zW D A s.heap s [(hmo, .inr (7, [.ref ha, .ref hth, .ref hpa, .int (zI (((c9 : Nat) : Int))), .ref hsl, .ref hhe, .ref hpd, .int (zI (((pl : Nat) : Int))), .int (zI (((a : Nat) : Int))), .ref hor, .int (zI (((od : Nat) : Int)))])), (hpd, .inl (D.2 0, 80, .inl (fT T))), (hor, .inl (D.2 0, 205, .inl (fQ Q)))] s.heap [] := w
  refine lv_aload_n hx hb dX7_isText_0 rfl (lv_at hl 0 rfl) ?_
  refine lv_iconst (v := zI 0) hx hb dX7_isText_1 rfl ?_
  refine z_put hx hb hown hts w inX7 tyX7 tyX7_ok nmX7 0 8 rfl rfl (by decide) f_176 rfl rfl (ty := .int) rfl rfl rfl (Nat.le_of_ble_eq_true rfl) dX7_isText_2 (fun H locs w => ?_)
  have w : zW D A s.heap s [(hmo, .inr (7, [.ref ha, .ref hth, .ref hpa, .int (zI (((c9 : Nat) : Int))), .ref hsl, .ref hhe, .ref hpd, .int (zI (((pl : Nat) : Int))), .int (zI (0)), .ref hor, .int (zI (((od : Nat) : Int)))])), (hpd, .inl (D.2 0, 80, .inl (fT T))), (hor, .inl (D.2 0, 205, .inl (fQ Q)))] H locs := w
  refine lv_aload_n hx hb dX7_isText_5 rfl (lv_at hl 0 rfl) ?_
  refine lv_iconst (v := zI 0) hx hb dX7_isText_6 rfl ?_
  refine z_put hx hb hown hts w inX7 tyX7 tyX7_ok nmX7 0 10 rfl rfl (by decide) f_183 rfl rfl (ty := .int) rfl rfl rfl (Nat.le_of_ble_eq_true rfl) dX7_isText_7 (fun H locs w => ?_)
  have w : zW D A s.heap s [(hmo, .inr (7, [.ref ha, .ref hth, .ref hpa, .int (zI (((c9 : Nat) : Int))), .ref hsl, .ref hhe, .ref hpd, .int (zI (((pl : Nat) : Int))), .int (zI (0)), .ref hor, .int (zI (0))])), (hpd, .inl (D.2 0, 80, .inl (fT T))), (hor, .inl (D.2 0, 205, .inl (fQ Q)))] H locs := w
  refine lv_iconst (v := zI 1) hx hb dX7_isText_10 rfl ?_
  refine lv_istore_n (lv' := [(1, .int (zI (1))), (0, .ref hmo)]) hx hb dX7_isText_11 rfl hl (by decide) rfl (fun ls hl => ?_)
  have lp_12 : ∀ (n_12 : Nat) (od1 : Nat) (n8 : Nat) (b1 : Nat) (Q1 : Nat → Int) , n8 < n_12 → (b1 ≤ pl) → (pl < n8 + b1) → (2 * od1 ≤ b1) → (tP T pl n8 b1 = tP T pl (pl + 1) 0) → (sts T pl n8 b1 = (sts T pl (pl + 1) 0).drop od1) → (∀ k, k < od1 → oAt T pl Q1 k ((sts T pl (pl + 1) 0).getD k 0)) → (QB Q1) → ∀ (H : Heap) (locs : List Loc) (ls : Array Slot), zW D A s.heap s [(hmo, .inr (7, [.ref ha, .ref hth, .ref hpa, .int (zI (((c9 : Nat) : Int))), .ref hsl, .ref hhe, .ref hpd, .int (zI (((pl : Nat) : Int))), .int (zI (((b1 : Nat) : Int))), .ref hor, .int (zI (((od1 : Nat) : Int)))])), (hpd, .inl (D.2 0, 80, .inl (fT T))), (hor, .inl (D.2 0, 205, .inl (fQ Q1)))] H locs → lv_has ls 2 [(1, .int (zI (1))), (0, .ref hmo)] → W p l e (zR (4)) s m [.ref hmo].toArray below meth c H locs 0 0 (MQ below ((zQi D (fun r W1 => r = zI (zb ((tP T pl (pl + 1) 0).1 = true)) ∧ ∃ o2 Q2, QB Q2 ∧ ((tP T pl (pl + 1) 0).1 = true → o2 = (sts T pl (pl + 1) 0).length ∧ ∀ k, k < o2 → oAt T pl Q2 k ((sts T pl (pl + 1) 0).getD k 0)) ∧ W1 = [(hmo, .inr (7, [.ref ha, .ref hth, .ref hpa, .int (zI (((c9 : Nat) : Int))), .ref hsl, .ref hhe, .ref hpd, .int (zI (((pl : Nat) : Int))), .int (zI (((((tP T pl (pl + 1) 0).2) : Nat) : Int))), .ref hor, .int (zI (((o2 : Nat) : Int)))])), (hpd, .inl (D.2 0, 80, .inl (fT T))), (hor, .inl (D.2 0, 205, .inl (fQ Q2)))])) A) [.ref hmo].toArray s 0 0 A) (F0 m 12 ls []) := by
    intro n_12
    induction n_12 with
    | zero => intro od1 n8 b1 Q1 h_; exact absurd h_ (Nat.not_lt_zero _)
    | succ n_12 ih_12 =>
      intro od1 n8 b1 Q1 hf_12 hb1 hn8 hob1 hT1 hS1 hQ1 hQB1  H locs ls w hl
      obtain ⟨m9, rfl⟩ : ∃ m9, n8 = m9 + 1 := ⟨n8 - 1, by omega⟩
      have hl : lv_has ls 2 [(1, .int (zI (1))), (0, .ref hmo)] := hl
      refine lv_iload_n hx hb dX7_isText_12 rfl (lv_at hl 0 rfl) ?_
      refine z_if_eq (tgt := 45) hx hb (by omega) dX7_isText_13 (by decide) (fun c13 => ?_) (fun c13 => ?_)
      · skip
        exact absurd c13 (by omega)
      · skip
        refine lv_aload_n hx hb dX7_isText_16 rfl (lv_at hl 1 rfl) ?_
        refine z_V_i (As := []) (rest := []) (Wr := []) ⟨hx, hb, hml, hown, hts⟩ (c_X7_isOrder l D hmo ha hth hpa hsl hhe hpd hor c9 pl b1 od1 T Q1 hT (by omega) (by omega)) (cwV 0 hts gX7_isText_X7_isOrder rfl rfl rfl (by decide +kernel) ⟨Nat.le_of_ble_eq_true rfl, Nat.le_of_ble_eq_true rfl⟩) w (q0 := 0) rfl rfl rfl [0, 1, 2] rfl (by decide) [] rfl (by decide) (by decide) rfl hl.1 rfl (lv_room (Nat.le_of_ble_eq_true rfl)) dX7_isText_17 ⟨Nat.zero_le _, Nat.zero_le _⟩ (fun r W1 H locs hp w => ?_)
        obtain ⟨rfl, rfl⟩ := hp
        have w : zW D A s.heap s [(hmo, .inr (7, [.ref ha, .ref hth, .ref hpa, .int (zI (((c9 : Nat) : Int))), .ref hsl, .ref hhe, .ref hpd, .int (zI (((pl : Nat) : Int))), .int (zI (((oE T pl b1 : Nat) : Int))), .ref hor, .int (zI (((od1 : Nat) : Int)))])), (hpd, .inl (D.2 0, 80, .inl (fT T))), (hor, .inl (D.2 0, 205, .inl (fQ (rQ5 T pl b1 od1 Q1))))] H locs := w.sub [0, 1, 2] (by decide) rfl
        refine z_if_ne_b (tgt := 25) hx hb dX7_isText_20 (by decide) (fun c20 => ?_) (fun c20 => ?_)
        · skip
          have ho : oOk T pl b1 := c20
          have heb9 := oE_b (T := T) (pl := pl) (b := b1) (by omega)
          have hlt9 := oE_lt (by omega) ho
          refine lv_aload_n hx hb dX7_isText_25 rfl (lv_at hl 1 rfl) ?_
          refine lv_dup hx hb dX7_isText_26 rfl ?_
          refine z_get hx hb hown hts w inX7 0 10 rfl rfl (by decide) f_183 rfl rfl dX7_isText_27 ?_
          refine lv_iconst (v := zI 1) hx hb dX7_isText_30 rfl ?_
          refine z_iadd hx hb dX7_isText_31 ?_
          refine z_put hx hb hown hts w inX7 tyX7 tyX7_ok nmX7 0 10 rfl rfl (by decide) f_183 rfl rfl (ty := .int) rfl rfl rfl (Nat.le_of_ble_eq_true rfl) dX7_isText_32 (fun H locs w => ?_)
          have w : zW D A s.heap s [(hmo, .inr (7, [.ref ha, .ref hth, .ref hpa, .int (zI (((c9 : Nat) : Int))), .ref hsl, .ref hhe, .ref hpd, .int (zI (((pl : Nat) : Int))), .int (zI (((oE T pl b1 : Nat) : Int))), .ref hor, .int (zI (((od1 : Nat) : Int) + 1))])), (hpd, .inl (D.2 0, 80, .inl (fT T))), (hor, .inl (D.2 0, 205, .inl (fQ (rQ5 T pl b1 od1 Q1))))] H locs := w
          refine lv_aload_n hx hb dX7_isText_35 rfl (lv_at hl 1 rfl) ?_
          refine lv_bipush (v := zI 59) hx hb dX7_isText_36 (by decide +kernel) ?_
          by_cases h59 : cA T pl (oE T pl b1) = 59
          · skip
            rw [tP_go ho h59] at hT1
            rw [sts_go ho h59] at hS1
            have hdc := drop_c hS1
            have hal9 := cA_lt (T := T) (pl := pl) (a := oE T pl b1) (by omega)
            have hq9 := oAt_all hQ1 ho hdc.1
            refine z_V_i (As := [.int (zI (59))]) (rest := []) (Wr := []) ⟨hx, hb, hml, hown, hts⟩ (c_X7_isSignY l D hmo ha hth hpa hsl hhe hpd hor c9 pl (oE T pl b1) (od1 + 1) T (rQ5 T pl b1 od1 Q1) hT (by omega) 59 (by omega) h59) (cwV 1 hts gX7_isText_X7_isSign rfl rfl rfl (by decide +kernel) ⟨Nat.le_of_ble_eq_true rfl, Nat.le_of_ble_eq_true rfl⟩) w (q0 := 0) rfl rfl rfl [0, 1, 2] rfl (by decide) [] rfl (by decide) (by decide) rfl hl.1 rfl (lv_room (Nat.le_of_ble_eq_true rfl)) dX7_isText_38 ⟨Nat.zero_le _, Nat.zero_le _⟩ (fun r W1 H locs hp w => ?_)
            obtain ⟨rfl, rfl⟩ := hp
            have w : zW D A s.heap s [(hmo, .inr (7, [.ref ha, .ref hth, .ref hpa, .int (zI (((c9 : Nat) : Int))), .ref hsl, .ref hhe, .ref hpd, .int (zI (((pl : Nat) : Int))), .int (zI ((((oE T pl b1) + 1 : Nat) : Int))), .ref hor, .int (zI (((od1 + 1 : Nat) : Int)))])), (hpd, .inl (D.2 0, 80, .inl (fT T))), (hor, .inl (D.2 0, 205, .inl (fQ (rQ5 T pl b1 od1 Q1))))] H locs := w.sub [0, 1, 2] (by decide) rfl
            refine lv_istore_n (lv' := [(1, .int (zI (1))), (0, .ref hmo)]) hx hb dX7_isText_41 rfl hl (by decide) rfl (fun ls hl => ?_)
            refine lv_goto (tgt := 12) hx hb dX7_isText_42 (by decide) ?_
            exact ih_12 (od1 + 1) m9 ((oE T pl b1) + 1) (rQ5 T pl b1 od1 Q1)  (by omega) (by omega) (by omega) (by omega) hT1 hdc.2.1.symm hq9 (QB_r hQB1 hT)  _ _ _ w (lv_sub hl [0, 1] rfl)
          · skip
            rw [tP_end ho h59] at hT1
            rw [sts_end ho h59] at hS1
            have hdc := drop_c hS1
            have hq9 := oAt_all hQ1 ho hdc.1
            refine z_V_i (As := [.int (zI (59))]) (rest := []) (Wr := []) ⟨hx, hb, hml, hown, hts⟩ (c_X7_isSignN l D hmo ha hth hpa hsl hhe hpd hor c9 pl (oE T pl b1) (od1 + 1) T (rQ5 T pl b1 od1 Q1) hT (by omega) 59 (by omega) h59) (cwV 1 hts gX7_isText_X7_isSign rfl rfl rfl (by decide +kernel) ⟨Nat.le_of_ble_eq_true rfl, Nat.le_of_ble_eq_true rfl⟩) w (q0 := 0) rfl rfl rfl [0, 1, 2] rfl (by decide) [] rfl (by decide) (by decide) rfl hl.1 rfl (lv_room (Nat.le_of_ble_eq_true rfl)) dX7_isText_38 ⟨Nat.zero_le _, Nat.zero_le _⟩ (fun r W1 H locs hp w => ?_)
            obtain ⟨rfl, rfl⟩ := hp
            have w : zW D A s.heap s [(hmo, .inr (7, [.ref ha, .ref hth, .ref hpa, .int (zI (((c9 : Nat) : Int))), .ref hsl, .ref hhe, .ref hpd, .int (zI (((pl : Nat) : Int))), .int (zI (((oE T pl b1 : Nat) : Int))), .ref hor, .int (zI (((od1 : Nat) : Int) + 1))])), (hpd, .inl (D.2 0, 80, .inl (fT T))), (hor, .inl (D.2 0, 205, .inl (fQ (rQ5 T pl b1 od1 Q1))))] H locs := w.sub [0, 1, 2] (by decide) rfl
            refine lv_istore_n (lv' := [(1, .int (zI (0))), (0, .ref hmo)]) hx hb dX7_isText_41 rfl hl (by decide) rfl (fun ls hl => ?_)
            refine lv_goto (tgt := 12) hx hb dX7_isText_42 (by decide) ?_
            refine lv_iload_n hx hb dX7_isText_12 rfl (lv_at hl 0 rfl) ?_
            refine z_if_eq (tgt := 45) hx hb (by omega) dX7_isText_13 (by decide) (fun c13 => ?_) (fun c13 => ?_)
            · skip
              refine lv_aload_n hx hb dX7_isText_45 rfl (lv_at hl 1 rfl) ?_
              refine z_get hx hb hown hts w inX7 0 8 rfl rfl (by decide) f_176 rfl rfl dX7_isText_46 ?_
              refine lv_aload_n hx hb dX7_isText_49 rfl (lv_at hl 1 rfl) ?_
              refine z_get hx hb hown hts w inX7 0 7 rfl rfl (by decide) f_158 rfl rfl dX7_isText_50 ?_
              refine z_icmp_ne (tgt := 60) hx hb (by omega) (by omega) dX7_isText_53 (by decide) (fun c53 => ?_) (fun c53 => ?_)
              · skip
                refine lv_iconst (v := zI 0) hx hb dX7_isText_60 rfl ?_
                exact z_zret hx hb hr hlocks w dX7_isText_61 (by omega) ⟨by rw [← hT1, zb_f (fun q => absurd (of_decide_eq_true q) (by omega))], od1 + 1, rQ5 T pl b1 od1 Q1, QB_r hQB1 hT, fun q => absurd (of_decide_eq_true (by rw [← hT1] at q; exact q)) (by omega), by rw [← hT1]; rfl⟩
              · skip
                refine lv_iconst (v := zI 1) hx hb dX7_isText_56 rfl ?_
                refine lv_goto (tgt := 61) hx hb dX7_isText_57 (by decide) ?_
                exact z_zret hx hb hr hlocks w dX7_isText_61 (by omega) ⟨by rw [← hT1, zb_t (decide_eq_true (by omega))], od1 + 1, rQ5 T pl b1 od1 Q1, QB_r hQB1 hT, fun _ => ⟨by have := hdc.2.2; simp only [List.length_nil] at this; omega, hq9⟩, by rw [← hT1]; rfl⟩
            · skip
              exact absurd c13 (by omega)
        · skip
          rw [tP_no c20] at hT1
          refine lv_iconst (v := zI 0) hx hb dX7_isText_23 rfl ?_
          exact z_zret hx hb hr hlocks w dX7_isText_24 (by omega) ⟨by rw [← hT1, zb_f (fun q => Bool.noConfusion q)], _, _, QB_r hQB1 hT, fun q => absurd (show false = true by rw [← hT1] at q; exact q) (fun q => Bool.noConfusion q), by rw [← hT1]⟩
  exact lp_12 ((pl + 1) + 1) 0 (pl + 1) 0 Q  (by omega) (by omega) (by omega) (by omega) rfl rfl (fun k hk => absurd hk (Nat.not_lt_zero _)) hQB  _ _ _ w (lv_sub hl [0, 1] rfl)
