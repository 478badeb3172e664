set_option maxHeartbeats 6000000 in
set_option maxRecDepth 100000 in
theorem c_X5_stepIntoA (l : Launch) (D : zD) (ho hm hp hw hz h0 h1 h2 hl0 hbu hg : Nat) (S M : Nat → Int) (ru sp so sw si al bb : Int) (G : Nat → Int32) (hok : OkP S) (hokm : OkM M) (hru : 0 ≤ ru ∧ ru ≤ 2) (hsp : 1 ≤ sp ∧ sp ≤ 9999) (hsi : 0 ≤ si ∧ si ≤ 2147483646) (hsw : zB sw) (hhu : zB (sHu sw)) (hhu0 : 0 ≤ sHu sw) : zM l yX5_stepInto wsX5_stepInto (zR 4) zE0 D [.ref ho, .ref hm] ((ho, .inr (5, [.ref hp, .ref hbu, .ref hm, .ref hg, .int (zI (ru)), .int (zI (sp)), .int (zI (so)), .int (zI (sw)), .int (zI (si)), .int (zI (al)), .long (zL (bb))])) :: (hm, .inl (D.2 0, 3, .inl (fMu M))) :: (hg, .inl (D.2 0, 3, .inl (G))) :: (wPk D hp hw hz h0 h1 h2 hl0 S)) (zQv D (fun W1 => W1 = ((ho, .inr (5, [.ref hp, .ref hbu, .ref hm, .ref hg, .int (zI (ru)), .int (zI (sp)), .int (zI (so)), .int (zI (sw)), .int (zI (si)), .int (zI (al)), .long (zL (bb))])) :: (hm, .inl (D.2 0, 3, .inl (fMu (sMo M (sLen ru sp si (sHu sw) (sBd S M) (sSq S M)) (sSlo S M))))) :: (hg, .inl (D.2 0, 3, .inl (fMu (sSlo S M)))) :: (wPk D hp hw hz h0 h1 h2 hl0 S)))) := by
  refine zM.of (cc := cX5_stepInto) (maxL := 10) (ret := none) (by decide) rfl (Nat.le_of_ble_eq_true rfl) ?_
  intro p e s m below meth c A hx hb hml hown hts hr hlocks hE hnm w ls hl
  have hown : s.vm.findClass RX5 = some m.cls := hown
  have hl : lv_has ls 10 [(0, .ref ho), (1, .ref hm)] := hl
  have f_29 : (Cond.fieldLink RX5 29 "RelaxedSteps$State" "slopes" "[I").before _ s = true := hts _ (by decide +kernel)
  have f_25 : (Cond.fieldLink RX5 25 "RelaxedSteps$State" "multipliers" "[I").before _ s = true := hts _ (by decide +kernel)
  have mm_151_l : (Cond.methodLink RX5 151 Lib.MathLoose.min_long.x).before _ s = true := hts _ (by decide +kernel)
  have mm_151_s : (Cond.static Lib.MathLoose.min_long.x).before _ s = true := hts _ (by decide +kernel)
  have mm_151_c : (Cond.code Lib.MathLoose.min_long.x Lib.MathLoose.min_long.code 4 (some .long)).before _ s = true := hts _ (by decide +kernel)
  have mm_151_i : (Cond.initialized "java/lang/Math").before _ s = true := hts _ (by decide +kernel)
  have mm_157_l : (Cond.methodLink RX5 157 Lib.MathLoose.max_long.x).before _ s = true := hts _ (by decide +kernel)
  have mm_157_s : (Cond.static Lib.MathLoose.max_long.x).before _ s = true := hts _ (by decide +kernel)
  have mm_157_c : (Cond.code Lib.MathLoose.max_long.x Lib.MathLoose.max_long.code 4 (some .long)).before _ s = true := hts _ (by decide +kernel)
  have mm_157_i : (Cond.initialized "java/lang/Math").before _ s = true := hts _ (by decide +kernel)
  have inX5 : ∀ w ∈ u_ws RX5 TX5 11, w ∈ wsX5_stepInto := by decide +kernel
  have hn := zn_eq hok
  have h16 := zn_le hok
  have hlim := hok.2.2
  have hokp := hok
  have hbd := sBd_b hok hokm
  have hsq := sSq_b (M := M) hok
  have hrl : sRel S M < 65536 := sRel_16 hok
  have t0 := sSlo_b (M := M) hok (d := 0) (by omega)
  have t1 := sSlo_b (M := M) hok (d := 1) (by omega)
  have t2 := sSlo_b (M := M) hok (d := 2) (by omega)
  have q0 := sq_b t0
  have q1 := sq_b t1
  have q2 := sq_b t2
  have hln := sLen_b (ru := ru) (q := sSq S M) hsp hsi.1 hhu0 hbd
  have lm0 := lm_b hln t0
  have lm1 := lm_b hln t1
  have lm2 := lm_b hln t2
  have hm1 := hokm
  unfold OkM at hm1
  have w : zW D A s.heap s [(ho, .inr (5, [.ref hp, .ref hbu, .ref hm, .ref hg, .int (zI (ru)), .int (zI (sp)), .int (zI (so)), .int (zI (sw)), .int (zI (si)), .int (zI (al)), .long (zL (bb))])), (hm, .inl (D.2 0, 3, .inl (fMu M))), (hg, .inl (D.2 0, 3, .inl (G))), (hp, .inr (2, [.ref hw, .ref hz, .ref hl0, .int (zI (S 0))])), (hw, .inl (D.2 0, 16, .inl (fC S 0))), (hz, .inl (D.2 5, 3, .inr (.inr (.inr (.inr (f3 h0 h1 h2)))))), (h0, .inl (D.2 0, 16, .inl (fC S 1))), (h1, .inl (D.2 0, 16, .inl (fC S 2))), (h2, .inl (D.2 0, 16, .inl (fC S 3))), (hl0, .inl (D.2 0, 3, .inl (fLm S)))] s.heap [] := w
  refine lv_aload_n hx hb dX5_stepInto_0 rfl (lv_at hl 0 rfl) ?_
  refine z_V_i (As := []) (rest := []) (Wr := [(hg, .inl (D.2 0, 3, .inl (G)))]) ⟨hx, hb, hml, hown, hts⟩ (c_X5_relaxedSet l D ho hm hp hw hz h0 h1 h2 hl0 hbu hg S M ru sp so sw si al bb hokp hokm) (cwV 0 hts gX5_stepInto_X5_relaxedSet rfl rfl rfl (by decide +kernel) ⟨Nat.le_of_ble_eq_true rfl, Nat.le_of_ble_eq_true rfl⟩) w (q0 := 0) rfl rfl rfl [0, 1, 3, 4, 5, 6, 7, 8, 9] rfl (by decide) [2] rfl (by decide) (by decide) rfl hl.1 rfl (lv_room (Nat.le_of_ble_eq_true rfl)) dX5_stepInto_1 ⟨Nat.zero_le _, Nat.zero_le _⟩ (fun r W1 H locs hp w => ?_)
  obtain ⟨rfl, rfl⟩ := hp
  have w : zW D A s.heap s [(ho, .inr (5, [.ref hp, .ref hbu, .ref hm, .ref hg, .int (zI (ru)), .int (zI (sp)), .int (zI (so)), .int (zI (sw)), .int (zI (si)), .int (zI (al)), .long (zL (bb))])), (hm, .inl (D.2 0, 3, .inl (fMu M))), (hg, .inl (D.2 0, 3, .inl (G))), (hp, .inr (2, [.ref hw, .ref hz, .ref hl0, .int (zI (S 0))])), (hw, .inl (D.2 0, 16, .inl (fC S 0))), (hz, .inl (D.2 5, 3, .inr (.inr (.inr (.inr (f3 h0 h1 h2)))))), (h0, .inl (D.2 0, 16, .inl (fC S 1))), (h1, .inl (D.2 0, 16, .inl (fC S 2))), (h2, .inl (D.2 0, 16, .inl (fC S 3))), (hl0, .inl (D.2 0, 3, .inl (fLm S)))] H locs := w.sub [1, 2, 0, 3, 4, 5, 6, 7, 8, 9] (by decide) rfl
  refine lv_istore_n (lv' := [(2, .int (zI (((sRel S M : Nat) : Int)))), (0, .ref ho), (1, .ref hm)]) hx hb dX5_stepInto_4 rfl hl (by decide) rfl (fun ls hl => ?_)
  refine lv_lconst (v := zL 0) hx hb dX5_stepInto_5 rfl ?_
  refine lv_lstore_n (lv' := [(3, .long (zL (0))), (2, .int (zI (((sRel S M : Nat) : Int)))), (0, .ref ho), (1, .ref hm)]) hx hb dX5_stepInto_6 rfl hl (by decide) rfl (fun ls hl => ?_)
  refine lv_iconst (v := zI 0) hx hb dX5_stepInto_7 rfl ?_
  refine lv_istore (lv' := [(5, .int (zI (0))), (3, .long (zL (0))), (2, .int (zI (((sRel S M : Nat) : Int)))), (0, .ref ho), (1, .ref hm)]) hx hb dX5_stepInto_8 hl (by decide) rfl (fun ls hl => ?_)
  refine lv_iload hx hb dX5_stepInto_10 (lv_at hl 0 rfl) ?_
  refine lv_iconst (v := zI 3) hx hb dX5_stepInto_12 rfl ?_
  refine z_icmp_ge (tgt := 49) hx hb (by omega) (by omega) dX5_stepInto_13 (by decide) (fun c13 => ?_) (fun c13 => ?_)
  · skip
    exact absurd c13 (by omega)
  · skip
    refine lv_aload_n hx hb dX5_stepInto_16 rfl (lv_at hl 3 rfl) ?_
    refine lv_iload hx hb dX5_stepInto_17 (lv_at hl 0 rfl) ?_
    refine lv_iload_n hx hb dX5_stepInto_19 rfl (lv_at hl 2 rfl) ?_
    refine z_V_i (As := [.int (zI (0)), .int (zI (((sRel S M : Nat) : Int)))]) (rest := []) (Wr := [(hg, .inl (D.2 0, 3, .inl (G)))]) ⟨hx, hb, hml, hown, hts⟩ (c_X5_slope0 l D ho hm hp hw hz h0 h1 h2 hl0 hbu hg S M ru sp so sw si al bb hokp (sRel S M) (by omega)) (cwV 2 hts gX5_stepInto_X5_slope rfl rfl rfl (by decide +kernel) ⟨Nat.le_of_ble_eq_true rfl, Nat.le_of_ble_eq_true rfl⟩) w (q0 := 0) rfl rfl rfl [0, 1, 3, 4, 5, 6, 7, 8, 9] rfl (by decide) [2] rfl (by decide) (by decide) rfl hl.1 rfl (lv_room (Nat.le_of_ble_eq_true rfl)) dX5_stepInto_20 ⟨Nat.zero_le _, Nat.zero_le _⟩ (fun r W1 H locs hp w => ?_)
    obtain ⟨rfl, rfl⟩ := hp
    have w : zW D A s.heap s [(ho, .inr (5, [.ref hp, .ref hbu, .ref hm, .ref hg, .int (zI (ru)), .int (zI (sp)), .int (zI (so)), .int (zI (sw)), .int (zI (si)), .int (zI (al)), .long (zL (bb))])), (hm, .inl (D.2 0, 3, .inl (fMu M))), (hg, .inl (D.2 0, 3, .inl (G))), (hp, .inr (2, [.ref hw, .ref hz, .ref hl0, .int (zI (S 0))])), (hw, .inl (D.2 0, 16, .inl (fC S 0))), (hz, .inl (D.2 5, 3, .inr (.inr (.inr (.inr (f3 h0 h1 h2)))))), (h0, .inl (D.2 0, 16, .inl (fC S 1))), (h1, .inl (D.2 0, 16, .inl (fC S 2))), (h2, .inl (D.2 0, 16, .inl (fC S 3))), (hl0, .inl (D.2 0, 3, .inl (fLm S)))] H locs := w.sub [1, 2, 0, 3, 4, 5, 6, 7, 8, 9] (by decide) rfl
    refine lv_istore (lv' := [(6, .int (zI (sSlo S M 0))), (5, .int (zI (0))), (3, .long (zL (0))), (2, .int (zI (((sRel S M : Nat) : Int)))), (0, .ref ho), (1, .ref hm)]) hx hb dX5_stepInto_23 hl (by decide) rfl (fun ls hl => ?_)
    refine lv_aload_n hx hb dX5_stepInto_25 rfl (lv_at hl 4 rfl) ?_
    refine z_get hx hb hown hts w inX5 0 3 rfl rfl (by decide) f_29 rfl rfl dX5_stepInto_26 ?_
    refine lv_iload hx hb dX5_stepInto_29 (lv_at hl 1 rfl) ?_
    refine lv_iload hx hb dX5_stepInto_31 (lv_at hl 0 rfl) ?_
    refine z_iast hx hb w 2 rfl 0 (by omega) (by decide) rfl dX5_stepInto_33 (upd G 0 (zI (sSlo S M 0))) (fun _ _ => rfl) (fun H locs w => ?_)
    have w : zW D A s.heap s [(ho, .inr (5, [.ref hp, .ref hbu, .ref hm, .ref hg, .int (zI (ru)), .int (zI (sp)), .int (zI (so)), .int (zI (sw)), .int (zI (si)), .int (zI (al)), .long (zL (bb))])), (hm, .inl (D.2 0, 3, .inl (fMu M))), (hg, .inl (D.2 0, 3, .inl (upd G 0 (zI (sSlo S M 0))))), (hp, .inr (2, [.ref hw, .ref hz, .ref hl0, .int (zI (S 0))])), (hw, .inl (D.2 0, 16, .inl (fC S 0))), (hz, .inl (D.2 5, 3, .inr (.inr (.inr (.inr (f3 h0 h1 h2)))))), (h0, .inl (D.2 0, 16, .inl (fC S 1))), (h1, .inl (D.2 0, 16, .inl (fC S 2))), (h2, .inl (D.2 0, 16, .inl (fC S 3))), (hl0, .inl (D.2 0, 3, .inl (fLm S)))] H locs := w
    refine lv_lload_n hx hb dX5_stepInto_34 rfl (lv_at hl 2 rfl) ?_
    refine lv_iload hx hb dX5_stepInto_35 (lv_at hl 0 rfl) ?_
    refine lv_iload hx hb dX5_stepInto_37 (lv_at hl 0 rfl) ?_
    refine z_imul hx hb dX5_stepInto_39 ?_
    refine z_i2l hx hb (by omega) dX5_stepInto_40 ?_
    refine z_ladd hx hb dX5_stepInto_41 ?_
    refine lv_lstore_n (lv' := [(3, .long (zL (0 + ((sSlo S M 0) * (sSlo S M 0))))), (6, .int (zI (sSlo S M 0))), (5, .int (zI (0))), (2, .int (zI (((sRel S M : Nat) : Int)))), (0, .ref ho), (1, .ref hm)]) hx hb dX5_stepInto_42 rfl hl (by decide) rfl (fun ls hl => ?_)
    refine z_iinc (lv' := [(5, .int (zI (0 + 1))), (3, .long (zL (0 + ((sSlo S M 0) * (sSlo S M 0))))), (6, .int (zI (sSlo S M 0))), (2, .int (zI (((sRel S M : Nat) : Int)))), (0, .ref ho), (1, .ref hm)]) hx hb dX5_stepInto_43 hl (k := 2) rfl (by decide) rfl (fun ls hl => ?_)
    have hl : lv_has ls 10 [(5, .int (zI (1))), (3, .long (zL (0 + ((sSlo S M 0) * (sSlo S M 0))))), (6, .int (zI (sSlo S M 0))), (2, .int (zI (((sRel S M : Nat) : Int)))), (0, .ref ho), (1, .ref hm)] := hl
    refine lv_goto (tgt := 10) hx hb dX5_stepInto_46 (by decide) ?_
    refine lv_iload hx hb dX5_stepInto_10 (lv_at hl 0 rfl) ?_
    refine lv_iconst (v := zI 3) hx hb dX5_stepInto_12 rfl ?_
    refine z_icmp_ge (tgt := 49) hx hb (by omega) (by omega) dX5_stepInto_13 (by decide) (fun c13 => ?_) (fun c13 => ?_)
    · skip
      exact absurd c13 (by omega)
    · skip
      refine lv_aload_n hx hb dX5_stepInto_16 rfl (lv_at hl 4 rfl) ?_
      refine lv_iload hx hb dX5_stepInto_17 (lv_at hl 0 rfl) ?_
      refine lv_iload_n hx hb dX5_stepInto_19 rfl (lv_at hl 3 rfl) ?_
      refine z_V_i (As := [.int (zI (1)), .int (zI (((sRel S M : Nat) : Int)))]) (rest := []) (Wr := [(hg, .inl (D.2 0, 3, .inl (upd G 0 (zI (sSlo S M 0)))))]) ⟨hx, hb, hml, hown, hts⟩ (c_X5_slope1 l D ho hm hp hw hz h0 h1 h2 hl0 hbu hg S M ru sp so sw si al bb hokp (sRel S M) (by omega)) (cwV 2 hts gX5_stepInto_X5_slope rfl rfl rfl (by decide +kernel) ⟨Nat.le_of_ble_eq_true rfl, Nat.le_of_ble_eq_true rfl⟩) w (q0 := 0) rfl rfl rfl [0, 1, 3, 4, 5, 6, 7, 8, 9] rfl (by decide) [2] rfl (by decide) (by decide) rfl hl.1 rfl (lv_room (Nat.le_of_ble_eq_true rfl)) dX5_stepInto_20 ⟨Nat.zero_le _, Nat.zero_le _⟩ (fun r W1 H locs hp w => ?_)
      obtain ⟨rfl, rfl⟩ := hp
      have w : zW D A s.heap s [(ho, .inr (5, [.ref hp, .ref hbu, .ref hm, .ref hg, .int (zI (ru)), .int (zI (sp)), .int (zI (so)), .int (zI (sw)), .int (zI (si)), .int (zI (al)), .long (zL (bb))])), (hm, .inl (D.2 0, 3, .inl (fMu M))), (hg, .inl (D.2 0, 3, .inl (upd G 0 (zI (sSlo S M 0))))), (hp, .inr (2, [.ref hw, .ref hz, .ref hl0, .int (zI (S 0))])), (hw, .inl (D.2 0, 16, .inl (fC S 0))), (hz, .inl (D.2 5, 3, .inr (.inr (.inr (.inr (f3 h0 h1 h2)))))), (h0, .inl (D.2 0, 16, .inl (fC S 1))), (h1, .inl (D.2 0, 16, .inl (fC S 2))), (h2, .inl (D.2 0, 16, .inl (fC S 3))), (hl0, .inl (D.2 0, 3, .inl (fLm S)))] H locs := w.sub [1, 2, 0, 3, 4, 5, 6, 7, 8, 9] (by decide) rfl
      refine lv_istore (lv' := [(6, .int (zI (sSlo S M 1))), (5, .int (zI (1))), (3, .long (zL (0 + ((sSlo S M 0) * (sSlo S M 0))))), (2, .int (zI (((sRel S M : Nat) : Int)))), (0, .ref ho), (1, .ref hm)]) hx hb dX5_stepInto_23 hl (by decide) rfl (fun ls hl => ?_)
      refine lv_aload_n hx hb dX5_stepInto_25 rfl (lv_at hl 4 rfl) ?_
      refine z_get hx hb hown hts w inX5 0 3 rfl rfl (by decide) f_29 rfl rfl dX5_stepInto_26 ?_
      refine lv_iload hx hb dX5_stepInto_29 (lv_at hl 1 rfl) ?_
      refine lv_iload hx hb dX5_stepInto_31 (lv_at hl 0 rfl) ?_
      refine z_iast hx hb w 2 rfl 1 (by omega) (by decide) rfl dX5_stepInto_33 (upd (upd G 0 (zI (sSlo S M 0))) 1 (zI (sSlo S M 1))) (fun _ _ => rfl) (fun H locs w => ?_)
      have w : zW D A s.heap s [(ho, .inr (5, [.ref hp, .ref hbu, .ref hm, .ref hg, .int (zI (ru)), .int (zI (sp)), .int (zI (so)), .int (zI (sw)), .int (zI (si)), .int (zI (al)), .long (zL (bb))])), (hm, .inl (D.2 0, 3, .inl (fMu M))), (hg, .inl (D.2 0, 3, .inl (upd (upd G 0 (zI (sSlo S M 0))) 1 (zI (sSlo S M 1))))), (hp, .inr (2, [.ref hw, .ref hz, .ref hl0, .int (zI (S 0))])), (hw, .inl (D.2 0, 16, .inl (fC S 0))), (hz, .inl (D.2 5, 3, .inr (.inr (.inr (.inr (f3 h0 h1 h2)))))), (h0, .inl (D.2 0, 16, .inl (fC S 1))), (h1, .inl (D.2 0, 16, .inl (fC S 2))), (h2, .inl (D.2 0, 16, .inl (fC S 3))), (hl0, .inl (D.2 0, 3, .inl (fLm S)))] H locs := w
      refine lv_lload_n hx hb dX5_stepInto_34 rfl (lv_at hl 2 rfl) ?_
      refine lv_iload hx hb dX5_stepInto_35 (lv_at hl 0 rfl) ?_
      refine lv_iload hx hb dX5_stepInto_37 (lv_at hl 0 rfl) ?_
      refine z_imul hx hb dX5_stepInto_39 ?_
      refine z_i2l hx hb (by omega) dX5_stepInto_40 ?_
      refine z_ladd hx hb dX5_stepInto_41 ?_
      refine lv_lstore_n (lv' := [(3, .long (zL ((0 + ((sSlo S M 0) * (sSlo S M 0))) + ((sSlo S M 1) * (sSlo S M 1))))), (6, .int (zI (sSlo S M 1))), (5, .int (zI (1))), (2, .int (zI (((sRel S M : Nat) : Int)))), (0, .ref ho), (1, .ref hm)]) hx hb dX5_stepInto_42 rfl hl (by decide) rfl (fun ls hl => ?_)
      refine z_iinc (lv' := [(5, .int (zI (1 + 1))), (3, .long (zL ((0 + ((sSlo S M 0) * (sSlo S M 0))) + ((sSlo S M 1) * (sSlo S M 1))))), (6, .int (zI (sSlo S M 1))), (2, .int (zI (((sRel S M : Nat) : Int)))), (0, .ref ho), (1, .ref hm)]) hx hb dX5_stepInto_43 hl (k := 2) rfl (by decide) rfl (fun ls hl => ?_)
      have hl : lv_has ls 10 [(5, .int (zI (2))), (3, .long (zL ((0 + ((sSlo S M 0) * (sSlo S M 0))) + ((sSlo S M 1) * (sSlo S M 1))))), (6, .int (zI (sSlo S M 1))), (2, .int (zI (((sRel S M : Nat) : Int)))), (0, .ref ho), (1, .ref hm)] := hl
      refine lv_goto (tgt := 10) hx hb dX5_stepInto_46 (by decide) ?_
      refine lv_iload hx hb dX5_stepInto_10 (lv_at hl 0 rfl) ?_
      refine lv_iconst (v := zI 3) hx hb dX5_stepInto_12 rfl ?_
      refine z_icmp_ge (tgt := 49) hx hb (by omega) (by omega) dX5_stepInto_13 (by decide) (fun c13 => ?_) (fun c13 => ?_)
      · skip
        exact absurd c13 (by omega)
      · skip
        refine lv_aload_n hx hb dX5_stepInto_16 rfl (lv_at hl 4 rfl) ?_
        refine lv_iload hx hb dX5_stepInto_17 (lv_at hl 0 rfl) ?_
        refine lv_iload_n hx hb dX5_stepInto_19 rfl (lv_at hl 3 rfl) ?_
        refine z_V_i (As := [.int (zI (2)), .int (zI (((sRel S M : Nat) : Int)))]) (rest := []) (Wr := [(hg, .inl (D.2 0, 3, .inl (upd (upd G 0 (zI (sSlo S M 0))) 1 (zI (sSlo S M 1)))))]) ⟨hx, hb, hml, hown, hts⟩ (c_X5_slope2 l D ho hm hp hw hz h0 h1 h2 hl0 hbu hg S M ru sp so sw si al bb hokp (sRel S M) (by omega)) (cwV 2 hts gX5_stepInto_X5_slope rfl rfl rfl (by decide +kernel) ⟨Nat.le_of_ble_eq_true rfl, Nat.le_of_ble_eq_true rfl⟩) w (q0 := 0) rfl rfl rfl [0, 1, 3, 4, 5, 6, 7, 8, 9] rfl (by decide) [2] rfl (by decide) (by decide) rfl hl.1 rfl (lv_room (Nat.le_of_ble_eq_true rfl)) dX5_stepInto_20 ⟨Nat.zero_le _, Nat.zero_le _⟩ (fun r W1 H locs hp w => ?_)
        obtain ⟨rfl, rfl⟩ := hp
        have w : zW D A s.heap s [(ho, .inr (5, [.ref hp, .ref hbu, .ref hm, .ref hg, .int (zI (ru)), .int (zI (sp)), .int (zI (so)), .int (zI (sw)), .int (zI (si)), .int (zI (al)), .long (zL (bb))])), (hm, .inl (D.2 0, 3, .inl (fMu M))), (hg, .inl (D.2 0, 3, .inl (upd (upd G 0 (zI (sSlo S M 0))) 1 (zI (sSlo S M 1))))), (hp, .inr (2, [.ref hw, .ref hz, .ref hl0, .int (zI (S 0))])), (hw, .inl (D.2 0, 16, .inl (fC S 0))), (hz, .inl (D.2 5, 3, .inr (.inr (.inr (.inr (f3 h0 h1 h2)))))), (h0, .inl (D.2 0, 16, .inl (fC S 1))), (h1, .inl (D.2 0, 16, .inl (fC S 2))), (h2, .inl (D.2 0, 16, .inl (fC S 3))), (hl0, .inl (D.2 0, 3, .inl (fLm S)))] H locs := w.sub [1, 2, 0, 3, 4, 5, 6, 7, 8, 9] (by decide) rfl
        refine lv_istore (lv' := [(6, .int (zI (sSlo S M 2))), (5, .int (zI (2))), (3, .long (zL ((0 + ((sSlo S M 0) * (sSlo S M 0))) + ((sSlo S M 1) * (sSlo S M 1))))), (2, .int (zI (((sRel S M : Nat) : Int)))), (0, .ref ho), (1, .ref hm)]) hx hb dX5_stepInto_23 hl (by decide) rfl (fun ls hl => ?_)
        refine lv_aload_n hx hb dX5_stepInto_25 rfl (lv_at hl 4 rfl) ?_
        refine z_get hx hb hown hts w inX5 0 3 rfl rfl (by decide) f_29 rfl rfl dX5_stepInto_26 ?_
        refine lv_iload hx hb dX5_stepInto_29 (lv_at hl 1 rfl) ?_
        refine lv_iload hx hb dX5_stepInto_31 (lv_at hl 0 rfl) ?_
        refine z_iast hx hb w 2 rfl 2 (by omega) (by decide) rfl dX5_stepInto_33 (fMu (sSlo S M)) (fun i hi => upd3 (g := fMu (sSlo S M)) (fMu_at (by omega)).symm (fMu_at (by omega)).symm (fMu_at (by omega)).symm hi) (fun H locs w => ?_)
        have w : zW D A s.heap s [(ho, .inr (5, [.ref hp, .ref hbu, .ref hm, .ref hg, .int (zI (ru)), .int (zI (sp)), .int (zI (so)), .int (zI (sw)), .int (zI (si)), .int (zI (al)), .long (zL (bb))])), (hm, .inl (D.2 0, 3, .inl (fMu M))), (hg, .inl (D.2 0, 3, .inl (fMu (sSlo S M)))), (hp, .inr (2, [.ref hw, .ref hz, .ref hl0, .int (zI (S 0))])), (hw, .inl (D.2 0, 16, .inl (fC S 0))), (hz, .inl (D.2 5, 3, .inr (.inr (.inr (.inr (f3 h0 h1 h2)))))), (h0, .inl (D.2 0, 16, .inl (fC S 1))), (h1, .inl (D.2 0, 16, .inl (fC S 2))), (h2, .inl (D.2 0, 16, .inl (fC S 3))), (hl0, .inl (D.2 0, 3, .inl (fLm S)))] H locs := w
        refine lv_lload_n hx hb dX5_stepInto_34 rfl (lv_at hl 2 rfl) ?_
        refine lv_iload hx hb dX5_stepInto_35 (lv_at hl 0 rfl) ?_
        refine lv_iload hx hb dX5_stepInto_37 (lv_at hl 0 rfl) ?_
        refine z_imul hx hb dX5_stepInto_39 ?_
        refine z_i2l hx hb (by omega) dX5_stepInto_40 ?_
        refine z_ladd hx hb dX5_stepInto_41 ?_
        refine lv_lstore_n (lv' := [(3, .long (zL (((0 + ((sSlo S M 0) * (sSlo S M 0))) + ((sSlo S M 1) * (sSlo S M 1))) + ((sSlo S M 2) * (sSlo S M 2))))), (6, .int (zI (sSlo S M 2))), (5, .int (zI (2))), (2, .int (zI (((sRel S M : Nat) : Int)))), (0, .ref ho), (1, .ref hm)]) hx hb dX5_stepInto_42 rfl hl (by decide) rfl (fun ls hl => ?_)
        refine z_iinc (lv' := [(5, .int (zI (2 + 1))), (3, .long (zL (((0 + ((sSlo S M 0) * (sSlo S M 0))) + ((sSlo S M 1) * (sSlo S M 1))) + ((sSlo S M 2) * (sSlo S M 2))))), (6, .int (zI (sSlo S M 2))), (2, .int (zI (((sRel S M : Nat) : Int)))), (0, .ref ho), (1, .ref hm)]) hx hb dX5_stepInto_43 hl (k := 2) rfl (by decide) rfl (fun ls hl => ?_)
        have hl : lv_has ls 10 [(5, .int (zI (3))), (3, .long (zL (((0 + ((sSlo S M 0) * (sSlo S M 0))) + ((sSlo S M 1) * (sSlo S M 1))) + ((sSlo S M 2) * (sSlo S M 2))))), (6, .int (zI (sSlo S M 2))), (2, .int (zI (((sRel S M : Nat) : Int)))), (0, .ref ho), (1, .ref hm)] := hl
        refine lv_goto (tgt := 10) hx hb dX5_stepInto_46 (by decide) ?_
        refine lv_iload hx hb dX5_stepInto_10 (lv_at hl 0 rfl) ?_
        refine lv_iconst (v := zI 3) hx hb dX5_stepInto_12 rfl ?_
        refine z_icmp_ge (tgt := 49) hx hb (by omega) (by omega) dX5_stepInto_13 (by decide) (fun c13 => ?_) (fun c13 => ?_)
        · skip
          refine lv_aload_n hx hb dX5_stepInto_49 rfl (lv_at hl 4 rfl) ?_
          refine lv_lload_n hx hb dX5_stepInto_50 rfl (lv_at hl 1 rfl) ?_
          refine z_V_l (As := [.long (zL (((0 + ((sSlo S M 0) * (sSlo S M 0))) + ((sSlo S M 1) * (sSlo S M 1))) + ((sSlo S M 2) * (sSlo S M 2))))]) (rest := []) (Wr := [(hg, .inl (D.2 0, 3, .inl (fMu (sSlo S M))))]) ⟨hx, hb, hml, hown, hts⟩ (c_X5_length l D ho hm hp hw hz h0 h1 h2 hl0 hbu hg S M ru sp so sw si al bb hokp hokm (sSq S M) (by have := sSq_b (M := M) hok; omega) hru hsp hsi hsw hhu) (cwV 1 hts gX5_stepInto_X5_length rfl rfl rfl (by decide +kernel) ⟨Nat.le_of_ble_eq_true rfl, Nat.le_of_ble_eq_true rfl⟩) w (q0 := 0) rfl rfl rfl [0, 1, 3, 4, 5, 6, 7, 8, 9] rfl (by decide) [2] rfl (by decide) (by decide) rfl hl.1 rfl (lv_room (Nat.le_of_ble_eq_true rfl)) dX5_stepInto_51 ⟨Nat.zero_le _, Nat.zero_le _⟩ (fun r W1 H locs hp w => ?_)
          obtain ⟨rfl, rfl⟩ := hp
          have w : zW D A s.heap s [(ho, .inr (5, [.ref hp, .ref hbu, .ref hm, .ref hg, .int (zI (ru)), .int (zI (sp)), .int (zI (so)), .int (zI (sw)), .int (zI (si)), .int (zI (al)), .long (zL (bb))])), (hm, .inl (D.2 0, 3, .inl (fMu M))), (hg, .inl (D.2 0, 3, .inl (fMu (sSlo S M)))), (hp, .inr (2, [.ref hw, .ref hz, .ref hl0, .int (zI (S 0))])), (hw, .inl (D.2 0, 16, .inl (fC S 0))), (hz, .inl (D.2 5, 3, .inr (.inr (.inr (.inr (f3 h0 h1 h2)))))), (h0, .inl (D.2 0, 16, .inl (fC S 1))), (h1, .inl (D.2 0, 16, .inl (fC S 2))), (h2, .inl (D.2 0, 16, .inl (fC S 3))), (hl0, .inl (D.2 0, 3, .inl (fLm S)))] H locs := w.sub [1, 2, 0, 3, 4, 5, 6, 7, 8, 9] (by decide) rfl
          refine lv_lstore (lv' := [(5, .long (zL (sLen ru sp si (sHu sw) (sBd S M) (sSq S M)))), (3, .long (zL (((0 + ((sSlo S M 0) * (sSlo S M 0))) + ((sSlo S M 1) * (sSlo S M 1))) + ((sSlo S M 2) * (sSlo S M 2))))), (2, .int (zI (((sRel S M : Nat) : Int)))), (0, .ref ho), (1, .ref hm)]) hx hb dX5_stepInto_54 hl (by decide) rfl (fun ls hl => ?_)
          refine lv_iconst (v := zI 0) hx hb dX5_stepInto_56 rfl ?_
          refine lv_istore (lv' := [(7, .int (zI (0))), (5, .long (zL (sLen ru sp si (sHu sw) (sBd S M) (sSq S M)))), (3, .long (zL (((0 + ((sSlo S M 0) * (sSlo S M 0))) + ((sSlo S M 1) * (sSlo S M 1))) + ((sSlo S M 2) * (sSlo S M 2))))), (2, .int (zI (((sRel S M : Nat) : Int)))), (0, .ref ho), (1, .ref hm)]) hx hb dX5_stepInto_57 hl (by decide) rfl (fun ls hl => ?_)
          refine lv_iload hx hb dX5_stepInto_59 (lv_at hl 0 rfl) ?_
          refine lv_iconst (v := zI 3) hx hb dX5_stepInto_61 rfl ?_
          refine z_icmp_ge (tgt := 110) hx hb (by omega) (by omega) dX5_stepInto_62 (by decide) (fun c62 => ?_) (fun c62 => ?_)
          · skip
            exact absurd c62 (by omega)
          · skip
            refine lv_aload_n hx hb dX5_stepInto_65 rfl (lv_at hl 4 rfl) ?_
            refine z_get hx hb hown hts w inX5 0 2 rfl rfl (by decide) f_25 rfl rfl dX5_stepInto_66 ?_
            refine lv_iload hx hb dX5_stepInto_69 (lv_at hl 0 rfl) ?_
            refine z_iald hx hb w 1 rfl 0 (by omega) (by decide) rfl (v := (zI (M 0))) (if_pos (by omega)) dX5_stepInto_71 ?_
            refine z_i2l hx hb (by omega) dX5_stepInto_72 ?_
            refine lv_lload hx hb dX5_stepInto_73 (lv_at hl 1 rfl) ?_
            refine lv_aload_n hx hb dX5_stepInto_75 rfl (lv_at hl 4 rfl) ?_
            refine z_get hx hb hown hts w inX5 0 3 rfl rfl (by decide) f_29 rfl rfl dX5_stepInto_76 ?_
            refine lv_iload hx hb dX5_stepInto_79 (lv_at hl 0 rfl) ?_
            refine z_iald hx hb w 2 rfl 0 (by omega) (by decide) rfl (v := (zI (sSlo S M 0))) (if_pos (by omega)) dX5_stepInto_81 ?_
            refine z_i2l hx hb (by omega) dX5_stepInto_82 ?_
            refine z_lmul hx hb dX5_stepInto_83 ?_
            refine z_ladd hx hb dX5_stepInto_84 ?_
            refine lv_lstore (lv' := [(8, .long (zL ((M 0) + ((sLen ru sp si (sHu sw) (sBd S M) (sSq S M)) * (sSlo S M 0))))), (7, .int (zI (0))), (5, .long (zL (sLen ru sp si (sHu sw) (sBd S M) (sSq S M)))), (3, .long (zL (((0 + ((sSlo S M 0) * (sSlo S M 0))) + ((sSlo S M 1) * (sSlo S M 1))) + ((sSlo S M 2) * (sSlo S M 2))))), (2, .int (zI (((sRel S M : Nat) : Int)))), (0, .ref ho), (1, .ref hm)]) hx hb dX5_stepInto_85 hl (by decide) rfl (fun ls hl => ?_)
            refine lv_aload_n hx hb dX5_stepInto_87 rfl (lv_at hl 6 rfl) ?_
            refine lv_iload hx hb dX5_stepInto_88 (lv_at hl 1 rfl) ?_
            refine lv_lconst (v := zL 0) hx hb dX5_stepInto_90 rfl ?_
            refine lv_ldc2 (v := zL 999999) hx hb hown (hts (.constantLong RX5 149 (zL 999999)) (by decide +kernel)) dX5_stepInto_91 ?_
            refine lv_lload hx hb dX5_stepInto_94 (lv_at hl 0 rfl) ?_
            refine z_minl hx hb (by rw [hml]; exact hl.1.symm) hown mm_151_l mm_151_s mm_151_i mm_151_c (Nat.le_of_ble_eq_true rfl) (Nat.le_of_ble_eq_true rfl) (Nat.zero_le _) (Nat.zero_le _) (by omega) (by omega) dX5_stepInto_96 ?_
            refine z_maxl hx hb (by rw [hml]; exact hl.1.symm) hown mm_157_l mm_157_s mm_157_i mm_157_c (Nat.le_of_ble_eq_true rfl) (Nat.le_of_ble_eq_true rfl) (Nat.zero_le _) (Nat.zero_le _) (by omega) (by omega) dX5_stepInto_99 ?_
            refine z_l2i hx hb dX5_stepInto_102 ?_
            refine z_iast hx hb w 1 rfl 0 (by omega) (by decide) rfl dX5_stepInto_103 (upd (fMu M) 0 (zI ((sMo M (sLen ru sp si (sHu sw) (sBd S M) (sSq S M)) (sSlo S M)) 0))) (fun _ _ => rfl) (fun H locs w => ?_)
            have w : zW D A s.heap s [(ho, .inr (5, [.ref hp, .ref hbu, .ref hm, .ref hg, .int (zI (ru)), .int (zI (sp)), .int (zI (so)), .int (zI (sw)), .int (zI (si)), .int (zI (al)), .long (zL (bb))])), (hm, .inl (D.2 0, 3, .inl (upd (fMu M) 0 (zI ((sMo M (sLen ru sp si (sHu sw) (sBd S M) (sSq S M)) (sSlo S M)) 0))))), (hg, .inl (D.2 0, 3, .inl (fMu (sSlo S M)))), (hp, .inr (2, [.ref hw, .ref hz, .ref hl0, .int (zI (S 0))])), (hw, .inl (D.2 0, 16, .inl (fC S 0))), (hz, .inl (D.2 5, 3, .inr (.inr (.inr (.inr (f3 h0 h1 h2)))))), (h0, .inl (D.2 0, 16, .inl (fC S 1))), (h1, .inl (D.2 0, 16, .inl (fC S 2))), (h2, .inl (D.2 0, 16, .inl (fC S 3))), (hl0, .inl (D.2 0, 3, .inl (fLm S)))] H locs := w
            refine z_iinc (lv' := [(7, .int (zI (0 + 1))), (8, .long (zL ((M 0) + ((sLen ru sp si (sHu sw) (sBd S M) (sSq S M)) * (sSlo S M 0))))), (5, .long (zL (sLen ru sp si (sHu sw) (sBd S M) (sSq S M)))), (3, .long (zL (((0 + ((sSlo S M 0) * (sSlo S M 0))) + ((sSlo S M 1) * (sSlo S M 1))) + ((sSlo S M 2) * (sSlo S M 2))))), (2, .int (zI (((sRel S M : Nat) : Int)))), (0, .ref ho), (1, .ref hm)]) hx hb dX5_stepInto_104 hl (k := 1) rfl (by decide) rfl (fun ls hl => ?_)
            have hl : lv_has ls 10 [(7, .int (zI (1))), (8, .long (zL ((M 0) + ((sLen ru sp si (sHu sw) (sBd S M) (sSq S M)) * (sSlo S M 0))))), (5, .long (zL (sLen ru sp si (sHu sw) (sBd S M) (sSq S M)))), (3, .long (zL (((0 + ((sSlo S M 0) * (sSlo S M 0))) + ((sSlo S M 1) * (sSlo S M 1))) + ((sSlo S M 2) * (sSlo S M 2))))), (2, .int (zI (((sRel S M : Nat) : Int)))), (0, .ref ho), (1, .ref hm)] := hl
            refine lv_goto (tgt := 59) hx hb dX5_stepInto_107 (by decide) ?_
            refine lv_iload hx hb dX5_stepInto_59 (lv_at hl 0 rfl) ?_
            refine lv_iconst (v := zI 3) hx hb dX5_stepInto_61 rfl ?_
            refine z_icmp_ge (tgt := 110) hx hb (by omega) (by omega) dX5_stepInto_62 (by decide) (fun c62 => ?_) (fun c62 => ?_)
            · skip
              exact absurd c62 (by omega)
            · skip
              refine lv_aload_n hx hb dX5_stepInto_65 rfl (lv_at hl 5 rfl) ?_
              refine z_get hx hb hown hts w inX5 0 2 rfl rfl (by decide) f_25 rfl rfl dX5_stepInto_66 ?_
              refine lv_iload hx hb dX5_stepInto_69 (lv_at hl 0 rfl) ?_
              refine z_iald hx hb w 1 rfl 1 (by omega) (by decide) rfl (v := (zI (M 1))) rfl dX5_stepInto_71 ?_
              refine z_i2l hx hb (by omega) dX5_stepInto_72 ?_
              refine lv_lload hx hb dX5_stepInto_73 (lv_at hl 2 rfl) ?_
              refine lv_aload_n hx hb dX5_stepInto_75 rfl (lv_at hl 5 rfl) ?_
              refine z_get hx hb hown hts w inX5 0 3 rfl rfl (by decide) f_29 rfl rfl dX5_stepInto_76 ?_
              refine lv_iload hx hb dX5_stepInto_79 (lv_at hl 0 rfl) ?_
              refine z_iald hx hb w 2 rfl 1 (by omega) (by decide) rfl (v := (zI (sSlo S M 1))) (if_pos (by omega)) dX5_stepInto_81 ?_
              refine z_i2l hx hb (by omega) dX5_stepInto_82 ?_
              refine z_lmul hx hb dX5_stepInto_83 ?_
              refine z_ladd hx hb dX5_stepInto_84 ?_
              refine lv_lstore (lv' := [(8, .long (zL ((M 1) + ((sLen ru sp si (sHu sw) (sBd S M) (sSq S M)) * (sSlo S M 1))))), (7, .int (zI (1))), (5, .long (zL (sLen ru sp si (sHu sw) (sBd S M) (sSq S M)))), (3, .long (zL (((0 + ((sSlo S M 0) * (sSlo S M 0))) + ((sSlo S M 1) * (sSlo S M 1))) + ((sSlo S M 2) * (sSlo S M 2))))), (2, .int (zI (((sRel S M : Nat) : Int)))), (0, .ref ho), (1, .ref hm)]) hx hb dX5_stepInto_85 hl (by decide) rfl (fun ls hl => ?_)
              refine lv_aload_n hx hb dX5_stepInto_87 rfl (lv_at hl 6 rfl) ?_
              refine lv_iload hx hb dX5_stepInto_88 (lv_at hl 1 rfl) ?_
              refine lv_lconst (v := zL 0) hx hb dX5_stepInto_90 rfl ?_
              refine lv_ldc2 (v := zL 999999) hx hb hown (hts (.constantLong RX5 149 (zL 999999)) (by decide +kernel)) dX5_stepInto_91 ?_
              refine lv_lload hx hb dX5_stepInto_94 (lv_at hl 0 rfl) ?_
              refine z_minl hx hb (by rw [hml]; exact hl.1.symm) hown mm_151_l mm_151_s mm_151_i mm_151_c (Nat.le_of_ble_eq_true rfl) (Nat.le_of_ble_eq_true rfl) (Nat.zero_le _) (Nat.zero_le _) (by omega) (by omega) dX5_stepInto_96 ?_
              refine z_maxl hx hb (by rw [hml]; exact hl.1.symm) hown mm_157_l mm_157_s mm_157_i mm_157_c (Nat.le_of_ble_eq_true rfl) (Nat.le_of_ble_eq_true rfl) (Nat.zero_le _) (Nat.zero_le _) (by omega) (by omega) dX5_stepInto_99 ?_
              refine z_l2i hx hb dX5_stepInto_102 ?_
              refine z_iast hx hb w 1 rfl 1 (by omega) (by decide) rfl dX5_stepInto_103 (upd (upd (fMu M) 0 (zI ((sMo M (sLen ru sp si (sHu sw) (sBd S M) (sSq S M)) (sSlo S M)) 0))) 1 (zI ((sMo M (sLen ru sp si (sHu sw) (sBd S M) (sSq S M)) (sSlo S M)) 1))) (fun _ _ => rfl) (fun H locs w => ?_)
              have w : zW D A s.heap s [(ho, .inr (5, [.ref hp, .ref hbu, .ref hm, .ref hg, .int (zI (ru)), .int (zI (sp)), .int (zI (so)), .int (zI (sw)), .int (zI (si)), .int (zI (al)), .long (zL (bb))])), (hm, .inl (D.2 0, 3, .inl (upd (upd (fMu M) 0 (zI ((sMo M (sLen ru sp si (sHu sw) (sBd S M) (sSq S M)) (sSlo S M)) 0))) 1 (zI ((sMo M (sLen ru sp si (sHu sw) (sBd S M) (sSq S M)) (sSlo S M)) 1))))), (hg, .inl (D.2 0, 3, .inl (fMu (sSlo S M)))), (hp, .inr (2, [.ref hw, .ref hz, .ref hl0, .int (zI (S 0))])), (hw, .inl (D.2 0, 16, .inl (fC S 0))), (hz, .inl (D.2 5, 3, .inr (.inr (.inr (.inr (f3 h0 h1 h2)))))), (h0, .inl (D.2 0, 16, .inl (fC S 1))), (h1, .inl (D.2 0, 16, .inl (fC S 2))), (h2, .inl (D.2 0, 16, .inl (fC S 3))), (hl0, .inl (D.2 0, 3, .inl (fLm S)))] H locs := w
              refine z_iinc (lv' := [(7, .int (zI (1 + 1))), (8, .long (zL ((M 1) + ((sLen ru sp si (sHu sw) (sBd S M) (sSq S M)) * (sSlo S M 1))))), (5, .long (zL (sLen ru sp si (sHu sw) (sBd S M) (sSq S M)))), (3, .long (zL (((0 + ((sSlo S M 0) * (sSlo S M 0))) + ((sSlo S M 1) * (sSlo S M 1))) + ((sSlo S M 2) * (sSlo S M 2))))), (2, .int (zI (((sRel S M : Nat) : Int)))), (0, .ref ho), (1, .ref hm)]) hx hb dX5_stepInto_104 hl (k := 1) rfl (by decide) rfl (fun ls hl => ?_)
              have hl : lv_has ls 10 [(7, .int (zI (2))), (8, .long (zL ((M 1) + ((sLen ru sp si (sHu sw) (sBd S M) (sSq S M)) * (sSlo S M 1))))), (5, .long (zL (sLen ru sp si (sHu sw) (sBd S M) (sSq S M)))), (3, .long (zL (((0 + ((sSlo S M 0) * (sSlo S M 0))) + ((sSlo S M 1) * (sSlo S M 1))) + ((sSlo S M 2) * (sSlo S M 2))))), (2, .int (zI (((sRel S M : Nat) : Int)))), (0, .ref ho), (1, .ref hm)] := hl
              refine lv_goto (tgt := 59) hx hb dX5_stepInto_107 (by decide) ?_
              refine lv_iload hx hb dX5_stepInto_59 (lv_at hl 0 rfl) ?_
              refine lv_iconst (v := zI 3) hx hb dX5_stepInto_61 rfl ?_
              refine z_icmp_ge (tgt := 110) hx hb (by omega) (by omega) dX5_stepInto_62 (by decide) (fun c62 => ?_) (fun c62 => ?_)
              · skip
                exact absurd c62 (by omega)
              · skip
                refine lv_aload_n hx hb dX5_stepInto_65 rfl (lv_at hl 5 rfl) ?_
                refine z_get hx hb hown hts w inX5 0 2 rfl rfl (by decide) f_25 rfl rfl dX5_stepInto_66 ?_
                refine lv_iload hx hb dX5_stepInto_69 (lv_at hl 0 rfl) ?_
                refine z_iald hx hb w 1 rfl 2 (by omega) (by decide) rfl (v := (zI (M 2))) rfl dX5_stepInto_71 ?_
                refine z_i2l hx hb (by omega) dX5_stepInto_72 ?_
                refine lv_lload hx hb dX5_stepInto_73 (lv_at hl 2 rfl) ?_
                refine lv_aload_n hx hb dX5_stepInto_75 rfl (lv_at hl 5 rfl) ?_
                refine z_get hx hb hown hts w inX5 0 3 rfl rfl (by decide) f_29 rfl rfl dX5_stepInto_76 ?_
                refine lv_iload hx hb dX5_stepInto_79 (lv_at hl 0 rfl) ?_
                refine z_iald hx hb w 2 rfl 2 (by omega) (by decide) rfl (v := (zI (sSlo S M 2))) (if_pos (by omega)) dX5_stepInto_81 ?_
                refine z_i2l hx hb (by omega) dX5_stepInto_82 ?_
                refine z_lmul hx hb dX5_stepInto_83 ?_
                refine z_ladd hx hb dX5_stepInto_84 ?_
                refine lv_lstore (lv' := [(8, .long (zL ((M 2) + ((sLen ru sp si (sHu sw) (sBd S M) (sSq S M)) * (sSlo S M 2))))), (7, .int (zI (2))), (5, .long (zL (sLen ru sp si (sHu sw) (sBd S M) (sSq S M)))), (3, .long (zL (((0 + ((sSlo S M 0) * (sSlo S M 0))) + ((sSlo S M 1) * (sSlo S M 1))) + ((sSlo S M 2) * (sSlo S M 2))))), (2, .int (zI (((sRel S M : Nat) : Int)))), (0, .ref ho), (1, .ref hm)]) hx hb dX5_stepInto_85 hl (by decide) rfl (fun ls hl => ?_)
                refine lv_aload_n hx hb dX5_stepInto_87 rfl (lv_at hl 6 rfl) ?_
                refine lv_iload hx hb dX5_stepInto_88 (lv_at hl 1 rfl) ?_
                refine lv_lconst (v := zL 0) hx hb dX5_stepInto_90 rfl ?_
                refine lv_ldc2 (v := zL 999999) hx hb hown (hts (.constantLong RX5 149 (zL 999999)) (by decide +kernel)) dX5_stepInto_91 ?_
                refine lv_lload hx hb dX5_stepInto_94 (lv_at hl 0 rfl) ?_
                refine z_minl hx hb (by rw [hml]; exact hl.1.symm) hown mm_151_l mm_151_s mm_151_i mm_151_c (Nat.le_of_ble_eq_true rfl) (Nat.le_of_ble_eq_true rfl) (Nat.zero_le _) (Nat.zero_le _) (by omega) (by omega) dX5_stepInto_96 ?_
                refine z_maxl hx hb (by rw [hml]; exact hl.1.symm) hown mm_157_l mm_157_s mm_157_i mm_157_c (Nat.le_of_ble_eq_true rfl) (Nat.le_of_ble_eq_true rfl) (Nat.zero_le _) (Nat.zero_le _) (by omega) (by omega) dX5_stepInto_99 ?_
                refine z_l2i hx hb dX5_stepInto_102 ?_
                refine z_iast hx hb w 1 rfl 2 (by omega) (by decide) rfl dX5_stepInto_103 (fMu (sMo M (sLen ru sp si (sHu sw) (sBd S M) (sSq S M)) (sSlo S M))) (fun i hi => upd3 (g := fMu (sMo M (sLen ru sp si (sHu sw) (sBd S M) (sSq S M)) (sSlo S M))) (fMu_at (by omega)).symm (fMu_at (by omega)).symm (fMu_at (by omega)).symm hi) (fun H locs w => ?_)
                have w : zW D A s.heap s [(ho, .inr (5, [.ref hp, .ref hbu, .ref hm, .ref hg, .int (zI (ru)), .int (zI (sp)), .int (zI (so)), .int (zI (sw)), .int (zI (si)), .int (zI (al)), .long (zL (bb))])), (hm, .inl (D.2 0, 3, .inl (fMu (sMo M (sLen ru sp si (sHu sw) (sBd S M) (sSq S M)) (sSlo S M))))), (hg, .inl (D.2 0, 3, .inl (fMu (sSlo S M)))), (hp, .inr (2, [.ref hw, .ref hz, .ref hl0, .int (zI (S 0))])), (hw, .inl (D.2 0, 16, .inl (fC S 0))), (hz, .inl (D.2 5, 3, .inr (.inr (.inr (.inr (f3 h0 h1 h2)))))), (h0, .inl (D.2 0, 16, .inl (fC S 1))), (h1, .inl (D.2 0, 16, .inl (fC S 2))), (h2, .inl (D.2 0, 16, .inl (fC S 3))), (hl0, .inl (D.2 0, 3, .inl (fLm S)))] H locs := w
                refine z_iinc (lv' := [(7, .int (zI (2 + 1))), (8, .long (zL ((M 2) + ((sLen ru sp si (sHu sw) (sBd S M) (sSq S M)) * (sSlo S M 2))))), (5, .long (zL (sLen ru sp si (sHu sw) (sBd S M) (sSq S M)))), (3, .long (zL (((0 + ((sSlo S M 0) * (sSlo S M 0))) + ((sSlo S M 1) * (sSlo S M 1))) + ((sSlo S M 2) * (sSlo S M 2))))), (2, .int (zI (((sRel S M : Nat) : Int)))), (0, .ref ho), (1, .ref hm)]) hx hb dX5_stepInto_104 hl (k := 1) rfl (by decide) rfl (fun ls hl => ?_)
                have hl : lv_has ls 10 [(7, .int (zI (3))), (8, .long (zL ((M 2) + ((sLen ru sp si (sHu sw) (sBd S M) (sSq S M)) * (sSlo S M 2))))), (5, .long (zL (sLen ru sp si (sHu sw) (sBd S M) (sSq S M)))), (3, .long (zL (((0 + ((sSlo S M 0) * (sSlo S M 0))) + ((sSlo S M 1) * (sSlo S M 1))) + ((sSlo S M 2) * (sSlo S M 2))))), (2, .int (zI (((sRel S M : Nat) : Int)))), (0, .ref ho), (1, .ref hm)] := hl
                refine lv_goto (tgt := 59) hx hb dX5_stepInto_107 (by decide) ?_
                refine lv_iload hx hb dX5_stepInto_59 (lv_at hl 0 rfl) ?_
                refine lv_iconst (v := zI 3) hx hb dX5_stepInto_61 rfl ?_
                refine z_icmp_ge (tgt := 110) hx hb (by omega) (by omega) dX5_stepInto_62 (by decide) (fun c62 => ?_) (fun c62 => ?_)
                · skip
                  exact z_vret hx hb hr hlocks w dX5_stepInto_110 rfl
                · skip
                  exact absurd c62 (by omega)
        · skip
          exact absurd c13 (by omega)
set_option maxHeartbeats 6000000 in
set_option maxRecDepth 100000 in
theorem c_X5_stepIntoB (l : Launch) (D : zD) (ho hm hp hw hz h0 h1 h2 hl0 hbu hg ht : Nat) (S M : Nat → Int) (ru sp so sw si al bb : Int) (G TT : Nat → Int32) (hok : OkP S) (hokm : OkM M) (hru : 0 ≤ ru ∧ ru ≤ 2) (hsp : 1 ≤ sp ∧ sp ≤ 9999) (hsi : 0 ≤ si ∧ si ≤ 2147483646) (hsw : zB sw) (hhu : zB (sHu sw)) (hhu0 : 0 ≤ sHu sw) : zM l yX5_stepInto wsX5_stepInto (zR 4) zE0 D [.ref ho, .ref ht] ((ho, .inr (5, [.ref hp, .ref hbu, .ref hm, .ref hg, .int (zI (ru)), .int (zI (sp)), .int (zI (so)), .int (zI (sw)), .int (zI (si)), .int (zI (al)), .long (zL (bb))])) :: (hm, .inl (D.2 0, 3, .inl (fMu M))) :: (hg, .inl (D.2 0, 3, .inl (G))) :: ((ht, .inl (D.2 0, 3, .inl TT)) :: wPk D hp hw hz h0 h1 h2 hl0 S)) (zQv D (fun W1 => W1 = ((ho, .inr (5, [.ref hp, .ref hbu, .ref hm, .ref hg, .int (zI (ru)), .int (zI (sp)), .int (zI (so)), .int (zI (sw)), .int (zI (si)), .int (zI (al)), .long (zL (bb))])) :: (hm, .inl (D.2 0, 3, .inl (fMu M))) :: (hg, .inl (D.2 0, 3, .inl (fMu (sSlo S M)))) :: ((ht, .inl (D.2 0, 3, .inl (fMu (sMo M (sLen ru sp si (sHu sw) (sBd S M) (sSq S M)) (sSlo S M))))) :: wPk D hp hw hz h0 h1 h2 hl0 S)))) := by
  refine zM.of (cc := cX5_stepInto) (maxL := 10) (ret := none) (by decide) rfl (Nat.le_of_ble_eq_true rfl) ?_
  intro p e s m below meth c A hx hb hml hown hts hr hlocks hE hnm w ls hl
  have hown : s.vm.findClass RX5 = some m.cls := hown
  have hl : lv_has ls 10 [(0, .ref ho), (1, .ref ht)] := hl
  have f_29 : (Cond.fieldLink RX5 29 "RelaxedSteps$State" "slopes" "[I").before _ s = true := hts _ (by decide +kernel)
  have f_25 : (Cond.fieldLink RX5 25 "RelaxedSteps$State" "multipliers" "[I").before _ s = true := hts _ (by decide +kernel)
  have mm_151_l : (Cond.methodLink RX5 151 Lib.MathLoose.min_long.x).before _ s = true := hts _ (by decide +kernel)
  have mm_151_s : (Cond.static Lib.MathLoose.min_long.x).before _ s = true := hts _ (by decide +kernel)
  have mm_151_c : (Cond.code Lib.MathLoose.min_long.x Lib.MathLoose.min_long.code 4 (some .long)).before _ s = true := hts _ (by decide +kernel)
  have mm_151_i : (Cond.initialized "java/lang/Math").before _ s = true := hts _ (by decide +kernel)
  have mm_157_l : (Cond.methodLink RX5 157 Lib.MathLoose.max_long.x).before _ s = true := hts _ (by decide +kernel)
  have mm_157_s : (Cond.static Lib.MathLoose.max_long.x).before _ s = true := hts _ (by decide +kernel)
  have mm_157_c : (Cond.code Lib.MathLoose.max_long.x Lib.MathLoose.max_long.code 4 (some .long)).before _ s = true := hts _ (by decide +kernel)
  have mm_157_i : (Cond.initialized "java/lang/Math").before _ s = true := hts _ (by decide +kernel)
  have inX5 : ∀ w ∈ u_ws RX5 TX5 11, w ∈ wsX5_stepInto := by decide +kernel
  have hn := zn_eq hok
  have h16 := zn_le hok
  have hlim := hok.2.2
  have hokp := hok
  have hbd := sBd_b hok hokm
  have hsq := sSq_b (M := M) hok
  have hrl : sRel S M < 65536 := sRel_16 hok
  have t0 := sSlo_b (M := M) hok (d := 0) (by omega)
  have t1 := sSlo_b (M := M) hok (d := 1) (by omega)
  have t2 := sSlo_b (M := M) hok (d := 2) (by omega)
  have q0 := sq_b t0
  have q1 := sq_b t1
  have q2 := sq_b t2
  have hln := sLen_b (ru := ru) (q := sSq S M) hsp hsi.1 hhu0 hbd
  have lm0 := lm_b hln t0
  have lm1 := lm_b hln t1
  have lm2 := lm_b hln t2
  have hm1 := hokm
  unfold OkM at hm1
  have w : zW D A s.heap s [(ho, .inr (5, [.ref hp, .ref hbu, .ref hm, .ref hg, .int (zI (ru)), .int (zI (sp)), .int (zI (so)), .int (zI (sw)), .int (zI (si)), .int (zI (al)), .long (zL (bb))])), (hm, .inl (D.2 0, 3, .inl (fMu M))), (hg, .inl (D.2 0, 3, .inl (G))), (ht, .inl (D.2 0, 3, .inl (TT))), (hp, .inr (2, [.ref hw, .ref hz, .ref hl0, .int (zI (S 0))])), (hw, .inl (D.2 0, 16, .inl (fC S 0))), (hz, .inl (D.2 5, 3, .inr (.inr (.inr (.inr (f3 h0 h1 h2)))))), (h0, .inl (D.2 0, 16, .inl (fC S 1))), (h1, .inl (D.2 0, 16, .inl (fC S 2))), (h2, .inl (D.2 0, 16, .inl (fC S 3))), (hl0, .inl (D.2 0, 3, .inl (fLm S)))] s.heap [] := w
  refine lv_aload_n hx hb dX5_stepInto_0 rfl (lv_at hl 0 rfl) ?_
  refine z_V_i (As := []) (rest := []) (Wr := [(hg, .inl (D.2 0, 3, .inl (G))), (ht, .inl (D.2 0, 3, .inl (TT)))]) ⟨hx, hb, hml, hown, hts⟩ (c_X5_relaxedSet l D ho hm hp hw hz h0 h1 h2 hl0 hbu hg S M ru sp so sw si al bb hokp hokm) (cwV 0 hts gX5_stepInto_X5_relaxedSet rfl rfl rfl (by decide +kernel) ⟨Nat.le_of_ble_eq_true rfl, Nat.le_of_ble_eq_true rfl⟩) w (q0 := 0) rfl rfl rfl [0, 1, 4, 5, 6, 7, 8, 9, 10] rfl (by decide) [2, 3] rfl (by decide) (by decide) rfl hl.1 rfl (lv_room (Nat.le_of_ble_eq_true rfl)) dX5_stepInto_1 ⟨Nat.zero_le _, Nat.zero_le _⟩ (fun r W1 H locs hp w => ?_)
  obtain ⟨rfl, rfl⟩ := hp
  have w : zW D A s.heap s [(ho, .inr (5, [.ref hp, .ref hbu, .ref hm, .ref hg, .int (zI (ru)), .int (zI (sp)), .int (zI (so)), .int (zI (sw)), .int (zI (si)), .int (zI (al)), .long (zL (bb))])), (hm, .inl (D.2 0, 3, .inl (fMu M))), (hg, .inl (D.2 0, 3, .inl (G))), (ht, .inl (D.2 0, 3, .inl (TT))), (hp, .inr (2, [.ref hw, .ref hz, .ref hl0, .int (zI (S 0))])), (hw, .inl (D.2 0, 16, .inl (fC S 0))), (hz, .inl (D.2 5, 3, .inr (.inr (.inr (.inr (f3 h0 h1 h2)))))), (h0, .inl (D.2 0, 16, .inl (fC S 1))), (h1, .inl (D.2 0, 16, .inl (fC S 2))), (h2, .inl (D.2 0, 16, .inl (fC S 3))), (hl0, .inl (D.2 0, 3, .inl (fLm S)))] H locs := w.sub [2, 3, 0, 1, 4, 5, 6, 7, 8, 9, 10] (by decide) rfl
  refine lv_istore_n (lv' := [(2, .int (zI (((sRel S M : Nat) : Int)))), (0, .ref ho), (1, .ref ht)]) hx hb dX5_stepInto_4 rfl hl (by decide) rfl (fun ls hl => ?_)
  refine lv_lconst (v := zL 0) hx hb dX5_stepInto_5 rfl ?_
  refine lv_lstore_n (lv' := [(3, .long (zL (0))), (2, .int (zI (((sRel S M : Nat) : Int)))), (0, .ref ho), (1, .ref ht)]) hx hb dX5_stepInto_6 rfl hl (by decide) rfl (fun ls hl => ?_)
  refine lv_iconst (v := zI 0) hx hb dX5_stepInto_7 rfl ?_
  refine lv_istore (lv' := [(5, .int (zI (0))), (3, .long (zL (0))), (2, .int (zI (((sRel S M : Nat) : Int)))), (0, .ref ho), (1, .ref ht)]) hx hb dX5_stepInto_8 hl (by decide) rfl (fun ls hl => ?_)
  refine lv_iload hx hb dX5_stepInto_10 (lv_at hl 0 rfl) ?_
  refine lv_iconst (v := zI 3) hx hb dX5_stepInto_12 rfl ?_
  refine z_icmp_ge (tgt := 49) hx hb (by omega) (by omega) dX5_stepInto_13 (by decide) (fun c13 => ?_) (fun c13 => ?_)
  · skip
    exact absurd c13 (by omega)
  · skip
    refine lv_aload_n hx hb dX5_stepInto_16 rfl (lv_at hl 3 rfl) ?_
    refine lv_iload hx hb dX5_stepInto_17 (lv_at hl 0 rfl) ?_
    refine lv_iload_n hx hb dX5_stepInto_19 rfl (lv_at hl 2 rfl) ?_
    refine z_V_i (As := [.int (zI (0)), .int (zI (((sRel S M : Nat) : Int)))]) (rest := []) (Wr := [(hg, .inl (D.2 0, 3, .inl (G))), (ht, .inl (D.2 0, 3, .inl (TT)))]) ⟨hx, hb, hml, hown, hts⟩ (c_X5_slope0 l D ho hm hp hw hz h0 h1 h2 hl0 hbu hg S M ru sp so sw si al bb hokp (sRel S M) (by omega)) (cwV 2 hts gX5_stepInto_X5_slope rfl rfl rfl (by decide +kernel) ⟨Nat.le_of_ble_eq_true rfl, Nat.le_of_ble_eq_true rfl⟩) w (q0 := 0) rfl rfl rfl [0, 1, 4, 5, 6, 7, 8, 9, 10] rfl (by decide) [2, 3] rfl (by decide) (by decide) rfl hl.1 rfl (lv_room (Nat.le_of_ble_eq_true rfl)) dX5_stepInto_20 ⟨Nat.zero_le _, Nat.zero_le _⟩ (fun r W1 H locs hp w => ?_)
    obtain ⟨rfl, rfl⟩ := hp
    have w : zW D A s.heap s [(ho, .inr (5, [.ref hp, .ref hbu, .ref hm, .ref hg, .int (zI (ru)), .int (zI (sp)), .int (zI (so)), .int (zI (sw)), .int (zI (si)), .int (zI (al)), .long (zL (bb))])), (hm, .inl (D.2 0, 3, .inl (fMu M))), (hg, .inl (D.2 0, 3, .inl (G))), (ht, .inl (D.2 0, 3, .inl (TT))), (hp, .inr (2, [.ref hw, .ref hz, .ref hl0, .int (zI (S 0))])), (hw, .inl (D.2 0, 16, .inl (fC S 0))), (hz, .inl (D.2 5, 3, .inr (.inr (.inr (.inr (f3 h0 h1 h2)))))), (h0, .inl (D.2 0, 16, .inl (fC S 1))), (h1, .inl (D.2 0, 16, .inl (fC S 2))), (h2, .inl (D.2 0, 16, .inl (fC S 3))), (hl0, .inl (D.2 0, 3, .inl (fLm S)))] H locs := w.sub [2, 3, 0, 1, 4, 5, 6, 7, 8, 9, 10] (by decide) rfl
    refine lv_istore (lv' := [(6, .int (zI (sSlo S M 0))), (5, .int (zI (0))), (3, .long (zL (0))), (2, .int (zI (((sRel S M : Nat) : Int)))), (0, .ref ho), (1, .ref ht)]) hx hb dX5_stepInto_23 hl (by decide) rfl (fun ls hl => ?_)
    refine lv_aload_n hx hb dX5_stepInto_25 rfl (lv_at hl 4 rfl) ?_
    refine z_get hx hb hown hts w inX5 0 3 rfl rfl (by decide) f_29 rfl rfl dX5_stepInto_26 ?_
    refine lv_iload hx hb dX5_stepInto_29 (lv_at hl 1 rfl) ?_
    refine lv_iload hx hb dX5_stepInto_31 (lv_at hl 0 rfl) ?_
    refine z_iast hx hb w 2 rfl 0 (by omega) (by decide) rfl dX5_stepInto_33 (upd G 0 (zI (sSlo S M 0))) (fun _ _ => rfl) (fun H locs w => ?_)
    have w : zW D A s.heap s [(ho, .inr (5, [.ref hp, .ref hbu, .ref hm, .ref hg, .int (zI (ru)), .int (zI (sp)), .int (zI (so)), .int (zI (sw)), .int (zI (si)), .int (zI (al)), .long (zL (bb))])), (hm, .inl (D.2 0, 3, .inl (fMu M))), (hg, .inl (D.2 0, 3, .inl (upd G 0 (zI (sSlo S M 0))))), (ht, .inl (D.2 0, 3, .inl (TT))), (hp, .inr (2, [.ref hw, .ref hz, .ref hl0, .int (zI (S 0))])), (hw, .inl (D.2 0, 16, .inl (fC S 0))), (hz, .inl (D.2 5, 3, .inr (.inr (.inr (.inr (f3 h0 h1 h2)))))), (h0, .inl (D.2 0, 16, .inl (fC S 1))), (h1, .inl (D.2 0, 16, .inl (fC S 2))), (h2, .inl (D.2 0, 16, .inl (fC S 3))), (hl0, .inl (D.2 0, 3, .inl (fLm S)))] H locs := w
    refine lv_lload_n hx hb dX5_stepInto_34 rfl (lv_at hl 2 rfl) ?_
    refine lv_iload hx hb dX5_stepInto_35 (lv_at hl 0 rfl) ?_
    refine lv_iload hx hb dX5_stepInto_37 (lv_at hl 0 rfl) ?_
    refine z_imul hx hb dX5_stepInto_39 ?_
    refine z_i2l hx hb (by omega) dX5_stepInto_40 ?_
    refine z_ladd hx hb dX5_stepInto_41 ?_
    refine lv_lstore_n (lv' := [(3, .long (zL (0 + ((sSlo S M 0) * (sSlo S M 0))))), (6, .int (zI (sSlo S M 0))), (5, .int (zI (0))), (2, .int (zI (((sRel S M : Nat) : Int)))), (0, .ref ho), (1, .ref ht)]) hx hb dX5_stepInto_42 rfl hl (by decide) rfl (fun ls hl => ?_)
    refine z_iinc (lv' := [(5, .int (zI (0 + 1))), (3, .long (zL (0 + ((sSlo S M 0) * (sSlo S M 0))))), (6, .int (zI (sSlo S M 0))), (2, .int (zI (((sRel S M : Nat) : Int)))), (0, .ref ho), (1, .ref ht)]) hx hb dX5_stepInto_43 hl (k := 2) rfl (by decide) rfl (fun ls hl => ?_)
    have hl : lv_has ls 10 [(5, .int (zI (1))), (3, .long (zL (0 + ((sSlo S M 0) * (sSlo S M 0))))), (6, .int (zI (sSlo S M 0))), (2, .int (zI (((sRel S M : Nat) : Int)))), (0, .ref ho), (1, .ref ht)] := hl
    refine lv_goto (tgt := 10) hx hb dX5_stepInto_46 (by decide) ?_
    refine lv_iload hx hb dX5_stepInto_10 (lv_at hl 0 rfl) ?_
    refine lv_iconst (v := zI 3) hx hb dX5_stepInto_12 rfl ?_
    refine z_icmp_ge (tgt := 49) hx hb (by omega) (by omega) dX5_stepInto_13 (by decide) (fun c13 => ?_) (fun c13 => ?_)
    · skip
      exact absurd c13 (by omega)
    · skip
      refine lv_aload_n hx hb dX5_stepInto_16 rfl (lv_at hl 4 rfl) ?_
      refine lv_iload hx hb dX5_stepInto_17 (lv_at hl 0 rfl) ?_
      refine lv_iload_n hx hb dX5_stepInto_19 rfl (lv_at hl 3 rfl) ?_
      refine z_V_i (As := [.int (zI (1)), .int (zI (((sRel S M : Nat) : Int)))]) (rest := []) (Wr := [(hg, .inl (D.2 0, 3, .inl (upd G 0 (zI (sSlo S M 0))))), (ht, .inl (D.2 0, 3, .inl (TT)))]) ⟨hx, hb, hml, hown, hts⟩ (c_X5_slope1 l D ho hm hp hw hz h0 h1 h2 hl0 hbu hg S M ru sp so sw si al bb hokp (sRel S M) (by omega)) (cwV 2 hts gX5_stepInto_X5_slope rfl rfl rfl (by decide +kernel) ⟨Nat.le_of_ble_eq_true rfl, Nat.le_of_ble_eq_true rfl⟩) w (q0 := 0) rfl rfl rfl [0, 1, 4, 5, 6, 7, 8, 9, 10] rfl (by decide) [2, 3] rfl (by decide) (by decide) rfl hl.1 rfl (lv_room (Nat.le_of_ble_eq_true rfl)) dX5_stepInto_20 ⟨Nat.zero_le _, Nat.zero_le _⟩ (fun r W1 H locs hp w => ?_)
      obtain ⟨rfl, rfl⟩ := hp
      have w : zW D A s.heap s [(ho, .inr (5, [.ref hp, .ref hbu, .ref hm, .ref hg, .int (zI (ru)), .int (zI (sp)), .int (zI (so)), .int (zI (sw)), .int (zI (si)), .int (zI (al)), .long (zL (bb))])), (hm, .inl (D.2 0, 3, .inl (fMu M))), (hg, .inl (D.2 0, 3, .inl (upd G 0 (zI (sSlo S M 0))))), (ht, .inl (D.2 0, 3, .inl (TT))), (hp, .inr (2, [.ref hw, .ref hz, .ref hl0, .int (zI (S 0))])), (hw, .inl (D.2 0, 16, .inl (fC S 0))), (hz, .inl (D.2 5, 3, .inr (.inr (.inr (.inr (f3 h0 h1 h2)))))), (h0, .inl (D.2 0, 16, .inl (fC S 1))), (h1, .inl (D.2 0, 16, .inl (fC S 2))), (h2, .inl (D.2 0, 16, .inl (fC S 3))), (hl0, .inl (D.2 0, 3, .inl (fLm S)))] H locs := w.sub [2, 3, 0, 1, 4, 5, 6, 7, 8, 9, 10] (by decide) rfl
      refine lv_istore (lv' := [(6, .int (zI (sSlo S M 1))), (5, .int (zI (1))), (3, .long (zL (0 + ((sSlo S M 0) * (sSlo S M 0))))), (2, .int (zI (((sRel S M : Nat) : Int)))), (0, .ref ho), (1, .ref ht)]) hx hb dX5_stepInto_23 hl (by decide) rfl (fun ls hl => ?_)
      refine lv_aload_n hx hb dX5_stepInto_25 rfl (lv_at hl 4 rfl) ?_
      refine z_get hx hb hown hts w inX5 0 3 rfl rfl (by decide) f_29 rfl rfl dX5_stepInto_26 ?_
      refine lv_iload hx hb dX5_stepInto_29 (lv_at hl 1 rfl) ?_
      refine lv_iload hx hb dX5_stepInto_31 (lv_at hl 0 rfl) ?_
      refine z_iast hx hb w 2 rfl 1 (by omega) (by decide) rfl dX5_stepInto_33 (upd (upd G 0 (zI (sSlo S M 0))) 1 (zI (sSlo S M 1))) (fun _ _ => rfl) (fun H locs w => ?_)
      have w : zW D A s.heap s [(ho, .inr (5, [.ref hp, .ref hbu, .ref hm, .ref hg, .int (zI (ru)), .int (zI (sp)), .int (zI (so)), .int (zI (sw)), .int (zI (si)), .int (zI (al)), .long (zL (bb))])), (hm, .inl (D.2 0, 3, .inl (fMu M))), (hg, .inl (D.2 0, 3, .inl (upd (upd G 0 (zI (sSlo S M 0))) 1 (zI (sSlo S M 1))))), (ht, .inl (D.2 0, 3, .inl (TT))), (hp, .inr (2, [.ref hw, .ref hz, .ref hl0, .int (zI (S 0))])), (hw, .inl (D.2 0, 16, .inl (fC S 0))), (hz, .inl (D.2 5, 3, .inr (.inr (.inr (.inr (f3 h0 h1 h2)))))), (h0, .inl (D.2 0, 16, .inl (fC S 1))), (h1, .inl (D.2 0, 16, .inl (fC S 2))), (h2, .inl (D.2 0, 16, .inl (fC S 3))), (hl0, .inl (D.2 0, 3, .inl (fLm S)))] H locs := w
      refine lv_lload_n hx hb dX5_stepInto_34 rfl (lv_at hl 2 rfl) ?_
      refine lv_iload hx hb dX5_stepInto_35 (lv_at hl 0 rfl) ?_
      refine lv_iload hx hb dX5_stepInto_37 (lv_at hl 0 rfl) ?_
      refine z_imul hx hb dX5_stepInto_39 ?_
      refine z_i2l hx hb (by omega) dX5_stepInto_40 ?_
      refine z_ladd hx hb dX5_stepInto_41 ?_
      refine lv_lstore_n (lv' := [(3, .long (zL ((0 + ((sSlo S M 0) * (sSlo S M 0))) + ((sSlo S M 1) * (sSlo S M 1))))), (6, .int (zI (sSlo S M 1))), (5, .int (zI (1))), (2, .int (zI (((sRel S M : Nat) : Int)))), (0, .ref ho), (1, .ref ht)]) hx hb dX5_stepInto_42 rfl hl (by decide) rfl (fun ls hl => ?_)
      refine z_iinc (lv' := [(5, .int (zI (1 + 1))), (3, .long (zL ((0 + ((sSlo S M 0) * (sSlo S M 0))) + ((sSlo S M 1) * (sSlo S M 1))))), (6, .int (zI (sSlo S M 1))), (2, .int (zI (((sRel S M : Nat) : Int)))), (0, .ref ho), (1, .ref ht)]) hx hb dX5_stepInto_43 hl (k := 2) rfl (by decide) rfl (fun ls hl => ?_)
      have hl : lv_has ls 10 [(5, .int (zI (2))), (3, .long (zL ((0 + ((sSlo S M 0) * (sSlo S M 0))) + ((sSlo S M 1) * (sSlo S M 1))))), (6, .int (zI (sSlo S M 1))), (2, .int (zI (((sRel S M : Nat) : Int)))), (0, .ref ho), (1, .ref ht)] := hl
      refine lv_goto (tgt := 10) hx hb dX5_stepInto_46 (by decide) ?_
      refine lv_iload hx hb dX5_stepInto_10 (lv_at hl 0 rfl) ?_
      refine lv_iconst (v := zI 3) hx hb dX5_stepInto_12 rfl ?_
      refine z_icmp_ge (tgt := 49) hx hb (by omega) (by omega) dX5_stepInto_13 (by decide) (fun c13 => ?_) (fun c13 => ?_)
      · skip
        exact absurd c13 (by omega)
      · skip
        refine lv_aload_n hx hb dX5_stepInto_16 rfl (lv_at hl 4 rfl) ?_
        refine lv_iload hx hb dX5_stepInto_17 (lv_at hl 0 rfl) ?_
        refine lv_iload_n hx hb dX5_stepInto_19 rfl (lv_at hl 3 rfl) ?_
        refine z_V_i (As := [.int (zI (2)), .int (zI (((sRel S M : Nat) : Int)))]) (rest := []) (Wr := [(hg, .inl (D.2 0, 3, .inl (upd (upd G 0 (zI (sSlo S M 0))) 1 (zI (sSlo S M 1))))), (ht, .inl (D.2 0, 3, .inl (TT)))]) ⟨hx, hb, hml, hown, hts⟩ (c_X5_slope2 l D ho hm hp hw hz h0 h1 h2 hl0 hbu hg S M ru sp so sw si al bb hokp (sRel S M) (by omega)) (cwV 2 hts gX5_stepInto_X5_slope rfl rfl rfl (by decide +kernel) ⟨Nat.le_of_ble_eq_true rfl, Nat.le_of_ble_eq_true rfl⟩) w (q0 := 0) rfl rfl rfl [0, 1, 4, 5, 6, 7, 8, 9, 10] rfl (by decide) [2, 3] rfl (by decide) (by decide) rfl hl.1 rfl (lv_room (Nat.le_of_ble_eq_true rfl)) dX5_stepInto_20 ⟨Nat.zero_le _, Nat.zero_le _⟩ (fun r W1 H locs hp w => ?_)
        obtain ⟨rfl, rfl⟩ := hp
        have w : zW D A s.heap s [(ho, .inr (5, [.ref hp, .ref hbu, .ref hm, .ref hg, .int (zI (ru)), .int (zI (sp)), .int (zI (so)), .int (zI (sw)), .int (zI (si)), .int (zI (al)), .long (zL (bb))])), (hm, .inl (D.2 0, 3, .inl (fMu M))), (hg, .inl (D.2 0, 3, .inl (upd (upd G 0 (zI (sSlo S M 0))) 1 (zI (sSlo S M 1))))), (ht, .inl (D.2 0, 3, .inl (TT))), (hp, .inr (2, [.ref hw, .ref hz, .ref hl0, .int (zI (S 0))])), (hw, .inl (D.2 0, 16, .inl (fC S 0))), (hz, .inl (D.2 5, 3, .inr (.inr (.inr (.inr (f3 h0 h1 h2)))))), (h0, .inl (D.2 0, 16, .inl (fC S 1))), (h1, .inl (D.2 0, 16, .inl (fC S 2))), (h2, .inl (D.2 0, 16, .inl (fC S 3))), (hl0, .inl (D.2 0, 3, .inl (fLm S)))] H locs := w.sub [2, 3, 0, 1, 4, 5, 6, 7, 8, 9, 10] (by decide) rfl
        refine lv_istore (lv' := [(6, .int (zI (sSlo S M 2))), (5, .int (zI (2))), (3, .long (zL ((0 + ((sSlo S M 0) * (sSlo S M 0))) + ((sSlo S M 1) * (sSlo S M 1))))), (2, .int (zI (((sRel S M : Nat) : Int)))), (0, .ref ho), (1, .ref ht)]) hx hb dX5_stepInto_23 hl (by decide) rfl (fun ls hl => ?_)
        refine lv_aload_n hx hb dX5_stepInto_25 rfl (lv_at hl 4 rfl) ?_
        refine z_get hx hb hown hts w inX5 0 3 rfl rfl (by decide) f_29 rfl rfl dX5_stepInto_26 ?_
        refine lv_iload hx hb dX5_stepInto_29 (lv_at hl 1 rfl) ?_
        refine lv_iload hx hb dX5_stepInto_31 (lv_at hl 0 rfl) ?_
        refine z_iast hx hb w 2 rfl 2 (by omega) (by decide) rfl dX5_stepInto_33 (fMu (sSlo S M)) (fun i hi => upd3 (g := fMu (sSlo S M)) (fMu_at (by omega)).symm (fMu_at (by omega)).symm (fMu_at (by omega)).symm hi) (fun H locs w => ?_)
        have w : zW D A s.heap s [(ho, .inr (5, [.ref hp, .ref hbu, .ref hm, .ref hg, .int (zI (ru)), .int (zI (sp)), .int (zI (so)), .int (zI (sw)), .int (zI (si)), .int (zI (al)), .long (zL (bb))])), (hm, .inl (D.2 0, 3, .inl (fMu M))), (hg, .inl (D.2 0, 3, .inl (fMu (sSlo S M)))), (ht, .inl (D.2 0, 3, .inl (TT))), (hp, .inr (2, [.ref hw, .ref hz, .ref hl0, .int (zI (S 0))])), (hw, .inl (D.2 0, 16, .inl (fC S 0))), (hz, .inl (D.2 5, 3, .inr (.inr (.inr (.inr (f3 h0 h1 h2)))))), (h0, .inl (D.2 0, 16, .inl (fC S 1))), (h1, .inl (D.2 0, 16, .inl (fC S 2))), (h2, .inl (D.2 0, 16, .inl (fC S 3))), (hl0, .inl (D.2 0, 3, .inl (fLm S)))] H locs := w
        refine lv_lload_n hx hb dX5_stepInto_34 rfl (lv_at hl 2 rfl) ?_
        refine lv_iload hx hb dX5_stepInto_35 (lv_at hl 0 rfl) ?_
        refine lv_iload hx hb dX5_stepInto_37 (lv_at hl 0 rfl) ?_
        refine z_imul hx hb dX5_stepInto_39 ?_
        refine z_i2l hx hb (by omega) dX5_stepInto_40 ?_
        refine z_ladd hx hb dX5_stepInto_41 ?_
        refine lv_lstore_n (lv' := [(3, .long (zL (((0 + ((sSlo S M 0) * (sSlo S M 0))) + ((sSlo S M 1) * (sSlo S M 1))) + ((sSlo S M 2) * (sSlo S M 2))))), (6, .int (zI (sSlo S M 2))), (5, .int (zI (2))), (2, .int (zI (((sRel S M : Nat) : Int)))), (0, .ref ho), (1, .ref ht)]) hx hb dX5_stepInto_42 rfl hl (by decide) rfl (fun ls hl => ?_)
        refine z_iinc (lv' := [(5, .int (zI (2 + 1))), (3, .long (zL (((0 + ((sSlo S M 0) * (sSlo S M 0))) + ((sSlo S M 1) * (sSlo S M 1))) + ((sSlo S M 2) * (sSlo S M 2))))), (6, .int (zI (sSlo S M 2))), (2, .int (zI (((sRel S M : Nat) : Int)))), (0, .ref ho), (1, .ref ht)]) hx hb dX5_stepInto_43 hl (k := 2) rfl (by decide) rfl (fun ls hl => ?_)
        have hl : lv_has ls 10 [(5, .int (zI (3))), (3, .long (zL (((0 + ((sSlo S M 0) * (sSlo S M 0))) + ((sSlo S M 1) * (sSlo S M 1))) + ((sSlo S M 2) * (sSlo S M 2))))), (6, .int (zI (sSlo S M 2))), (2, .int (zI (((sRel S M : Nat) : Int)))), (0, .ref ho), (1, .ref ht)] := hl
        refine lv_goto (tgt := 10) hx hb dX5_stepInto_46 (by decide) ?_
        refine lv_iload hx hb dX5_stepInto_10 (lv_at hl 0 rfl) ?_
        refine lv_iconst (v := zI 3) hx hb dX5_stepInto_12 rfl ?_
        refine z_icmp_ge (tgt := 49) hx hb (by omega) (by omega) dX5_stepInto_13 (by decide) (fun c13 => ?_) (fun c13 => ?_)
        · skip
          refine lv_aload_n hx hb dX5_stepInto_49 rfl (lv_at hl 4 rfl) ?_
          refine lv_lload_n hx hb dX5_stepInto_50 rfl (lv_at hl 1 rfl) ?_
          refine z_V_l (As := [.long (zL (((0 + ((sSlo S M 0) * (sSlo S M 0))) + ((sSlo S M 1) * (sSlo S M 1))) + ((sSlo S M 2) * (sSlo S M 2))))]) (rest := []) (Wr := [(hg, .inl (D.2 0, 3, .inl (fMu (sSlo S M)))), (ht, .inl (D.2 0, 3, .inl (TT)))]) ⟨hx, hb, hml, hown, hts⟩ (c_X5_length l D ho hm hp hw hz h0 h1 h2 hl0 hbu hg S M ru sp so sw si al bb hokp hokm (sSq S M) (by have := sSq_b (M := M) hok; omega) hru hsp hsi hsw hhu) (cwV 1 hts gX5_stepInto_X5_length rfl rfl rfl (by decide +kernel) ⟨Nat.le_of_ble_eq_true rfl, Nat.le_of_ble_eq_true rfl⟩) w (q0 := 0) rfl rfl rfl [0, 1, 4, 5, 6, 7, 8, 9, 10] rfl (by decide) [2, 3] rfl (by decide) (by decide) rfl hl.1 rfl (lv_room (Nat.le_of_ble_eq_true rfl)) dX5_stepInto_51 ⟨Nat.zero_le _, Nat.zero_le _⟩ (fun r W1 H locs hp w => ?_)
          obtain ⟨rfl, rfl⟩ := hp
          have w : zW D A s.heap s [(ho, .inr (5, [.ref hp, .ref hbu, .ref hm, .ref hg, .int (zI (ru)), .int (zI (sp)), .int (zI (so)), .int (zI (sw)), .int (zI (si)), .int (zI (al)), .long (zL (bb))])), (hm, .inl (D.2 0, 3, .inl (fMu M))), (hg, .inl (D.2 0, 3, .inl (fMu (sSlo S M)))), (ht, .inl (D.2 0, 3, .inl (TT))), (hp, .inr (2, [.ref hw, .ref hz, .ref hl0, .int (zI (S 0))])), (hw, .inl (D.2 0, 16, .inl (fC S 0))), (hz, .inl (D.2 5, 3, .inr (.inr (.inr (.inr (f3 h0 h1 h2)))))), (h0, .inl (D.2 0, 16, .inl (fC S 1))), (h1, .inl (D.2 0, 16, .inl (fC S 2))), (h2, .inl (D.2 0, 16, .inl (fC S 3))), (hl0, .inl (D.2 0, 3, .inl (fLm S)))] H locs := w.sub [2, 3, 0, 1, 4, 5, 6, 7, 8, 9, 10] (by decide) rfl
          refine lv_lstore (lv' := [(5, .long (zL (sLen ru sp si (sHu sw) (sBd S M) (sSq S M)))), (3, .long (zL (((0 + ((sSlo S M 0) * (sSlo S M 0))) + ((sSlo S M 1) * (sSlo S M 1))) + ((sSlo S M 2) * (sSlo S M 2))))), (2, .int (zI (((sRel S M : Nat) : Int)))), (0, .ref ho), (1, .ref ht)]) hx hb dX5_stepInto_54 hl (by decide) rfl (fun ls hl => ?_)
          refine lv_iconst (v := zI 0) hx hb dX5_stepInto_56 rfl ?_
          refine lv_istore (lv' := [(7, .int (zI (0))), (5, .long (zL (sLen ru sp si (sHu sw) (sBd S M) (sSq S M)))), (3, .long (zL (((0 + ((sSlo S M 0) * (sSlo S M 0))) + ((sSlo S M 1) * (sSlo S M 1))) + ((sSlo S M 2) * (sSlo S M 2))))), (2, .int (zI (((sRel S M : Nat) : Int)))), (0, .ref ho), (1, .ref ht)]) hx hb dX5_stepInto_57 hl (by decide) rfl (fun ls hl => ?_)
          refine lv_iload hx hb dX5_stepInto_59 (lv_at hl 0 rfl) ?_
          refine lv_iconst (v := zI 3) hx hb dX5_stepInto_61 rfl ?_
          refine z_icmp_ge (tgt := 110) hx hb (by omega) (by omega) dX5_stepInto_62 (by decide) (fun c62 => ?_) (fun c62 => ?_)
          · skip
            exact absurd c62 (by omega)
          · skip
            refine lv_aload_n hx hb dX5_stepInto_65 rfl (lv_at hl 4 rfl) ?_
            refine z_get hx hb hown hts w inX5 0 2 rfl rfl (by decide) f_25 rfl rfl dX5_stepInto_66 ?_
            refine lv_iload hx hb dX5_stepInto_69 (lv_at hl 0 rfl) ?_
            refine z_iald hx hb w 1 rfl 0 (by omega) (by decide) rfl (v := (zI (M 0))) (if_pos (by omega)) dX5_stepInto_71 ?_
            refine z_i2l hx hb (by omega) dX5_stepInto_72 ?_
            refine lv_lload hx hb dX5_stepInto_73 (lv_at hl 1 rfl) ?_
            refine lv_aload_n hx hb dX5_stepInto_75 rfl (lv_at hl 4 rfl) ?_
            refine z_get hx hb hown hts w inX5 0 3 rfl rfl (by decide) f_29 rfl rfl dX5_stepInto_76 ?_
            refine lv_iload hx hb dX5_stepInto_79 (lv_at hl 0 rfl) ?_
            refine z_iald hx hb w 2 rfl 0 (by omega) (by decide) rfl (v := (zI (sSlo S M 0))) (if_pos (by omega)) dX5_stepInto_81 ?_
            refine z_i2l hx hb (by omega) dX5_stepInto_82 ?_
            refine z_lmul hx hb dX5_stepInto_83 ?_
            refine z_ladd hx hb dX5_stepInto_84 ?_
            refine lv_lstore (lv' := [(8, .long (zL ((M 0) + ((sLen ru sp si (sHu sw) (sBd S M) (sSq S M)) * (sSlo S M 0))))), (7, .int (zI (0))), (5, .long (zL (sLen ru sp si (sHu sw) (sBd S M) (sSq S M)))), (3, .long (zL (((0 + ((sSlo S M 0) * (sSlo S M 0))) + ((sSlo S M 1) * (sSlo S M 1))) + ((sSlo S M 2) * (sSlo S M 2))))), (2, .int (zI (((sRel S M : Nat) : Int)))), (0, .ref ho), (1, .ref ht)]) hx hb dX5_stepInto_85 hl (by decide) rfl (fun ls hl => ?_)
            refine lv_aload_n hx hb dX5_stepInto_87 rfl (lv_at hl 6 rfl) ?_
            refine lv_iload hx hb dX5_stepInto_88 (lv_at hl 1 rfl) ?_
            refine lv_lconst (v := zL 0) hx hb dX5_stepInto_90 rfl ?_
            refine lv_ldc2 (v := zL 999999) hx hb hown (hts (.constantLong RX5 149 (zL 999999)) (by decide +kernel)) dX5_stepInto_91 ?_
            refine lv_lload hx hb dX5_stepInto_94 (lv_at hl 0 rfl) ?_
            refine z_minl hx hb (by rw [hml]; exact hl.1.symm) hown mm_151_l mm_151_s mm_151_i mm_151_c (Nat.le_of_ble_eq_true rfl) (Nat.le_of_ble_eq_true rfl) (Nat.zero_le _) (Nat.zero_le _) (by omega) (by omega) dX5_stepInto_96 ?_
            refine z_maxl hx hb (by rw [hml]; exact hl.1.symm) hown mm_157_l mm_157_s mm_157_i mm_157_c (Nat.le_of_ble_eq_true rfl) (Nat.le_of_ble_eq_true rfl) (Nat.zero_le _) (Nat.zero_le _) (by omega) (by omega) dX5_stepInto_99 ?_
            refine z_l2i hx hb dX5_stepInto_102 ?_
            refine z_iast hx hb w 3 rfl 0 (by omega) (by decide) rfl dX5_stepInto_103 (upd TT 0 (zI ((sMo M (sLen ru sp si (sHu sw) (sBd S M) (sSq S M)) (sSlo S M)) 0))) (fun _ _ => rfl) (fun H locs w => ?_)
            have w : zW D A s.heap s [(ho, .inr (5, [.ref hp, .ref hbu, .ref hm, .ref hg, .int (zI (ru)), .int (zI (sp)), .int (zI (so)), .int (zI (sw)), .int (zI (si)), .int (zI (al)), .long (zL (bb))])), (hm, .inl (D.2 0, 3, .inl (fMu M))), (hg, .inl (D.2 0, 3, .inl (fMu (sSlo S M)))), (ht, .inl (D.2 0, 3, .inl (upd TT 0 (zI ((sMo M (sLen ru sp si (sHu sw) (sBd S M) (sSq S M)) (sSlo S M)) 0))))), (hp, .inr (2, [.ref hw, .ref hz, .ref hl0, .int (zI (S 0))])), (hw, .inl (D.2 0, 16, .inl (fC S 0))), (hz, .inl (D.2 5, 3, .inr (.inr (.inr (.inr (f3 h0 h1 h2)))))), (h0, .inl (D.2 0, 16, .inl (fC S 1))), (h1, .inl (D.2 0, 16, .inl (fC S 2))), (h2, .inl (D.2 0, 16, .inl (fC S 3))), (hl0, .inl (D.2 0, 3, .inl (fLm S)))] H locs := w
            refine z_iinc (lv' := [(7, .int (zI (0 + 1))), (8, .long (zL ((M 0) + ((sLen ru sp si (sHu sw) (sBd S M) (sSq S M)) * (sSlo S M 0))))), (5, .long (zL (sLen ru sp si (sHu sw) (sBd S M) (sSq S M)))), (3, .long (zL (((0 + ((sSlo S M 0) * (sSlo S M 0))) + ((sSlo S M 1) * (sSlo S M 1))) + ((sSlo S M 2) * (sSlo S M 2))))), (2, .int (zI (((sRel S M : Nat) : Int)))), (0, .ref ho), (1, .ref ht)]) hx hb dX5_stepInto_104 hl (k := 1) rfl (by decide) rfl (fun ls hl => ?_)
            have hl : lv_has ls 10 [(7, .int (zI (1))), (8, .long (zL ((M 0) + ((sLen ru sp si (sHu sw) (sBd S M) (sSq S M)) * (sSlo S M 0))))), (5, .long (zL (sLen ru sp si (sHu sw) (sBd S M) (sSq S M)))), (3, .long (zL (((0 + ((sSlo S M 0) * (sSlo S M 0))) + ((sSlo S M 1) * (sSlo S M 1))) + ((sSlo S M 2) * (sSlo S M 2))))), (2, .int (zI (((sRel S M : Nat) : Int)))), (0, .ref ho), (1, .ref ht)] := hl
            refine lv_goto (tgt := 59) hx hb dX5_stepInto_107 (by decide) ?_
            refine lv_iload hx hb dX5_stepInto_59 (lv_at hl 0 rfl) ?_
            refine lv_iconst (v := zI 3) hx hb dX5_stepInto_61 rfl ?_
            refine z_icmp_ge (tgt := 110) hx hb (by omega) (by omega) dX5_stepInto_62 (by decide) (fun c62 => ?_) (fun c62 => ?_)
            · skip
              exact absurd c62 (by omega)
            · skip
              refine lv_aload_n hx hb dX5_stepInto_65 rfl (lv_at hl 5 rfl) ?_
              refine z_get hx hb hown hts w inX5 0 2 rfl rfl (by decide) f_25 rfl rfl dX5_stepInto_66 ?_
              refine lv_iload hx hb dX5_stepInto_69 (lv_at hl 0 rfl) ?_
              refine z_iald hx hb w 1 rfl 1 (by omega) (by decide) rfl (v := (zI (M 1))) (if_pos (by omega)) dX5_stepInto_71 ?_
              refine z_i2l hx hb (by omega) dX5_stepInto_72 ?_
              refine lv_lload hx hb dX5_stepInto_73 (lv_at hl 2 rfl) ?_
              refine lv_aload_n hx hb dX5_stepInto_75 rfl (lv_at hl 5 rfl) ?_
              refine z_get hx hb hown hts w inX5 0 3 rfl rfl (by decide) f_29 rfl rfl dX5_stepInto_76 ?_
              refine lv_iload hx hb dX5_stepInto_79 (lv_at hl 0 rfl) ?_
              refine z_iald hx hb w 2 rfl 1 (by omega) (by decide) rfl (v := (zI (sSlo S M 1))) (if_pos (by omega)) dX5_stepInto_81 ?_
              refine z_i2l hx hb (by omega) dX5_stepInto_82 ?_
              refine z_lmul hx hb dX5_stepInto_83 ?_
              refine z_ladd hx hb dX5_stepInto_84 ?_
              refine lv_lstore (lv' := [(8, .long (zL ((M 1) + ((sLen ru sp si (sHu sw) (sBd S M) (sSq S M)) * (sSlo S M 1))))), (7, .int (zI (1))), (5, .long (zL (sLen ru sp si (sHu sw) (sBd S M) (sSq S M)))), (3, .long (zL (((0 + ((sSlo S M 0) * (sSlo S M 0))) + ((sSlo S M 1) * (sSlo S M 1))) + ((sSlo S M 2) * (sSlo S M 2))))), (2, .int (zI (((sRel S M : Nat) : Int)))), (0, .ref ho), (1, .ref ht)]) hx hb dX5_stepInto_85 hl (by decide) rfl (fun ls hl => ?_)
              refine lv_aload_n hx hb dX5_stepInto_87 rfl (lv_at hl 6 rfl) ?_
              refine lv_iload hx hb dX5_stepInto_88 (lv_at hl 1 rfl) ?_
              refine lv_lconst (v := zL 0) hx hb dX5_stepInto_90 rfl ?_
              refine lv_ldc2 (v := zL 999999) hx hb hown (hts (.constantLong RX5 149 (zL 999999)) (by decide +kernel)) dX5_stepInto_91 ?_
              refine lv_lload hx hb dX5_stepInto_94 (lv_at hl 0 rfl) ?_
              refine z_minl hx hb (by rw [hml]; exact hl.1.symm) hown mm_151_l mm_151_s mm_151_i mm_151_c (Nat.le_of_ble_eq_true rfl) (Nat.le_of_ble_eq_true rfl) (Nat.zero_le _) (Nat.zero_le _) (by omega) (by omega) dX5_stepInto_96 ?_
              refine z_maxl hx hb (by rw [hml]; exact hl.1.symm) hown mm_157_l mm_157_s mm_157_i mm_157_c (Nat.le_of_ble_eq_true rfl) (Nat.le_of_ble_eq_true rfl) (Nat.zero_le _) (Nat.zero_le _) (by omega) (by omega) dX5_stepInto_99 ?_
              refine z_l2i hx hb dX5_stepInto_102 ?_
              refine z_iast hx hb w 3 rfl 1 (by omega) (by decide) rfl dX5_stepInto_103 (upd (upd TT 0 (zI ((sMo M (sLen ru sp si (sHu sw) (sBd S M) (sSq S M)) (sSlo S M)) 0))) 1 (zI ((sMo M (sLen ru sp si (sHu sw) (sBd S M) (sSq S M)) (sSlo S M)) 1))) (fun _ _ => rfl) (fun H locs w => ?_)
              have w : zW D A s.heap s [(ho, .inr (5, [.ref hp, .ref hbu, .ref hm, .ref hg, .int (zI (ru)), .int (zI (sp)), .int (zI (so)), .int (zI (sw)), .int (zI (si)), .int (zI (al)), .long (zL (bb))])), (hm, .inl (D.2 0, 3, .inl (fMu M))), (hg, .inl (D.2 0, 3, .inl (fMu (sSlo S M)))), (ht, .inl (D.2 0, 3, .inl (upd (upd TT 0 (zI ((sMo M (sLen ru sp si (sHu sw) (sBd S M) (sSq S M)) (sSlo S M)) 0))) 1 (zI ((sMo M (sLen ru sp si (sHu sw) (sBd S M) (sSq S M)) (sSlo S M)) 1))))), (hp, .inr (2, [.ref hw, .ref hz, .ref hl0, .int (zI (S 0))])), (hw, .inl (D.2 0, 16, .inl (fC S 0))), (hz, .inl (D.2 5, 3, .inr (.inr (.inr (.inr (f3 h0 h1 h2)))))), (h0, .inl (D.2 0, 16, .inl (fC S 1))), (h1, .inl (D.2 0, 16, .inl (fC S 2))), (h2, .inl (D.2 0, 16, .inl (fC S 3))), (hl0, .inl (D.2 0, 3, .inl (fLm S)))] H locs := w
              refine z_iinc (lv' := [(7, .int (zI (1 + 1))), (8, .long (zL ((M 1) + ((sLen ru sp si (sHu sw) (sBd S M) (sSq S M)) * (sSlo S M 1))))), (5, .long (zL (sLen ru sp si (sHu sw) (sBd S M) (sSq S M)))), (3, .long (zL (((0 + ((sSlo S M 0) * (sSlo S M 0))) + ((sSlo S M 1) * (sSlo S M 1))) + ((sSlo S M 2) * (sSlo S M 2))))), (2, .int (zI (((sRel S M : Nat) : Int)))), (0, .ref ho), (1, .ref ht)]) hx hb dX5_stepInto_104 hl (k := 1) rfl (by decide) rfl (fun ls hl => ?_)
              have hl : lv_has ls 10 [(7, .int (zI (2))), (8, .long (zL ((M 1) + ((sLen ru sp si (sHu sw) (sBd S M) (sSq S M)) * (sSlo S M 1))))), (5, .long (zL (sLen ru sp si (sHu sw) (sBd S M) (sSq S M)))), (3, .long (zL (((0 + ((sSlo S M 0) * (sSlo S M 0))) + ((sSlo S M 1) * (sSlo S M 1))) + ((sSlo S M 2) * (sSlo S M 2))))), (2, .int (zI (((sRel S M : Nat) : Int)))), (0, .ref ho), (1, .ref ht)] := hl
              refine lv_goto (tgt := 59) hx hb dX5_stepInto_107 (by decide) ?_
              refine lv_iload hx hb dX5_stepInto_59 (lv_at hl 0 rfl) ?_
              refine lv_iconst (v := zI 3) hx hb dX5_stepInto_61 rfl ?_
              refine z_icmp_ge (tgt := 110) hx hb (by omega) (by omega) dX5_stepInto_62 (by decide) (fun c62 => ?_) (fun c62 => ?_)
              · skip
                exact absurd c62 (by omega)
              · skip
                refine lv_aload_n hx hb dX5_stepInto_65 rfl (lv_at hl 5 rfl) ?_
                refine z_get hx hb hown hts w inX5 0 2 rfl rfl (by decide) f_25 rfl rfl dX5_stepInto_66 ?_
                refine lv_iload hx hb dX5_stepInto_69 (lv_at hl 0 rfl) ?_
                refine z_iald hx hb w 1 rfl 2 (by omega) (by decide) rfl (v := (zI (M 2))) (if_pos (by omega)) dX5_stepInto_71 ?_
                refine z_i2l hx hb (by omega) dX5_stepInto_72 ?_
                refine lv_lload hx hb dX5_stepInto_73 (lv_at hl 2 rfl) ?_
                refine lv_aload_n hx hb dX5_stepInto_75 rfl (lv_at hl 5 rfl) ?_
                refine z_get hx hb hown hts w inX5 0 3 rfl rfl (by decide) f_29 rfl rfl dX5_stepInto_76 ?_
                refine lv_iload hx hb dX5_stepInto_79 (lv_at hl 0 rfl) ?_
                refine z_iald hx hb w 2 rfl 2 (by omega) (by decide) rfl (v := (zI (sSlo S M 2))) (if_pos (by omega)) dX5_stepInto_81 ?_
                refine z_i2l hx hb (by omega) dX5_stepInto_82 ?_
                refine z_lmul hx hb dX5_stepInto_83 ?_
                refine z_ladd hx hb dX5_stepInto_84 ?_
                refine lv_lstore (lv' := [(8, .long (zL ((M 2) + ((sLen ru sp si (sHu sw) (sBd S M) (sSq S M)) * (sSlo S M 2))))), (7, .int (zI (2))), (5, .long (zL (sLen ru sp si (sHu sw) (sBd S M) (sSq S M)))), (3, .long (zL (((0 + ((sSlo S M 0) * (sSlo S M 0))) + ((sSlo S M 1) * (sSlo S M 1))) + ((sSlo S M 2) * (sSlo S M 2))))), (2, .int (zI (((sRel S M : Nat) : Int)))), (0, .ref ho), (1, .ref ht)]) hx hb dX5_stepInto_85 hl (by decide) rfl (fun ls hl => ?_)
                refine lv_aload_n hx hb dX5_stepInto_87 rfl (lv_at hl 6 rfl) ?_
                refine lv_iload hx hb dX5_stepInto_88 (lv_at hl 1 rfl) ?_
                refine lv_lconst (v := zL 0) hx hb dX5_stepInto_90 rfl ?_
                refine lv_ldc2 (v := zL 999999) hx hb hown (hts (.constantLong RX5 149 (zL 999999)) (by decide +kernel)) dX5_stepInto_91 ?_
                refine lv_lload hx hb dX5_stepInto_94 (lv_at hl 0 rfl) ?_
                refine z_minl hx hb (by rw [hml]; exact hl.1.symm) hown mm_151_l mm_151_s mm_151_i mm_151_c (Nat.le_of_ble_eq_true rfl) (Nat.le_of_ble_eq_true rfl) (Nat.zero_le _) (Nat.zero_le _) (by omega) (by omega) dX5_stepInto_96 ?_
                refine z_maxl hx hb (by rw [hml]; exact hl.1.symm) hown mm_157_l mm_157_s mm_157_i mm_157_c (Nat.le_of_ble_eq_true rfl) (Nat.le_of_ble_eq_true rfl) (Nat.zero_le _) (Nat.zero_le _) (by omega) (by omega) dX5_stepInto_99 ?_
                refine z_l2i hx hb dX5_stepInto_102 ?_
                refine z_iast hx hb w 3 rfl 2 (by omega) (by decide) rfl dX5_stepInto_103 (fMu (sMo M (sLen ru sp si (sHu sw) (sBd S M) (sSq S M)) (sSlo S M))) (fun i hi => upd3 (g := fMu (sMo M (sLen ru sp si (sHu sw) (sBd S M) (sSq S M)) (sSlo S M))) (fMu_at (by omega)).symm (fMu_at (by omega)).symm (fMu_at (by omega)).symm hi) (fun H locs w => ?_)
                have w : zW D A s.heap s [(ho, .inr (5, [.ref hp, .ref hbu, .ref hm, .ref hg, .int (zI (ru)), .int (zI (sp)), .int (zI (so)), .int (zI (sw)), .int (zI (si)), .int (zI (al)), .long (zL (bb))])), (hm, .inl (D.2 0, 3, .inl (fMu M))), (hg, .inl (D.2 0, 3, .inl (fMu (sSlo S M)))), (ht, .inl (D.2 0, 3, .inl (fMu (sMo M (sLen ru sp si (sHu sw) (sBd S M) (sSq S M)) (sSlo S M))))), (hp, .inr (2, [.ref hw, .ref hz, .ref hl0, .int (zI (S 0))])), (hw, .inl (D.2 0, 16, .inl (fC S 0))), (hz, .inl (D.2 5, 3, .inr (.inr (.inr (.inr (f3 h0 h1 h2)))))), (h0, .inl (D.2 0, 16, .inl (fC S 1))), (h1, .inl (D.2 0, 16, .inl (fC S 2))), (h2, .inl (D.2 0, 16, .inl (fC S 3))), (hl0, .inl (D.2 0, 3, .inl (fLm S)))] H locs := w
                refine z_iinc (lv' := [(7, .int (zI (2 + 1))), (8, .long (zL ((M 2) + ((sLen ru sp si (sHu sw) (sBd S M) (sSq S M)) * (sSlo S M 2))))), (5, .long (zL (sLen ru sp si (sHu sw) (sBd S M) (sSq S M)))), (3, .long (zL (((0 + ((sSlo S M 0) * (sSlo S M 0))) + ((sSlo S M 1) * (sSlo S M 1))) + ((sSlo S M 2) * (sSlo S M 2))))), (2, .int (zI (((sRel S M : Nat) : Int)))), (0, .ref ho), (1, .ref ht)]) hx hb dX5_stepInto_104 hl (k := 1) rfl (by decide) rfl (fun ls hl => ?_)
                have hl : lv_has ls 10 [(7, .int (zI (3))), (8, .long (zL ((M 2) + ((sLen ru sp si (sHu sw) (sBd S M) (sSq S M)) * (sSlo S M 2))))), (5, .long (zL (sLen ru sp si (sHu sw) (sBd S M) (sSq S M)))), (3, .long (zL (((0 + ((sSlo S M 0) * (sSlo S M 0))) + ((sSlo S M 1) * (sSlo S M 1))) + ((sSlo S M 2) * (sSlo S M 2))))), (2, .int (zI (((sRel S M : Nat) : Int)))), (0, .ref ho), (1, .ref ht)] := hl
                refine lv_goto (tgt := 59) hx hb dX5_stepInto_107 (by decide) ?_
                refine lv_iload hx hb dX5_stepInto_59 (lv_at hl 0 rfl) ?_
                refine lv_iconst (v := zI 3) hx hb dX5_stepInto_61 rfl ?_
                refine z_icmp_ge (tgt := 110) hx hb (by omega) (by omega) dX5_stepInto_62 (by decide) (fun c62 => ?_) (fun c62 => ?_)
                · skip
                  exact z_vret hx hb hr hlocks w dX5_stepInto_110 rfl
                · skip
                  exact absurd c62 (by omega)
        · skip
          exact absurd c13 (by omega)
