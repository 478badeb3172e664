set_option maxHeartbeats 6000000 in
set_option maxRecDepth 100000 in
theorem c_X6_within (l : Launch) (D : zD) (v a b : Int) (hv : zB v) (ha : zB a) (hb1 : zB b) : zM l yX6_within wsX6_within (zR 0) zE0 D [.int (zI (v)), .int (zI (a)), .int (zI (b))] [] (zQi D (fun r W1 => r = zI (zb (a ≤ v ∧ v ≤ b)) ∧ W1 = [])) := by
  refine zM.of (cc := cX6_within) (maxL := 3) (ret := (some .boolean)) (by decide) rfl (Nat.le_of_ble_eq_true rfl) ?_
  intro p e s m below meth c A hx hb hml hown hts hr hlocks hE hnm w ls hl
  have hown : s.vm.findClass RX6 = some m.cls := hown
  have hl : lv_has ls 3 [(0, .int (zI (v))), (1, .int (zI (a))), (2, .int (zI (b)))] := hl
  refine lv_iload_n hx hb dX6_within_0 rfl (lv_at hl 0 rfl) ?_
  refine lv_iload_n hx hb dX6_within_1 rfl (lv_at hl 1 rfl) ?_
  refine z_icmp_lt (tgt := 14) hx hb (by omega) (by omega) dX6_within_2 (by decide) (fun c2 => ?_) (fun c2 => ?_)
  · skip
    refine lv_iconst (v := zI 0) hx hb dX6_within_14 rfl ?_
    exact z_zret hx hb hr hlocks w dX6_within_15 (by omega) ⟨by first | rw [zb_t (by omega)] | rw [zb_f (by omega)], rfl⟩
  · skip
    refine lv_iload_n hx hb dX6_within_5 rfl (lv_at hl 0 rfl) ?_
    refine lv_iload_n hx hb dX6_within_6 rfl (lv_at hl 2 rfl) ?_
    refine z_icmp_gt (tgt := 14) hx hb (by omega) (by omega) dX6_within_7 (by decide) (fun c7 => ?_) (fun c7 => ?_)
    · skip
      refine lv_iconst (v := zI 0) hx hb dX6_within_14 rfl ?_
      exact z_zret hx hb hr hlocks w dX6_within_15 (by omega) ⟨by first | rw [zb_t (by omega)] | rw [zb_f (by omega)], rfl⟩
    · skip
      refine lv_iconst (v := zI 1) hx hb dX6_within_10 rfl ?_
      refine lv_goto (tgt := 15) hx hb dX6_within_11 (by decide) ?_
      exact z_zret hx hb hr hlocks w dX6_within_15 (by omega) ⟨by first | rw [zb_t (by omega)] | rw [zb_f (by omega)], rfl⟩
set_option maxHeartbeats 6000000 in
set_option maxRecDepth 100000 in
theorem c_X6_isDimension (l : Launch) (D : zD) (v : Int) (hv : zB v) : zM l yX6_isDimension wsX6_isDimension (zR 1) zE0 D [.int (zI (v))] [] (zQi D (fun r W1 => r = zI (zb (0 ≤ v ∧ v ≤ 2)) ∧ W1 = [])) := by
  refine zM.of (cc := cX6_isDimension) (maxL := 1) (ret := (some .boolean)) (by decide) rfl (Nat.le_of_ble_eq_true rfl) ?_
  intro p e s m below meth c A hx hb hml hown hts hr hlocks hE hnm w ls hl
  have hown : s.vm.findClass RX6 = some m.cls := hown
  have hl : lv_has ls 1 [(0, .int (zI (v)))] := hl
  refine lv_iload_n hx hb dX6_isDimension_0 rfl (lv_at hl 0 rfl) ?_
  refine lv_iconst (v := zI 0) hx hb dX6_isDimension_1 rfl ?_
  refine lv_iconst (v := zI 2) hx hb dX6_isDimension_2 rfl ?_
  refine z_S_i (As := [.int (zI (v)), .int (zI (0)), .int (zI (2))]) (rest := []) (Wr := []) ⟨hx, hb, hml, hown, hts⟩ (c_X6_within l D v 0 2 (by omega) (by omega) (by omega)) (va_cwS 3 hts gX6_isDimension_X6_within rfl rfl rfl (by decide +kernel) ⟨Nat.le_of_ble_eq_true rfl, Nat.le_of_ble_eq_true rfl⟩) w [] rfl (by decide) [] rfl (by decide) (by decide) rfl hl.1 rfl (lv_room (Nat.le_of_ble_eq_true rfl)) dX6_isDimension_3 ⟨Nat.zero_le _, Nat.zero_le _⟩ (fun r W1 H locs hp w => ?_)
  obtain ⟨rfl, rfl⟩ := hp
  exact z_zret hx hb hr hlocks w dX6_isDimension_6 (zb_01 _) ⟨rfl, rfl⟩
set_option maxHeartbeats 6000000 in
set_option maxRecDepth 100000 in
theorem c_X6_isIn (l : Launch) (D : zD) (i set : Nat) (hi : i < 32) (hs : set < 2147483648) : zM l yX6_isIn wsX6_isIn (zR 0) zE0 D [.int (zI (((i : Nat) : Int))), .int (zI (((set : Nat) : Int)))] [] (zQi D (fun r W1 => r = zI (zb (set.testBit i = true)) ∧ W1 = [])) := by
  refine zM.of (cc := cX6_isIn) (maxL := 2) (ret := (some .boolean)) (by decide) rfl (Nat.le_of_ble_eq_true rfl) ?_
  intro p e s m below meth c A hx hb hml hown hts hr hlocks hE hnm w ls hl
  have hown : s.vm.findClass RX6 = some m.cls := hown
  have hl : lv_has ls 2 [(0, .int (zI (((i : Nat) : Int)))), (1, .int (zI (((set : Nat) : Int))))] := hl
  refine lv_iload_n hx hb dX6_isIn_0 rfl (lv_at hl 1 rfl) ?_
  refine lv_iload_n hx hb dX6_isIn_1 rfl (lv_at hl 0 rfl) ?_
  refine z_ishr (a := set) (b := i) hx hb (by omega) dX6_isIn_2 ?_
  refine lv_iconst (v := zI 1) hx hb dX6_isIn_3 rfl ?_
  refine z_iand (a := set >>> i) (b := 1) hx hb dX6_isIn_4 ?_
  refine lv_iconst (v := zI 1) hx hb dX6_isIn_5 rfl ?_
  have hq := zt_le set i
  refine z_icmp_ne (tgt := 13) hx hb (by omega) (by omega) dX6_isIn_6 (by decide) (fun c6 => ?_) (fun c6 => ?_)
  · skip
    refine lv_iconst (v := zI 0) hx hb dX6_isIn_13 rfl ?_
    exact z_zret hx hb hr hlocks w dX6_isIn_14 (by omega) ⟨by rw [zb_f (fun q => by have := (zt_bit set i).mpr q; omega)], rfl⟩
  · skip
    refine lv_iconst (v := zI 1) hx hb dX6_isIn_9 rfl ?_
    refine lv_goto (tgt := 14) hx hb dX6_isIn_10 (by decide) ?_
    exact z_zret hx hb hr hlocks w dX6_isIn_14 (by omega) ⟨by rw [zb_t ((zt_bit set i).mp (by omega))], rfl⟩
set_option maxHeartbeats 6000000 in
set_option maxRecDepth 100000 in
theorem c_X6_oneIf (l : Launch) (D : zD) (P : Prop) [Decidable P] : zM l yX6_oneIf wsX6_oneIf (zR 0) zE0 D [.int (zI (zb (P)))] [] (zQi D (fun r W1 => r = zI (zb P) ∧ W1 = [])) := by
  refine zM.of (cc := cX6_oneIf) (maxL := 1) (ret := (some .int)) (by decide) rfl (Nat.le_of_ble_eq_true rfl) ?_
  intro p e s m below meth c A hx hb hml hown hts hr hlocks hE hnm w ls hl
  have hown : s.vm.findClass RX6 = some m.cls := hown
  have hl : lv_has ls 1 [(0, .int (zI (zb (P))))] := hl
  refine lv_iload_n hx hb dX6_oneIf_0 rfl (lv_at hl 0 rfl) ?_
  refine z_if_eq_b (tgt := 8) hx hb dX6_oneIf_1 (by decide) (fun c1 => ?_) (fun c1 => ?_)
  · skip
    refine lv_iconst (v := zI 0) hx hb dX6_oneIf_8 rfl ?_
    exact z_iret hx hb hr hlocks w dX6_oneIf_9 ⟨by rw [zb_f c1], rfl⟩
  · skip
    refine lv_iconst (v := zI 1) hx hb dX6_oneIf_4 rfl ?_
    refine lv_goto (tgt := 9) hx hb dX6_oneIf_5 (by decide) ?_
    exact z_iret hx hb hr hlocks w dX6_oneIf_9 ⟨by rw [zb_t c1], rfl⟩
set_option maxHeartbeats 6000000 in
set_option maxRecDepth 100000 in
theorem c_X2_has (l : Launch) (D : zD) (hp hw hz h0 h1 h2 hl0 : Nat) (S : Nat → Int) (hok : OkP S) (i : Int) (hi : zB i) : zM l yX2_has wsX2_has (zR 1) zE0 D [.ref hp, .int (zI (i))] (wPk D hp hw hz h0 h1 h2 hl0 S) (zQi D (fun r W1 => r = zI (zb (0 ≤ i ∧ i ≤ S 0 - 1)) ∧ W1 = (wPk D hp hw hz h0 h1 h2 hl0 S))) := by
  refine zM.of (cc := cX2_has) (maxL := 2) (ret := (some .boolean)) (by decide) rfl (Nat.le_of_ble_eq_true rfl) ?_
  intro p e s m below meth c A hx hb hml hown hts hr hlocks hE hnm w ls hl
  have hown : s.vm.findClass RX2 = some m.cls := hown
  have hl : lv_has ls 2 [(0, .ref hp), (1, .int (zI (i)))] := hl
  have f_23 : (Cond.fieldLink RX2 23 "RelaxedSteps$Packing" "items" "I").before _ s = true := hts _ (by decide +kernel)
  have inX2 : ∀ w ∈ u_ws RX2 TX2 4, w ∈ wsX2_has := by decide +kernel
  have hn := zn_eq hok
  have h16 := zn_le hok
  have hlim := hok.2.2
  have w : zW D A s.heap s [(hp, .inr (2, [.ref hw, .ref hz, .ref hl0, .int (zI (S 0))])), (hw, .inl (D.2 0, 16, .inl (fC S 0))), (hz, .inl (D.2 5, 3, .inr (.inr (.inr (.inr (f3 h0 h1 h2)))))), (h0, .inl (D.2 0, 16, .inl (fC S 1))), (h1, .inl (D.2 0, 16, .inl (fC S 2))), (h2, .inl (D.2 0, 16, .inl (fC S 3))), (hl0, .inl (D.2 0, 3, .inl (fLm S)))] s.heap [] := w
  refine lv_iload_n hx hb dX2_has_0 rfl (lv_at hl 1 rfl) ?_
  refine lv_iconst (v := zI 0) hx hb dX2_has_1 rfl ?_
  refine lv_aload_n hx hb dX2_has_2 rfl (lv_at hl 0 rfl) ?_
  refine z_get hx hb hown hts w inX2 0 3 rfl rfl (by decide) f_23 rfl rfl dX2_has_3 ?_
  refine lv_iconst (v := zI 1) hx hb dX2_has_6 rfl ?_
  refine z_isub hx hb dX2_has_7 ?_
  refine z_SN_i (As := [.int (zI (i)), .int (zI (0)), .int (zI ((S 0) - 1))]) (rest := []) (Wr := [(hp, .inr (2, [.ref hw, .ref hz, .ref hl0, .int (zI (S 0))])), (hw, .inl (D.2 0, 16, .inl (fC S 0))), (hz, .inl (D.2 5, 3, .inr (.inr (.inr (.inr (f3 h0 h1 h2)))))), (h0, .inl (D.2 0, 16, .inl (fC S 1))), (h1, .inl (D.2 0, 16, .inl (fC S 2))), (h2, .inl (D.2 0, 16, .inl (fC S 3))), (hl0, .inl (D.2 0, 3, .inl (fLm S)))]) ⟨hx, hb, hml, hown, hts⟩ (c_X6_within l D i 0 ((S 0) - 1) (by omega) (by omega) (by omega)) ⟨va_cnB 3 hts ggX2_has_X6_within rfl rfl rfl (w.1.2 (RX2, 39, yX6_within, "RelaxedSteps") (by decide +kernel)) (hts (.initialized RX6) (by decide +kernel)) (by decide +kernel) ⟨Nat.le_of_ble_eq_true rfl, Nat.le_of_ble_eq_true rfl⟩, hts (.static yX6_within) (by decide +kernel), trivial⟩ w [] rfl (by decide) [0, 1, 2, 3, 4, 5, 6] rfl (by decide) (by decide) rfl hl.1 rfl (lv_room (Nat.le_of_ble_eq_true rfl)) dX2_has_8 ⟨Nat.zero_le _, Nat.zero_le _⟩ (fun r W1 H locs hp w => ?_)
  obtain ⟨rfl, rfl⟩ := hp
  have w : zW D A s.heap s [(hp, .inr (2, [.ref hw, .ref hz, .ref hl0, .int (zI (S 0))])), (hw, .inl (D.2 0, 16, .inl (fC S 0))), (hz, .inl (D.2 5, 3, .inr (.inr (.inr (.inr (f3 h0 h1 h2)))))), (h0, .inl (D.2 0, 16, .inl (fC S 1))), (h1, .inl (D.2 0, 16, .inl (fC S 2))), (h2, .inl (D.2 0, 16, .inl (fC S 3))), (hl0, .inl (D.2 0, 3, .inl (fLm S)))] H locs := w.sub [0, 1, 2, 3, 4, 5, 6] (by decide) rfl
  exact z_zret hx hb hr hlocks w dX2_has_11 (zb_01 _) ⟨rfl, rfl⟩
set_option maxHeartbeats 6000000 in
set_option maxRecDepth 100000 in
theorem c_X2_isFull (l : Launch) (D : zD) (hp hw hz h0 h1 h2 hl0 : Nat) (S : Nat → Int) (hok : OkP S) : zM l yX2_isFull wsX2_isFull (zR 1) zE0 D [.ref hp] (wPk D hp hw hz h0 h1 h2 hl0 S) (zQi D (fun r W1 => r = zI (zb (16 ≤ S 0)) ∧ W1 = (wPk D hp hw hz h0 h1 h2 hl0 S))) := by
  refine zM.of (cc := cX2_isFull) (maxL := 1) (ret := (some .boolean)) (by decide) rfl (Nat.le_of_ble_eq_true rfl) ?_
  intro p e s m below meth c A hx hb hml hown hts hr hlocks hE hnm w ls hl
  have hown : s.vm.findClass RX2 = some m.cls := hown
  have hl : lv_has ls 1 [(0, .ref hp)] := hl
  have f_23 : (Cond.fieldLink RX2 23 "RelaxedSteps$Packing" "items" "I").before _ s = true := hts _ (by decide +kernel)
  have inX2 : ∀ w ∈ u_ws RX2 TX2 4, w ∈ wsX2_isFull := by decide +kernel
  have hn := zn_eq hok
  have h16 := zn_le hok
  have hlim := hok.2.2
  have w : zW D A s.heap s [(hp, .inr (2, [.ref hw, .ref hz, .ref hl0, .int (zI (S 0))])), (hw, .inl (D.2 0, 16, .inl (fC S 0))), (hz, .inl (D.2 5, 3, .inr (.inr (.inr (.inr (f3 h0 h1 h2)))))), (h0, .inl (D.2 0, 16, .inl (fC S 1))), (h1, .inl (D.2 0, 16, .inl (fC S 2))), (h2, .inl (D.2 0, 16, .inl (fC S 3))), (hl0, .inl (D.2 0, 3, .inl (fLm S)))] s.heap [] := w
  refine lv_aload_n hx hb dX2_isFull_0 rfl (lv_at hl 0 rfl) ?_
  refine z_get hx hb hown hts w inX2 0 3 rfl rfl (by decide) f_23 rfl rfl dX2_isFull_1 ?_
  refine lv_bipush (v := zI 16) hx hb dX2_isFull_4 (by decide +kernel) ?_
  refine z_icmp_lt (tgt := 13) hx hb (by omega) (by omega) dX2_isFull_6 (by decide) (fun c6 => ?_) (fun c6 => ?_)
  · skip
    refine lv_iconst (v := zI 0) hx hb dX2_isFull_13 rfl ?_
    exact z_zret hx hb hr hlocks w dX2_isFull_14 (by omega) ⟨by first | rw [zb_t (by omega)] | rw [zb_f (by omega)], rfl⟩
  · skip
    refine lv_iconst (v := zI 1) hx hb dX2_isFull_9 rfl ?_
    refine lv_goto (tgt := 14) hx hb dX2_isFull_10 (by decide) ?_
    exact z_zret hx hb hr hlocks w dX2_isFull_14 (by omega) ⟨by first | rw [zb_t (by omega)] | rw [zb_f (by omega)], rfl⟩
set_option maxHeartbeats 6000000 in
set_option maxRecDepth 100000 in
theorem c_X2_worthIn (l : Launch) (D : zD) (hp hw hz h0 h1 h2 hl0 : Nat) (S : Nat → Int) (hok : OkP S) (set : Nat) (hs : set < 2147483648) : zM l yX2_worthIn wsX2_worthIn (zR 1) zE0 D [.ref hp, .int (zI (((set : Nat) : Int)))] (wPk D hp hw hz h0 h1 h2 hl0 S) (zQi D (fun r W1 => r = zI (sUse S set 0) ∧ W1 = (wPk D hp hw hz h0 h1 h2 hl0 S))) := by
  refine zM.of (cc := cX2_worthIn) (maxL := 4) (ret := (some .int)) (by decide) rfl (Nat.le_of_ble_eq_true rfl) ?_
  intro p e s m below meth c A hx hb hml hown hts hr hlocks hE hnm w ls hl
  have hown : s.vm.findClass RX2 = some m.cls := hown
  have hl : lv_has ls 4 [(0, .ref hp), (1, .int (zI (((set : Nat) : Int))))] := hl
  have f_23 : (Cond.fieldLink RX2 23 "RelaxedSteps$Packing" "items" "I").before _ s = true := hts _ (by decide +kernel)
  have f_9 : (Cond.fieldLink RX2 9 "RelaxedSteps$Packing" "worths" "[I").before _ s = true := hts _ (by decide +kernel)
  have inX2 : ∀ w ∈ u_ws RX2 TX2 4, w ∈ wsX2_worthIn := by decide +kernel
  have hn := zn_eq hok
  have h16 := zn_le hok
  have hlim := hok.2.2
  have w : zW D A s.heap s [(hp, .inr (2, [.ref hw, .ref hz, .ref hl0, .int (zI (S 0))])), (hw, .inl (D.2 0, 16, .inl (fC S 0))), (hz, .inl (D.2 5, 3, .inr (.inr (.inr (.inr (f3 h0 h1 h2)))))), (h0, .inl (D.2 0, 16, .inl (fC S 1))), (h1, .inl (D.2 0, 16, .inl (fC S 2))), (h2, .inl (D.2 0, 16, .inl (fC S 3))), (hl0, .inl (D.2 0, 3, .inl (fLm S)))] s.heap [] := w
  refine lv_iconst (v := zI 0) hx hb dX2_worthIn_0 rfl ?_
  refine lv_istore_n (lv' := [(2, .int (zI (0))), (0, .ref hp), (1, .int (zI (((set : Nat) : Int))))]) hx hb dX2_worthIn_1 rfl hl (by decide) rfl (fun ls hl => ?_)
  refine lv_iconst (v := zI 0) hx hb dX2_worthIn_2 rfl ?_
  refine lv_istore_n (lv' := [(3, .int (zI (0))), (2, .int (zI (0))), (0, .ref hp), (1, .int (zI (((set : Nat) : Int))))]) hx hb dX2_worthIn_3 rfl hl (by decide) rfl (fun ls hl => ?_)
  have lp_4 : ∀ (n_4 : Nat) (i : Nat) (x3 : Int) (x2 : Int) , zn S - i < n_4 → (i ≤ zn S) → x3 = ((i : Nat) : Int) → x2 = sSum i (fun i => if set.testBit i = true then sC S 0 i else 0) → ∀ (H : Heap) (locs : List Loc) (ls : Array Slot), zW D A s.heap s [(hp, .inr (2, [.ref hw, .ref hz, .ref hl0, .int (zI (S 0))])), (hw, .inl (D.2 0, 16, .inl (fC S 0))), (hz, .inl (D.2 5, 3, .inr (.inr (.inr (.inr (f3 h0 h1 h2)))))), (h0, .inl (D.2 0, 16, .inl (fC S 1))), (h1, .inl (D.2 0, 16, .inl (fC S 2))), (h2, .inl (D.2 0, 16, .inl (fC S 3))), (hl0, .inl (D.2 0, 3, .inl (fLm S)))] H locs → lv_has ls 4 [(3, .int (zI (x3))), (2, .int (zI (x2))), (0, .ref hp), (1, .int (zI (((set : Nat) : Int))))] → W p l e (zR 1) s m [.ref hp, .int (zI (((set : Nat) : Int)))].toArray below meth c H locs 0 0 (MQ below ((zQi D (fun r W1 => r = zI (sUse S set 0) ∧ W1 = (wPk D hp hw hz h0 h1 h2 hl0 S))) A) [.ref hp, .int (zI (((set : Nat) : Int)))].toArray s 0 0 A) (F0 m 4 ls []) := by
    intro n_4
    induction n_4 with
    | zero => intro i x3 x2 h_; exact absurd h_ (Nat.not_lt_zero _)
    | succ n_4 ih_4 =>
      intro i x3 x2 hf_4 hi ex3 ex2 H locs ls w hl
      subst ex3
      subst ex2
      have hl : lv_has ls 4 [(3, .int (zI (((i : Nat) : Int)))), (2, .int (zI (sSum i (fun i => if set.testBit i = true then sC S 0 i else 0)))), (0, .ref hp), (1, .int (zI (((set : Nat) : Int))))] := hl
      refine lv_iload_n hx hb dX2_worthIn_4 rfl (lv_at hl 0 rfl) ?_
      refine lv_aload_n hx hb dX2_worthIn_5 rfl (lv_at hl 2 rfl) ?_
      refine z_get hx hb hown hts w inX2 0 3 rfl rfl (by decide) f_23 rfl rfl dX2_worthIn_6 ?_
      refine z_icmp_ge (tgt := 39) hx hb (by omega) (by omega) dX2_worthIn_9 (by decide) (fun c9 => ?_) (fun c9 => ?_)
      · skip
        refine lv_iload_n hx hb dX2_worthIn_39 rfl (lv_at hl 1 rfl) ?_
        exact z_iret hx hb hr hlocks w dX2_worthIn_40 ⟨by have e9 : i = zn S := (by omega); subst e9; rfl, rfl⟩
      · skip
        refine lv_iload_n hx hb dX2_worthIn_12 rfl (lv_at hl 1 rfl) ?_
        refine lv_iload_n hx hb dX2_worthIn_13 rfl (lv_at hl 0 rfl) ?_
        refine lv_iload_n hx hb dX2_worthIn_14 rfl (lv_at hl 3 rfl) ?_
        refine z_SN_i (As := [.int (zI (((i : Nat) : Int))), .int (zI (((set : Nat) : Int)))]) (rest := [.int (zI (sSum i (fun i => if set.testBit i = true then sC S 0 i else 0)))]) (Wr := [(hp, .inr (2, [.ref hw, .ref hz, .ref hl0, .int (zI (S 0))])), (hw, .inl (D.2 0, 16, .inl (fC S 0))), (hz, .inl (D.2 5, 3, .inr (.inr (.inr (.inr (f3 h0 h1 h2)))))), (h0, .inl (D.2 0, 16, .inl (fC S 1))), (h1, .inl (D.2 0, 16, .inl (fC S 2))), (h2, .inl (D.2 0, 16, .inl (fC S 3))), (hl0, .inl (D.2 0, 3, .inl (fLm S)))]) ⟨hx, hb, hml, hown, hts⟩ (c_X6_isIn l D i set (by omega) (by omega)) ⟨va_cnB 2 hts ggX2_worthIn_X6_isIn rfl rfl rfl (w.1.2 (RX2, 51, yX6_isIn, "RelaxedSteps") (by decide +kernel)) (hts (.initialized RX6) (by decide +kernel)) (by decide +kernel) ⟨Nat.le_of_ble_eq_true rfl, Nat.le_of_ble_eq_true rfl⟩, hts (.static yX6_isIn) (by decide +kernel), trivial⟩ w [] rfl (by decide) [0, 1, 2, 3, 4, 5, 6] rfl (by decide) (by decide) rfl hl.1 rfl (lv_room (Nat.le_of_ble_eq_true rfl)) dX2_worthIn_15 ⟨Nat.zero_le _, Nat.zero_le _⟩ (fun r W1 H locs hp w => ?_)
        obtain ⟨rfl, rfl⟩ := hp
        have w : zW D A s.heap s [(hp, .inr (2, [.ref hw, .ref hz, .ref hl0, .int (zI (S 0))])), (hw, .inl (D.2 0, 16, .inl (fC S 0))), (hz, .inl (D.2 5, 3, .inr (.inr (.inr (.inr (f3 h0 h1 h2)))))), (h0, .inl (D.2 0, 16, .inl (fC S 1))), (h1, .inl (D.2 0, 16, .inl (fC S 2))), (h2, .inl (D.2 0, 16, .inl (fC S 3))), (hl0, .inl (D.2 0, 3, .inl (fLm S)))] H locs := w.sub [0, 1, 2, 3, 4, 5, 6] (by decide) rfl
        refine z_if_eq_b (tgt := 30) hx hb dX2_worthIn_18 (by decide) (fun c18 => ?_) (fun c18 => ?_)
        · skip
          refine lv_iconst (v := zI 0) hx hb dX2_worthIn_30 rfl ?_
          refine z_iadd hx hb dX2_worthIn_31 ?_
          refine lv_istore_n (lv' := [(2, .int (zI ((sSum i (fun i => if set.testBit i = true then sC S 0 i else 0)) + 0))), (3, .int (zI (((i : Nat) : Int)))), (0, .ref hp), (1, .int (zI (((set : Nat) : Int))))]) hx hb dX2_worthIn_32 rfl hl (by decide) rfl (fun ls hl => ?_)
          refine z_iinc (lv' := [(3, .int (zI (((i : Nat) : Int) + 1))), (2, .int (zI ((sSum i (fun i => if set.testBit i = true then sC S 0 i else 0)) + 0))), (0, .ref hp), (1, .int (zI (((set : Nat) : Int))))]) hx hb dX2_worthIn_33 hl (k := 1) rfl (by decide) rfl (fun ls hl => ?_)
          refine lv_goto (tgt := 4) hx hb dX2_worthIn_36 (by decide) ?_
          exact ih_4 (i + 1) _ _ (by omega) (by omega) (by first | rfl | omega) (by simp only [sSum]; first | rw [if_pos c18] | rw [if_neg c18]) _ _ _ w (lv_sub hl [0, 1, 2, 3] rfl)
        · skip
          refine lv_aload_n hx hb dX2_worthIn_21 rfl (lv_at hl 2 rfl) ?_
          refine z_get hx hb hown hts w inX2 0 0 rfl rfl (by decide) f_9 rfl rfl dX2_worthIn_22 ?_
          refine lv_iload_n hx hb dX2_worthIn_25 rfl (lv_at hl 0 rfl) ?_
          refine z_iald hx hb w 1 rfl i (by omega) (by decide) rfl (v := (zI (sC S 0 i))) (if_pos (by omega)) dX2_worthIn_26 ?_
          refine lv_goto (tgt := 31) hx hb dX2_worthIn_27 (by decide) ?_
          refine z_iadd hx hb dX2_worthIn_31 ?_
          refine lv_istore_n (lv' := [(2, .int (zI ((sSum i (fun i => if set.testBit i = true then sC S 0 i else 0)) + (sC S 0 i)))), (3, .int (zI (((i : Nat) : Int)))), (0, .ref hp), (1, .int (zI (((set : Nat) : Int))))]) hx hb dX2_worthIn_32 rfl hl (by decide) rfl (fun ls hl => ?_)
          refine z_iinc (lv' := [(3, .int (zI (((i : Nat) : Int) + 1))), (2, .int (zI ((sSum i (fun i => if set.testBit i = true then sC S 0 i else 0)) + (sC S 0 i)))), (0, .ref hp), (1, .int (zI (((set : Nat) : Int))))]) hx hb dX2_worthIn_33 hl (k := 1) rfl (by decide) rfl (fun ls hl => ?_)
          refine lv_goto (tgt := 4) hx hb dX2_worthIn_36 (by decide) ?_
          exact ih_4 (i + 1) _ _ (by omega) (by omega) (by first | rfl | omega) (by simp only [sSum]; first | rw [if_pos c18] | rw [if_neg c18]) _ _ _ w (lv_sub hl [0, 1, 2, 3] rfl)
  exact lp_4 ((zn S - 0) + 1) 0 _ _ (by omega) (by omega) (by first | rfl | omega) (by first | rfl | omega) _ _ _ w (lv_sub hl [0, 1, 2, 3] rfl)
set_option maxHeartbeats 6000000 in
set_option maxRecDepth 100000 in
theorem c_X2_use0 (l : Launch) (D : zD) (hp hw hz h0 h1 h2 hl0 : Nat) (S : Nat → Int) (hok : OkP S) (set : Nat) (hs : set < 2147483648) : zM l yX2_use wsX2_use (zR 1) zE0 D [.ref hp, .int (zI (((set : Nat) : Int))), .int (zI (0))] (wPk D hp hw hz h0 h1 h2 hl0 S) (zQi D (fun r W1 => r = zI (sUse S set 1) ∧ W1 = (wPk D hp hw hz h0 h1 h2 hl0 S))) := by
  refine zM.of (cc := cX2_use) (maxL := 6) (ret := (some .int)) (by decide) rfl (Nat.le_of_ble_eq_true rfl) ?_
  intro p e s m below meth c A hx hb hml hown hts hr hlocks hE hnm w ls hl
  have hown : s.vm.findClass RX2 = some m.cls := hown
  have hl : lv_has ls 6 [(0, .ref hp), (1, .int (zI (((set : Nat) : Int)))), (2, .int (zI (0)))] := hl
  have f_17 : (Cond.fieldLink RX2 17 "RelaxedSteps$Packing" "sizes" "[[I").before _ s = true := hts _ (by decide +kernel)
  have f_23 : (Cond.fieldLink RX2 23 "RelaxedSteps$Packing" "items" "I").before _ s = true := hts _ (by decide +kernel)
  have inX2 : ∀ w ∈ u_ws RX2 TX2 4, w ∈ wsX2_use := by decide +kernel
  have hn := zn_eq hok
  have h16 := zn_le hok
  have hlim := hok.2.2
  have w : zW D A s.heap s [(hp, .inr (2, [.ref hw, .ref hz, .ref hl0, .int (zI (S 0))])), (hw, .inl (D.2 0, 16, .inl (fC S 0))), (hz, .inl (D.2 5, 3, .inr (.inr (.inr (.inr (f3 h0 h1 h2)))))), (h0, .inl (D.2 0, 16, .inl (fC S 1))), (h1, .inl (D.2 0, 16, .inl (fC S 2))), (h2, .inl (D.2 0, 16, .inl (fC S 3))), (hl0, .inl (D.2 0, 3, .inl (fLm S)))] s.heap [] := w
  refine lv_aload_n hx hb dX2_use_0 rfl (lv_at hl 0 rfl) ?_
  refine z_get hx hb hown hts w inX2 0 1 rfl rfl (by decide) f_17 rfl rfl dX2_use_1 ?_
  refine lv_iload_n hx hb dX2_use_4 rfl (lv_at hl 2 rfl) ?_
  refine z_aald (t0 := 5) hx hb w 2 rfl rfl rfl 0 (by omega) (by decide) rfl (v := h0) rfl dX2_use_5 ?_
  refine lv_astore_n (lv' := [(3, .ref h0), (0, .ref hp), (1, .int (zI (((set : Nat) : Int)))), (2, .int (zI (0)))]) hx hb dX2_use_6 rfl hl (by decide) rfl (fun ls hl => ?_)
  refine lv_iconst (v := zI 0) hx hb dX2_use_7 rfl ?_
  refine lv_istore (lv' := [(4, .int (zI (0))), (3, .ref h0), (0, .ref hp), (1, .int (zI (((set : Nat) : Int)))), (2, .int (zI (0)))]) hx hb dX2_use_8 hl (by decide) rfl (fun ls hl => ?_)
  refine lv_iconst (v := zI 0) hx hb dX2_use_10 rfl ?_
  refine lv_istore (lv' := [(5, .int (zI (0))), (4, .int (zI (0))), (3, .ref h0), (0, .ref hp), (1, .int (zI (((set : Nat) : Int)))), (2, .int (zI (0)))]) hx hb dX2_use_11 hl (by decide) rfl (fun ls hl => ?_)
  have lp_13 : ∀ (n_13 : Nat) (i : Nat) (x5 : Int) (x4 : Int) , zn S - i < n_13 → (i ≤ zn S) → x5 = ((i : Nat) : Int) → x4 = sSum i (fun i => if set.testBit i = true then sC S 1 i else 0) → ∀ (H : Heap) (locs : List Loc) (ls : Array Slot), zW D A s.heap s [(hp, .inr (2, [.ref hw, .ref hz, .ref hl0, .int (zI (S 0))])), (hw, .inl (D.2 0, 16, .inl (fC S 0))), (hz, .inl (D.2 5, 3, .inr (.inr (.inr (.inr (f3 h0 h1 h2)))))), (h0, .inl (D.2 0, 16, .inl (fC S 1))), (h1, .inl (D.2 0, 16, .inl (fC S 2))), (h2, .inl (D.2 0, 16, .inl (fC S 3))), (hl0, .inl (D.2 0, 3, .inl (fLm S)))] H locs → lv_has ls 6 [(5, .int (zI (x5))), (4, .int (zI (x4))), (3, .ref h0), (0, .ref hp), (1, .int (zI (((set : Nat) : Int)))), (2, .int (zI (0)))] → W p l e (zR 1) s m [.ref hp, .int (zI (((set : Nat) : Int))), .int (zI (0))].toArray below meth c H locs 0 0 (MQ below ((zQi D (fun r W1 => r = zI (sUse S set 1) ∧ W1 = (wPk D hp hw hz h0 h1 h2 hl0 S))) A) [.ref hp, .int (zI (((set : Nat) : Int))), .int (zI (0))].toArray s 0 0 A) (F0 m 13 ls []) := by
    intro n_13
    induction n_13 with
    | zero => intro i x5 x4 h_; exact absurd h_ (Nat.not_lt_zero _)
    | succ n_13 ih_13 =>
      intro i x5 x4 hf_13 hi ex5 ex4 H locs ls w hl
      subst ex5
      subst ex4
      have hl : lv_has ls 6 [(5, .int (zI (((i : Nat) : Int)))), (4, .int (zI (sSum i (fun i => if set.testBit i = true then sC S 1 i else 0)))), (3, .ref h0), (0, .ref hp), (1, .int (zI (((set : Nat) : Int)))), (2, .int (zI (0)))] := hl
      refine lv_iload hx hb dX2_use_13 (lv_at hl 0 rfl) ?_
      refine lv_aload_n hx hb dX2_use_15 rfl (lv_at hl 3 rfl) ?_
      refine z_get hx hb hown hts w inX2 0 3 rfl rfl (by decide) f_23 rfl rfl dX2_use_16 ?_
      refine z_icmp_ge (tgt := 50) hx hb (by omega) (by omega) dX2_use_19 (by decide) (fun c19 => ?_) (fun c19 => ?_)
      · skip
        refine lv_iload hx hb dX2_use_50 (lv_at hl 1 rfl) ?_
        exact z_iret hx hb hr hlocks w dX2_use_52 ⟨by have e9 : i = zn S := (by omega); subst e9; rfl, rfl⟩
      · skip
        refine lv_iload hx hb dX2_use_22 (lv_at hl 1 rfl) ?_
        refine lv_iload hx hb dX2_use_24 (lv_at hl 0 rfl) ?_
        refine lv_iload_n hx hb dX2_use_26 rfl (lv_at hl 4 rfl) ?_
        refine z_SN_i (As := [.int (zI (((i : Nat) : Int))), .int (zI (((set : Nat) : Int)))]) (rest := [.int (zI (sSum i (fun i => if set.testBit i = true then sC S 1 i else 0)))]) (Wr := [(hp, .inr (2, [.ref hw, .ref hz, .ref hl0, .int (zI (S 0))])), (hw, .inl (D.2 0, 16, .inl (fC S 0))), (hz, .inl (D.2 5, 3, .inr (.inr (.inr (.inr (f3 h0 h1 h2)))))), (h0, .inl (D.2 0, 16, .inl (fC S 1))), (h1, .inl (D.2 0, 16, .inl (fC S 2))), (h2, .inl (D.2 0, 16, .inl (fC S 3))), (hl0, .inl (D.2 0, 3, .inl (fLm S)))]) ⟨hx, hb, hml, hown, hts⟩ (c_X6_isIn l D i set (by omega) (by omega)) ⟨va_cnB 2 hts ggX2_use_X6_isIn rfl rfl rfl (w.1.2 (RX2, 51, yX6_isIn, "RelaxedSteps") (by decide +kernel)) (hts (.initialized RX6) (by decide +kernel)) (by decide +kernel) ⟨Nat.le_of_ble_eq_true rfl, Nat.le_of_ble_eq_true rfl⟩, hts (.static yX6_isIn) (by decide +kernel), trivial⟩ w [] rfl (by decide) [0, 1, 2, 3, 4, 5, 6] rfl (by decide) (by decide) rfl hl.1 rfl (lv_room (Nat.le_of_ble_eq_true rfl)) dX2_use_27 ⟨Nat.zero_le _, Nat.zero_le _⟩ (fun r W1 H locs hp w => ?_)
        obtain ⟨rfl, rfl⟩ := hp
        have w : zW D A s.heap s [(hp, .inr (2, [.ref hw, .ref hz, .ref hl0, .int (zI (S 0))])), (hw, .inl (D.2 0, 16, .inl (fC S 0))), (hz, .inl (D.2 5, 3, .inr (.inr (.inr (.inr (f3 h0 h1 h2)))))), (h0, .inl (D.2 0, 16, .inl (fC S 1))), (h1, .inl (D.2 0, 16, .inl (fC S 2))), (h2, .inl (D.2 0, 16, .inl (fC S 3))), (hl0, .inl (D.2 0, 3, .inl (fLm S)))] H locs := w.sub [0, 1, 2, 3, 4, 5, 6] (by decide) rfl
        refine z_if_eq_b (tgt := 40) hx hb dX2_use_30 (by decide) (fun c30 => ?_) (fun c30 => ?_)
        · skip
          refine lv_iconst (v := zI 0) hx hb dX2_use_40 rfl ?_
          refine z_iadd hx hb dX2_use_41 ?_
          refine lv_istore (lv' := [(4, .int (zI ((sSum i (fun i => if set.testBit i = true then sC S 1 i else 0)) + 0))), (5, .int (zI (((i : Nat) : Int)))), (3, .ref h0), (0, .ref hp), (1, .int (zI (((set : Nat) : Int)))), (2, .int (zI (0)))]) hx hb dX2_use_42 hl (by decide) rfl (fun ls hl => ?_)
          refine z_iinc (lv' := [(5, .int (zI (((i : Nat) : Int) + 1))), (4, .int (zI ((sSum i (fun i => if set.testBit i = true then sC S 1 i else 0)) + 0))), (3, .ref h0), (0, .ref hp), (1, .int (zI (((set : Nat) : Int)))), (2, .int (zI (0)))]) hx hb dX2_use_44 hl (k := 1) rfl (by decide) rfl (fun ls hl => ?_)
          refine lv_goto (tgt := 13) hx hb dX2_use_47 (by decide) ?_
          exact ih_13 (i + 1) _ _ (by omega) (by omega) (by first | rfl | omega) (by simp only [sSum]; first | rw [if_pos c30] | rw [if_neg c30]) _ _ _ w (lv_sub hl [0, 1, 2, 3, 4, 5] rfl)
        · skip
          refine lv_aload_n hx hb dX2_use_33 rfl (lv_at hl 2 rfl) ?_
          refine lv_iload hx hb dX2_use_34 (lv_at hl 0 rfl) ?_
          refine z_iald hx hb w 3 rfl i (by omega) (by decide) rfl (v := (zI (sC S 1 i))) (if_pos (by omega)) dX2_use_36 ?_
          refine lv_goto (tgt := 41) hx hb dX2_use_37 (by decide) ?_
          refine z_iadd hx hb dX2_use_41 ?_
          refine lv_istore (lv' := [(4, .int (zI ((sSum i (fun i => if set.testBit i = true then sC S 1 i else 0)) + (sC S 1 i)))), (5, .int (zI (((i : Nat) : Int)))), (3, .ref h0), (0, .ref hp), (1, .int (zI (((set : Nat) : Int)))), (2, .int (zI (0)))]) hx hb dX2_use_42 hl (by decide) rfl (fun ls hl => ?_)
          refine z_iinc (lv' := [(5, .int (zI (((i : Nat) : Int) + 1))), (4, .int (zI ((sSum i (fun i => if set.testBit i = true then sC S 1 i else 0)) + (sC S 1 i)))), (3, .ref h0), (0, .ref hp), (1, .int (zI (((set : Nat) : Int)))), (2, .int (zI (0)))]) hx hb dX2_use_44 hl (k := 1) rfl (by decide) rfl (fun ls hl => ?_)
          refine lv_goto (tgt := 13) hx hb dX2_use_47 (by decide) ?_
          exact ih_13 (i + 1) _ _ (by omega) (by omega) (by first | rfl | omega) (by simp only [sSum]; first | rw [if_pos c30] | rw [if_neg c30]) _ _ _ w (lv_sub hl [0, 1, 2, 3, 4, 5] rfl)
  exact lp_13 ((zn S - 0) + 1) 0 _ _ (by omega) (by omega) (by first | rfl | omega) (by first | rfl | omega) _ _ _ w (lv_sub hl [0, 1, 2, 3, 4, 5] rfl)
set_option maxHeartbeats 6000000 in
set_option maxRecDepth 100000 in
theorem c_X2_use1 (l : Launch) (D : zD) (hp hw hz h0 h1 h2 hl0 : Nat) (S : Nat → Int) (hok : OkP S) (set : Nat) (hs : set < 2147483648) : zM l yX2_use wsX2_use (zR 1) zE0 D [.ref hp, .int (zI (((set : Nat) : Int))), .int (zI (1))] (wPk D hp hw hz h0 h1 h2 hl0 S) (zQi D (fun r W1 => r = zI (sUse S set 2) ∧ W1 = (wPk D hp hw hz h0 h1 h2 hl0 S))) := by
  refine zM.of (cc := cX2_use) (maxL := 6) (ret := (some .int)) (by decide) rfl (Nat.le_of_ble_eq_true rfl) ?_
  intro p e s m below meth c A hx hb hml hown hts hr hlocks hE hnm w ls hl
  have hown : s.vm.findClass RX2 = some m.cls := hown
  have hl : lv_has ls 6 [(0, .ref hp), (1, .int (zI (((set : Nat) : Int)))), (2, .int (zI (1)))] := hl
  have f_17 : (Cond.fieldLink RX2 17 "RelaxedSteps$Packing" "sizes" "[[I").before _ s = true := hts _ (by decide +kernel)
  have f_23 : (Cond.fieldLink RX2 23 "RelaxedSteps$Packing" "items" "I").before _ s = true := hts _ (by decide +kernel)
  have inX2 : ∀ w ∈ u_ws RX2 TX2 4, w ∈ wsX2_use := by decide +kernel
  have hn := zn_eq hok
  have h16 := zn_le hok
  have hlim := hok.2.2
  have w : zW D A s.heap s [(hp, .inr (2, [.ref hw, .ref hz, .ref hl0, .int (zI (S 0))])), (hw, .inl (D.2 0, 16, .inl (fC S 0))), (hz, .inl (D.2 5, 3, .inr (.inr (.inr (.inr (f3 h0 h1 h2)))))), (h0, .inl (D.2 0, 16, .inl (fC S 1))), (h1, .inl (D.2 0, 16, .inl (fC S 2))), (h2, .inl (D.2 0, 16, .inl (fC S 3))), (hl0, .inl (D.2 0, 3, .inl (fLm S)))] s.heap [] := w
  refine lv_aload_n hx hb dX2_use_0 rfl (lv_at hl 0 rfl) ?_
  refine z_get hx hb hown hts w inX2 0 1 rfl rfl (by decide) f_17 rfl rfl dX2_use_1 ?_
  refine lv_iload_n hx hb dX2_use_4 rfl (lv_at hl 2 rfl) ?_
  refine z_aald (t0 := 5) hx hb w 2 rfl rfl rfl 1 (by omega) (by decide) rfl (v := h1) rfl dX2_use_5 ?_
  refine lv_astore_n (lv' := [(3, .ref h1), (0, .ref hp), (1, .int (zI (((set : Nat) : Int)))), (2, .int (zI (1)))]) hx hb dX2_use_6 rfl hl (by decide) rfl (fun ls hl => ?_)
  refine lv_iconst (v := zI 0) hx hb dX2_use_7 rfl ?_
  refine lv_istore (lv' := [(4, .int (zI (0))), (3, .ref h1), (0, .ref hp), (1, .int (zI (((set : Nat) : Int)))), (2, .int (zI (1)))]) hx hb dX2_use_8 hl (by decide) rfl (fun ls hl => ?_)
  refine lv_iconst (v := zI 0) hx hb dX2_use_10 rfl ?_
  refine lv_istore (lv' := [(5, .int (zI (0))), (4, .int (zI (0))), (3, .ref h1), (0, .ref hp), (1, .int (zI (((set : Nat) : Int)))), (2, .int (zI (1)))]) hx hb dX2_use_11 hl (by decide) rfl (fun ls hl => ?_)
  have lp_13 : ∀ (n_13 : Nat) (i : Nat) (x5 : Int) (x4 : Int) , zn S - i < n_13 → (i ≤ zn S) → x5 = ((i : Nat) : Int) → x4 = sSum i (fun i => if set.testBit i = true then sC S 2 i else 0) → ∀ (H : Heap) (locs : List Loc) (ls : Array Slot), zW D A s.heap s [(hp, .inr (2, [.ref hw, .ref hz, .ref hl0, .int (zI (S 0))])), (hw, .inl (D.2 0, 16, .inl (fC S 0))), (hz, .inl (D.2 5, 3, .inr (.inr (.inr (.inr (f3 h0 h1 h2)))))), (h0, .inl (D.2 0, 16, .inl (fC S 1))), (h1, .inl (D.2 0, 16, .inl (fC S 2))), (h2, .inl (D.2 0, 16, .inl (fC S 3))), (hl0, .inl (D.2 0, 3, .inl (fLm S)))] H locs → lv_has ls 6 [(5, .int (zI (x5))), (4, .int (zI (x4))), (3, .ref h1), (0, .ref hp), (1, .int (zI (((set : Nat) : Int)))), (2, .int (zI (1)))] → W p l e (zR 1) s m [.ref hp, .int (zI (((set : Nat) : Int))), .int (zI (1))].toArray below meth c H locs 0 0 (MQ below ((zQi D (fun r W1 => r = zI (sUse S set 2) ∧ W1 = (wPk D hp hw hz h0 h1 h2 hl0 S))) A) [.ref hp, .int (zI (((set : Nat) : Int))), .int (zI (1))].toArray s 0 0 A) (F0 m 13 ls []) := by
    intro n_13
    induction n_13 with
    | zero => intro i x5 x4 h_; exact absurd h_ (Nat.not_lt_zero _)
    | succ n_13 ih_13 =>
      intro i x5 x4 hf_13 hi ex5 ex4 H locs ls w hl
      subst ex5
      subst ex4
      have hl : lv_has ls 6 [(5, .int (zI (((i : Nat) : Int)))), (4, .int (zI (sSum i (fun i => if set.testBit i = true then sC S 2 i else 0)))), (3, .ref h1), (0, .ref hp), (1, .int (zI (((set : Nat) : Int)))), (2, .int (zI (1)))] := hl
      refine lv_iload hx hb dX2_use_13 (lv_at hl 0 rfl) ?_
      refine lv_aload_n hx hb dX2_use_15 rfl (lv_at hl 3 rfl) ?_
      refine z_get hx hb hown hts w inX2 0 3 rfl rfl (by decide) f_23 rfl rfl dX2_use_16 ?_
      refine z_icmp_ge (tgt := 50) hx hb (by omega) (by omega) dX2_use_19 (by decide) (fun c19 => ?_) (fun c19 => ?_)
      · skip
        refine lv_iload hx hb dX2_use_50 (lv_at hl 1 rfl) ?_
        exact z_iret hx hb hr hlocks w dX2_use_52 ⟨by have e9 : i = zn S := (by omega); subst e9; rfl, rfl⟩
      · skip
        refine lv_iload hx hb dX2_use_22 (lv_at hl 1 rfl) ?_
        refine lv_iload hx hb dX2_use_24 (lv_at hl 0 rfl) ?_
        refine lv_iload_n hx hb dX2_use_26 rfl (lv_at hl 4 rfl) ?_
        refine z_SN_i (As := [.int (zI (((i : Nat) : Int))), .int (zI (((set : Nat) : Int)))]) (rest := [.int (zI (sSum i (fun i => if set.testBit i = true then sC S 2 i else 0)))]) (Wr := [(hp, .inr (2, [.ref hw, .ref hz, .ref hl0, .int (zI (S 0))])), (hw, .inl (D.2 0, 16, .inl (fC S 0))), (hz, .inl (D.2 5, 3, .inr (.inr (.inr (.inr (f3 h0 h1 h2)))))), (h0, .inl (D.2 0, 16, .inl (fC S 1))), (h1, .inl (D.2 0, 16, .inl (fC S 2))), (h2, .inl (D.2 0, 16, .inl (fC S 3))), (hl0, .inl (D.2 0, 3, .inl (fLm S)))]) ⟨hx, hb, hml, hown, hts⟩ (c_X6_isIn l D i set (by omega) (by omega)) ⟨va_cnB 2 hts ggX2_use_X6_isIn rfl rfl rfl (w.1.2 (RX2, 51, yX6_isIn, "RelaxedSteps") (by decide +kernel)) (hts (.initialized RX6) (by decide +kernel)) (by decide +kernel) ⟨Nat.le_of_ble_eq_true rfl, Nat.le_of_ble_eq_true rfl⟩, hts (.static yX6_isIn) (by decide +kernel), trivial⟩ w [] rfl (by decide) [0, 1, 2, 3, 4, 5, 6] rfl (by decide) (by decide) rfl hl.1 rfl (lv_room (Nat.le_of_ble_eq_true rfl)) dX2_use_27 ⟨Nat.zero_le _, Nat.zero_le _⟩ (fun r W1 H locs hp w => ?_)
        obtain ⟨rfl, rfl⟩ := hp
        have w : zW D A s.heap s [(hp, .inr (2, [.ref hw, .ref hz, .ref hl0, .int (zI (S 0))])), (hw, .inl (D.2 0, 16, .inl (fC S 0))), (hz, .inl (D.2 5, 3, .inr (.inr (.inr (.inr (f3 h0 h1 h2)))))), (h0, .inl (D.2 0, 16, .inl (fC S 1))), (h1, .inl (D.2 0, 16, .inl (fC S 2))), (h2, .inl (D.2 0, 16, .inl (fC S 3))), (hl0, .inl (D.2 0, 3, .inl (fLm S)))] H locs := w.sub [0, 1, 2, 3, 4, 5, 6] (by decide) rfl
        refine z_if_eq_b (tgt := 40) hx hb dX2_use_30 (by decide) (fun c30 => ?_) (fun c30 => ?_)
        · skip
          refine lv_iconst (v := zI 0) hx hb dX2_use_40 rfl ?_
          refine z_iadd hx hb dX2_use_41 ?_
          refine lv_istore (lv' := [(4, .int (zI ((sSum i (fun i => if set.testBit i = true then sC S 2 i else 0)) + 0))), (5, .int (zI (((i : Nat) : Int)))), (3, .ref h1), (0, .ref hp), (1, .int (zI (((set : Nat) : Int)))), (2, .int (zI (1)))]) hx hb dX2_use_42 hl (by decide) rfl (fun ls hl => ?_)
          refine z_iinc (lv' := [(5, .int (zI (((i : Nat) : Int) + 1))), (4, .int (zI ((sSum i (fun i => if set.testBit i = true then sC S 2 i else 0)) + 0))), (3, .ref h1), (0, .ref hp), (1, .int (zI (((set : Nat) : Int)))), (2, .int (zI (1)))]) hx hb dX2_use_44 hl (k := 1) rfl (by decide) rfl (fun ls hl => ?_)
          refine lv_goto (tgt := 13) hx hb dX2_use_47 (by decide) ?_
          exact ih_13 (i + 1) _ _ (by omega) (by omega) (by first | rfl | omega) (by simp only [sSum]; first | rw [if_pos c30] | rw [if_neg c30]) _ _ _ w (lv_sub hl [0, 1, 2, 3, 4, 5] rfl)
        · skip
          refine lv_aload_n hx hb dX2_use_33 rfl (lv_at hl 2 rfl) ?_
          refine lv_iload hx hb dX2_use_34 (lv_at hl 0 rfl) ?_
          refine z_iald hx hb w 4 rfl i (by omega) (by decide) rfl (v := (zI (sC S 2 i))) (if_pos (by omega)) dX2_use_36 ?_
          refine lv_goto (tgt := 41) hx hb dX2_use_37 (by decide) ?_
          refine z_iadd hx hb dX2_use_41 ?_
          refine lv_istore (lv' := [(4, .int (zI ((sSum i (fun i => if set.testBit i = true then sC S 2 i else 0)) + (sC S 2 i)))), (5, .int (zI (((i : Nat) : Int)))), (3, .ref h1), (0, .ref hp), (1, .int (zI (((set : Nat) : Int)))), (2, .int (zI (1)))]) hx hb dX2_use_42 hl (by decide) rfl (fun ls hl => ?_)
          refine z_iinc (lv' := [(5, .int (zI (((i : Nat) : Int) + 1))), (4, .int (zI ((sSum i (fun i => if set.testBit i = true then sC S 2 i else 0)) + (sC S 2 i)))), (3, .ref h1), (0, .ref hp), (1, .int (zI (((set : Nat) : Int)))), (2, .int (zI (1)))]) hx hb dX2_use_44 hl (k := 1) rfl (by decide) rfl (fun ls hl => ?_)
          refine lv_goto (tgt := 13) hx hb dX2_use_47 (by decide) ?_
          exact ih_13 (i + 1) _ _ (by omega) (by omega) (by first | rfl | omega) (by simp only [sSum]; first | rw [if_pos c30] | rw [if_neg c30]) _ _ _ w (lv_sub hl [0, 1, 2, 3, 4, 5] rfl)
  exact lp_13 ((zn S - 0) + 1) 0 _ _ (by omega) (by omega) (by first | rfl | omega) (by first | rfl | omega) _ _ _ w (lv_sub hl [0, 1, 2, 3, 4, 5] rfl)
set_option maxHeartbeats 6000000 in
set_option maxRecDepth 100000 in
theorem c_X2_use2 (l : Launch) (D : zD) (hp hw hz h0 h1 h2 hl0 : Nat) (S : Nat → Int) (hok : OkP S) (set : Nat) (hs : set < 2147483648) : zM l yX2_use wsX2_use (zR 1) zE0 D [.ref hp, .int (zI (((set : Nat) : Int))), .int (zI (2))] (wPk D hp hw hz h0 h1 h2 hl0 S) (zQi D (fun r W1 => r = zI (sUse S set 3) ∧ W1 = (wPk D hp hw hz h0 h1 h2 hl0 S))) := by
  refine zM.of (cc := cX2_use) (maxL := 6) (ret := (some .int)) (by decide) rfl (Nat.le_of_ble_eq_true rfl) ?_
  intro p e s m below meth c A hx hb hml hown hts hr hlocks hE hnm w ls hl
  have hown : s.vm.findClass RX2 = some m.cls := hown
  have hl : lv_has ls 6 [(0, .ref hp), (1, .int (zI (((set : Nat) : Int)))), (2, .int (zI (2)))] := hl
  have f_17 : (Cond.fieldLink RX2 17 "RelaxedSteps$Packing" "sizes" "[[I").before _ s = true := hts _ (by decide +kernel)
  have f_23 : (Cond.fieldLink RX2 23 "RelaxedSteps$Packing" "items" "I").before _ s = true := hts _ (by decide +kernel)
  have inX2 : ∀ w ∈ u_ws RX2 TX2 4, w ∈ wsX2_use := by decide +kernel
  have hn := zn_eq hok
  have h16 := zn_le hok
  have hlim := hok.2.2
  have w : zW D A s.heap s [(hp, .inr (2, [.ref hw, .ref hz, .ref hl0, .int (zI (S 0))])), (hw, .inl (D.2 0, 16, .inl (fC S 0))), (hz, .inl (D.2 5, 3, .inr (.inr (.inr (.inr (f3 h0 h1 h2)))))), (h0, .inl (D.2 0, 16, .inl (fC S 1))), (h1, .inl (D.2 0, 16, .inl (fC S 2))), (h2, .inl (D.2 0, 16, .inl (fC S 3))), (hl0, .inl (D.2 0, 3, .inl (fLm S)))] s.heap [] := w
  refine lv_aload_n hx hb dX2_use_0 rfl (lv_at hl 0 rfl) ?_
  refine z_get hx hb hown hts w inX2 0 1 rfl rfl (by decide) f_17 rfl rfl dX2_use_1 ?_
  refine lv_iload_n hx hb dX2_use_4 rfl (lv_at hl 2 rfl) ?_
  refine z_aald (t0 := 5) hx hb w 2 rfl rfl rfl 2 (by omega) (by decide) rfl (v := h2) rfl dX2_use_5 ?_
  refine lv_astore_n (lv' := [(3, .ref h2), (0, .ref hp), (1, .int (zI (((set : Nat) : Int)))), (2, .int (zI (2)))]) hx hb dX2_use_6 rfl hl (by decide) rfl (fun ls hl => ?_)
  refine lv_iconst (v := zI 0) hx hb dX2_use_7 rfl ?_
  refine lv_istore (lv' := [(4, .int (zI (0))), (3, .ref h2), (0, .ref hp), (1, .int (zI (((set : Nat) : Int)))), (2, .int (zI (2)))]) hx hb dX2_use_8 hl (by decide) rfl (fun ls hl => ?_)
  refine lv_iconst (v := zI 0) hx hb dX2_use_10 rfl ?_
  refine lv_istore (lv' := [(5, .int (zI (0))), (4, .int (zI (0))), (3, .ref h2), (0, .ref hp), (1, .int (zI (((set : Nat) : Int)))), (2, .int (zI (2)))]) hx hb dX2_use_11 hl (by decide) rfl (fun ls hl => ?_)
  have lp_13 : ∀ (n_13 : Nat) (i : Nat) (x5 : Int) (x4 : Int) , zn S - i < n_13 → (i ≤ zn S) → x5 = ((i : Nat) : Int) → x4 = sSum i (fun i => if set.testBit i = true then sC S 3 i else 0) → ∀ (H : Heap) (locs : List Loc) (ls : Array Slot), zW D A s.heap s [(hp, .inr (2, [.ref hw, .ref hz, .ref hl0, .int (zI (S 0))])), (hw, .inl (D.2 0, 16, .inl (fC S 0))), (hz, .inl (D.2 5, 3, .inr (.inr (.inr (.inr (f3 h0 h1 h2)))))), (h0, .inl (D.2 0, 16, .inl (fC S 1))), (h1, .inl (D.2 0, 16, .inl (fC S 2))), (h2, .inl (D.2 0, 16, .inl (fC S 3))), (hl0, .inl (D.2 0, 3, .inl (fLm S)))] H locs → lv_has ls 6 [(5, .int (zI (x5))), (4, .int (zI (x4))), (3, .ref h2), (0, .ref hp), (1, .int (zI (((set : Nat) : Int)))), (2, .int (zI (2)))] → W p l e (zR 1) s m [.ref hp, .int (zI (((set : Nat) : Int))), .int (zI (2))].toArray below meth c H locs 0 0 (MQ below ((zQi D (fun r W1 => r = zI (sUse S set 3) ∧ W1 = (wPk D hp hw hz h0 h1 h2 hl0 S))) A) [.ref hp, .int (zI (((set : Nat) : Int))), .int (zI (2))].toArray s 0 0 A) (F0 m 13 ls []) := by
    intro n_13
    induction n_13 with
    | zero => intro i x5 x4 h_; exact absurd h_ (Nat.not_lt_zero _)
    | succ n_13 ih_13 =>
      intro i x5 x4 hf_13 hi ex5 ex4 H locs ls w hl
      subst ex5
      subst ex4
      have hl : lv_has ls 6 [(5, .int (zI (((i : Nat) : Int)))), (4, .int (zI (sSum i (fun i => if set.testBit i = true then sC S 3 i else 0)))), (3, .ref h2), (0, .ref hp), (1, .int (zI (((set : Nat) : Int)))), (2, .int (zI (2)))] := hl
      refine lv_iload hx hb dX2_use_13 (lv_at hl 0 rfl) ?_
      refine lv_aload_n hx hb dX2_use_15 rfl (lv_at hl 3 rfl) ?_
      refine z_get hx hb hown hts w inX2 0 3 rfl rfl (by decide) f_23 rfl rfl dX2_use_16 ?_
      refine z_icmp_ge (tgt := 50) hx hb (by omega) (by omega) dX2_use_19 (by decide) (fun c19 => ?_) (fun c19 => ?_)
      · skip
        refine lv_iload hx hb dX2_use_50 (lv_at hl 1 rfl) ?_
        exact z_iret hx hb hr hlocks w dX2_use_52 ⟨by have e9 : i = zn S := (by omega); subst e9; rfl, rfl⟩
      · skip
        refine lv_iload hx hb dX2_use_22 (lv_at hl 1 rfl) ?_
        refine lv_iload hx hb dX2_use_24 (lv_at hl 0 rfl) ?_
        refine lv_iload_n hx hb dX2_use_26 rfl (lv_at hl 4 rfl) ?_
        refine z_SN_i (As := [.int (zI (((i : Nat) : Int))), .int (zI (((set : Nat) : Int)))]) (rest := [.int (zI (sSum i (fun i => if set.testBit i = true then sC S 3 i else 0)))]) (Wr := [(hp, .inr (2, [.ref hw, .ref hz, .ref hl0, .int (zI (S 0))])), (hw, .inl (D.2 0, 16, .inl (fC S 0))), (hz, .inl (D.2 5, 3, .inr (.inr (.inr (.inr (f3 h0 h1 h2)))))), (h0, .inl (D.2 0, 16, .inl (fC S 1))), (h1, .inl (D.2 0, 16, .inl (fC S 2))), (h2, .inl (D.2 0, 16, .inl (fC S 3))), (hl0, .inl (D.2 0, 3, .inl (fLm S)))]) ⟨hx, hb, hml, hown, hts⟩ (c_X6_isIn l D i set (by omega) (by omega)) ⟨va_cnB 2 hts ggX2_use_X6_isIn rfl rfl rfl (w.1.2 (RX2, 51, yX6_isIn, "RelaxedSteps") (by decide +kernel)) (hts (.initialized RX6) (by decide +kernel)) (by decide +kernel) ⟨Nat.le_of_ble_eq_true rfl, Nat.le_of_ble_eq_true rfl⟩, hts (.static yX6_isIn) (by decide +kernel), trivial⟩ w [] rfl (by decide) [0, 1, 2, 3, 4, 5, 6] rfl (by decide) (by decide) rfl hl.1 rfl (lv_room (Nat.le_of_ble_eq_true rfl)) dX2_use_27 ⟨Nat.zero_le _, Nat.zero_le _⟩ (fun r W1 H locs hp w => ?_)
        obtain ⟨rfl, rfl⟩ := hp
        have w : zW D A s.heap s [(hp, .inr (2, [.ref hw, .ref hz, .ref hl0, .int (zI (S 0))])), (hw, .inl (D.2 0, 16, .inl (fC S 0))), (hz, .inl (D.2 5, 3, .inr (.inr (.inr (.inr (f3 h0 h1 h2)))))), (h0, .inl (D.2 0, 16, .inl (fC S 1))), (h1, .inl (D.2 0, 16, .inl (fC S 2))), (h2, .inl (D.2 0, 16, .inl (fC S 3))), (hl0, .inl (D.2 0, 3, .inl (fLm S)))] H locs := w.sub [0, 1, 2, 3, 4, 5, 6] (by decide) rfl
        refine z_if_eq_b (tgt := 40) hx hb dX2_use_30 (by decide) (fun c30 => ?_) (fun c30 => ?_)
        · skip
          refine lv_iconst (v := zI 0) hx hb dX2_use_40 rfl ?_
          refine z_iadd hx hb dX2_use_41 ?_
          refine lv_istore (lv' := [(4, .int (zI ((sSum i (fun i => if set.testBit i = true then sC S 3 i else 0)) + 0))), (5, .int (zI (((i : Nat) : Int)))), (3, .ref h2), (0, .ref hp), (1, .int (zI (((set : Nat) : Int)))), (2, .int (zI (2)))]) hx hb dX2_use_42 hl (by decide) rfl (fun ls hl => ?_)
          refine z_iinc (lv' := [(5, .int (zI (((i : Nat) : Int) + 1))), (4, .int (zI ((sSum i (fun i => if set.testBit i = true then sC S 3 i else 0)) + 0))), (3, .ref h2), (0, .ref hp), (1, .int (zI (((set : Nat) : Int)))), (2, .int (zI (2)))]) hx hb dX2_use_44 hl (k := 1) rfl (by decide) rfl (fun ls hl => ?_)
          refine lv_goto (tgt := 13) hx hb dX2_use_47 (by decide) ?_
          exact ih_13 (i + 1) _ _ (by omega) (by omega) (by first | rfl | omega) (by simp only [sSum]; first | rw [if_pos c30] | rw [if_neg c30]) _ _ _ w (lv_sub hl [0, 1, 2, 3, 4, 5] rfl)
        · skip
          refine lv_aload_n hx hb dX2_use_33 rfl (lv_at hl 2 rfl) ?_
          refine lv_iload hx hb dX2_use_34 (lv_at hl 0 rfl) ?_
          refine z_iald hx hb w 5 rfl i (by omega) (by decide) rfl (v := (zI (sC S 3 i))) (if_pos (by omega)) dX2_use_36 ?_
          refine lv_goto (tgt := 41) hx hb dX2_use_37 (by decide) ?_
          refine z_iadd hx hb dX2_use_41 ?_
          refine lv_istore (lv' := [(4, .int (zI ((sSum i (fun i => if set.testBit i = true then sC S 3 i else 0)) + (sC S 3 i)))), (5, .int (zI (((i : Nat) : Int)))), (3, .ref h2), (0, .ref hp), (1, .int (zI (((set : Nat) : Int)))), (2, .int (zI (2)))]) hx hb dX2_use_42 hl (by decide) rfl (fun ls hl => ?_)
          refine z_iinc (lv' := [(5, .int (zI (((i : Nat) : Int) + 1))), (4, .int (zI ((sSum i (fun i => if set.testBit i = true then sC S 3 i else 0)) + (sC S 3 i)))), (3, .ref h2), (0, .ref hp), (1, .int (zI (((set : Nat) : Int)))), (2, .int (zI (2)))]) hx hb dX2_use_44 hl (k := 1) rfl (by decide) rfl (fun ls hl => ?_)
          refine lv_goto (tgt := 13) hx hb dX2_use_47 (by decide) ?_
          exact ih_13 (i + 1) _ _ (by omega) (by omega) (by first | rfl | omega) (by simp only [sSum]; first | rw [if_pos c30] | rw [if_neg c30]) _ _ _ w (lv_sub hl [0, 1, 2, 3, 4, 5] rfl)
  exact lp_13 ((zn S - 0) + 1) 0 _ _ (by omega) (by omega) (by first | rfl | omega) (by first | rfl | omega) _ _ _ w (lv_sub hl [0, 1, 2, 3, 4, 5] rfl)
set_option maxHeartbeats 6000000 in
set_option maxRecDepth 100000 in
theorem c_X2_fits (l : Launch) (D : zD) (hp hw hz h0 h1 h2 hl0 : Nat) (S : Nat → Int) (hok : OkP S) (set : Nat) (hs : set < 2147483648) : zM l yX2_fits wsX2_fits (zR 2) zE0 D [.ref hp, .int (zI (((set : Nat) : Int)))] (wPk D hp hw hz h0 h1 h2 hl0 S) (zQi D (fun r W1 => r = zI (zb (sFit S set)) ∧ W1 = (wPk D hp hw hz h0 h1 h2 hl0 S))) := by
  refine zM.of (cc := cX2_fits) (maxL := 3) (ret := (some .boolean)) (by decide) rfl (Nat.le_of_ble_eq_true rfl) ?_
  intro p e s m below meth c A hx hb hml hown hts hr hlocks hE hnm w ls hl
  have hown : s.vm.findClass RX2 = some m.cls := hown
  have hl : lv_has ls 3 [(0, .ref hp), (1, .int (zI (((set : Nat) : Int))))] := hl
  have f_20 : (Cond.fieldLink RX2 20 "RelaxedSteps$Packing" "limits" "[I").before _ s = true := hts _ (by decide +kernel)
  have inX2 : ∀ w ∈ u_ws RX2 TX2 4, w ∈ wsX2_fits := by decide +kernel
  have hn := zn_eq hok
  have h16 := zn_le hok
  have hlim := hok.2.2
  have hokp := hok
  have b1 := sUse_b hok set (what := 1) (by omega)
  have b2 := sUse_b hok set (what := 2) (by omega)
  have b3 := sUse_b hok set (what := 3) (by omega)
  have w : zW D A s.heap s [(hp, .inr (2, [.ref hw, .ref hz, .ref hl0, .int (zI (S 0))])), (hw, .inl (D.2 0, 16, .inl (fC S 0))), (hz, .inl (D.2 5, 3, .inr (.inr (.inr (.inr (f3 h0 h1 h2)))))), (h0, .inl (D.2 0, 16, .inl (fC S 1))), (h1, .inl (D.2 0, 16, .inl (fC S 2))), (h2, .inl (D.2 0, 16, .inl (fC S 3))), (hl0, .inl (D.2 0, 3, .inl (fLm S)))] s.heap [] := w
  refine lv_iconst (v := zI 0) hx hb dX2_fits_0 rfl ?_
  refine lv_istore_n (lv' := [(2, .int (zI (0))), (0, .ref hp), (1, .int (zI (((set : Nat) : Int))))]) hx hb dX2_fits_1 rfl hl (by decide) rfl (fun ls hl => ?_)
  refine lv_iload_n hx hb dX2_fits_2 rfl (lv_at hl 0 rfl) ?_
  refine lv_iconst (v := zI 3) hx hb dX2_fits_3 rfl ?_
  refine z_icmp_ge (tgt := 30) hx hb (by omega) (by omega) dX2_fits_4 (by decide) (fun c4 => ?_) (fun c4 => ?_)
  · skip
    exact absurd c4 (by omega)
  · skip
    refine lv_aload_n hx hb dX2_fits_7 rfl (lv_at hl 1 rfl) ?_
    refine lv_iload_n hx hb dX2_fits_8 rfl (lv_at hl 2 rfl) ?_
    refine lv_iload_n hx hb dX2_fits_9 rfl (lv_at hl 0 rfl) ?_
    refine z_V_i (As := [.int (zI (((set : Nat) : Int))), .int (zI (0))]) (rest := []) (Wr := []) ⟨hx, hb, hml, hown, hts⟩ (c_X2_use0 l D hp hw hz h0 h1 h2 hl0 S hokp set (by omega)) (cwV 2 hts gX2_fits_X2_use rfl rfl rfl (by decide +kernel) ⟨Nat.le_of_ble_eq_true rfl, Nat.le_of_ble_eq_true rfl⟩) w (q0 := 0) rfl rfl rfl [0, 1, 2, 3, 4, 5, 6] rfl (by decide) [] rfl (by decide) (by decide) rfl hl.1 rfl (lv_room (Nat.le_of_ble_eq_true rfl)) dX2_fits_10 ⟨Nat.zero_le _, Nat.zero_le _⟩ (fun r W1 H locs hp w => ?_)
    obtain ⟨rfl, rfl⟩ := hp
    have w : zW D A s.heap s [(hp, .inr (2, [.ref hw, .ref hz, .ref hl0, .int (zI (S 0))])), (hw, .inl (D.2 0, 16, .inl (fC S 0))), (hz, .inl (D.2 5, 3, .inr (.inr (.inr (.inr (f3 h0 h1 h2)))))), (h0, .inl (D.2 0, 16, .inl (fC S 1))), (h1, .inl (D.2 0, 16, .inl (fC S 2))), (h2, .inl (D.2 0, 16, .inl (fC S 3))), (hl0, .inl (D.2 0, 3, .inl (fLm S)))] H locs := w.sub [0, 1, 2, 3, 4, 5, 6] (by decide) rfl
    refine lv_aload_n hx hb dX2_fits_13 rfl (lv_at hl 1 rfl) ?_
    refine z_get hx hb hown hts w inX2 0 2 rfl rfl (by decide) f_20 rfl rfl dX2_fits_14 ?_
    refine lv_iload_n hx hb dX2_fits_17 rfl (lv_at hl 0 rfl) ?_
    refine z_iald hx hb w 6 rfl 0 (by omega) (by decide) rfl (v := (zI (S 65))) (if_pos (by omega)) dX2_fits_18 ?_
    refine z_icmp_le (tgt := 24) hx hb (by omega) (by omega) dX2_fits_19 (by decide) (fun c19 => ?_) (fun c19 => ?_)
    · skip
      refine z_iinc (lv' := [(2, .int (zI (0 + 1))), (0, .ref hp), (1, .int (zI (((set : Nat) : Int))))]) hx hb dX2_fits_24 hl (k := 0) rfl (by decide) rfl (fun ls hl => ?_)
      have hl : lv_has ls 3 [(2, .int (zI (1))), (0, .ref hp), (1, .int (zI (((set : Nat) : Int))))] := hl
      refine lv_goto (tgt := 2) hx hb dX2_fits_27 (by decide) ?_
      refine lv_iload_n hx hb dX2_fits_2 rfl (lv_at hl 0 rfl) ?_
      refine lv_iconst (v := zI 3) hx hb dX2_fits_3 rfl ?_
      refine z_icmp_ge (tgt := 30) hx hb (by omega) (by omega) dX2_fits_4 (by decide) (fun c4 => ?_) (fun c4 => ?_)
      · skip
        exact absurd c4 (by omega)
      · skip
        refine lv_aload_n hx hb dX2_fits_7 rfl (lv_at hl 1 rfl) ?_
        refine lv_iload_n hx hb dX2_fits_8 rfl (lv_at hl 2 rfl) ?_
        refine lv_iload_n hx hb dX2_fits_9 rfl (lv_at hl 0 rfl) ?_
        refine z_V_i (As := [.int (zI (((set : Nat) : Int))), .int (zI (1))]) (rest := []) (Wr := []) ⟨hx, hb, hml, hown, hts⟩ (c_X2_use1 l D hp hw hz h0 h1 h2 hl0 S hokp set (by omega)) (cwV 2 hts gX2_fits_X2_use rfl rfl rfl (by decide +kernel) ⟨Nat.le_of_ble_eq_true rfl, Nat.le_of_ble_eq_true rfl⟩) w (q0 := 0) rfl rfl rfl [0, 1, 2, 3, 4, 5, 6] rfl (by decide) [] rfl (by decide) (by decide) rfl hl.1 rfl (lv_room (Nat.le_of_ble_eq_true rfl)) dX2_fits_10 ⟨Nat.zero_le _, Nat.zero_le _⟩ (fun r W1 H locs hp w => ?_)
        obtain ⟨rfl, rfl⟩ := hp
        have w : zW D A s.heap s [(hp, .inr (2, [.ref hw, .ref hz, .ref hl0, .int (zI (S 0))])), (hw, .inl (D.2 0, 16, .inl (fC S 0))), (hz, .inl (D.2 5, 3, .inr (.inr (.inr (.inr (f3 h0 h1 h2)))))), (h0, .inl (D.2 0, 16, .inl (fC S 1))), (h1, .inl (D.2 0, 16, .inl (fC S 2))), (h2, .inl (D.2 0, 16, .inl (fC S 3))), (hl0, .inl (D.2 0, 3, .inl (fLm S)))] H locs := w.sub [0, 1, 2, 3, 4, 5, 6] (by decide) rfl
        refine lv_aload_n hx hb dX2_fits_13 rfl (lv_at hl 1 rfl) ?_
        refine z_get hx hb hown hts w inX2 0 2 rfl rfl (by decide) f_20 rfl rfl dX2_fits_14 ?_
        refine lv_iload_n hx hb dX2_fits_17 rfl (lv_at hl 0 rfl) ?_
        refine z_iald hx hb w 6 rfl 1 (by omega) (by decide) rfl (v := (zI (S 66))) (if_pos (by omega)) dX2_fits_18 ?_
        refine z_icmp_le (tgt := 24) hx hb (by omega) (by omega) dX2_fits_19 (by decide) (fun c19 => ?_) (fun c19 => ?_)
        · skip
          refine z_iinc (lv' := [(2, .int (zI (1 + 1))), (0, .ref hp), (1, .int (zI (((set : Nat) : Int))))]) hx hb dX2_fits_24 hl (k := 0) rfl (by decide) rfl (fun ls hl => ?_)
          have hl : lv_has ls 3 [(2, .int (zI (2))), (0, .ref hp), (1, .int (zI (((set : Nat) : Int))))] := hl
          refine lv_goto (tgt := 2) hx hb dX2_fits_27 (by decide) ?_
          refine lv_iload_n hx hb dX2_fits_2 rfl (lv_at hl 0 rfl) ?_
          refine lv_iconst (v := zI 3) hx hb dX2_fits_3 rfl ?_
          refine z_icmp_ge (tgt := 30) hx hb (by omega) (by omega) dX2_fits_4 (by decide) (fun c4 => ?_) (fun c4 => ?_)
          · skip
            exact absurd c4 (by omega)
          · skip
            refine lv_aload_n hx hb dX2_fits_7 rfl (lv_at hl 1 rfl) ?_
            refine lv_iload_n hx hb dX2_fits_8 rfl (lv_at hl 2 rfl) ?_
            refine lv_iload_n hx hb dX2_fits_9 rfl (lv_at hl 0 rfl) ?_
            refine z_V_i (As := [.int (zI (((set : Nat) : Int))), .int (zI (2))]) (rest := []) (Wr := []) ⟨hx, hb, hml, hown, hts⟩ (c_X2_use2 l D hp hw hz h0 h1 h2 hl0 S hokp set (by omega)) (cwV 2 hts gX2_fits_X2_use rfl rfl rfl (by decide +kernel) ⟨Nat.le_of_ble_eq_true rfl, Nat.le_of_ble_eq_true rfl⟩) w (q0 := 0) rfl rfl rfl [0, 1, 2, 3, 4, 5, 6] rfl (by decide) [] rfl (by decide) (by decide) rfl hl.1 rfl (lv_room (Nat.le_of_ble_eq_true rfl)) dX2_fits_10 ⟨Nat.zero_le _, Nat.zero_le _⟩ (fun r W1 H locs hp w => ?_)
            obtain ⟨rfl, rfl⟩ := hp
            have w : zW D A s.heap s [(hp, .inr (2, [.ref hw, .ref hz, .ref hl0, .int (zI (S 0))])), (hw, .inl (D.2 0, 16, .inl (fC S 0))), (hz, .inl (D.2 5, 3, .inr (.inr (.inr (.inr (f3 h0 h1 h2)))))), (h0, .inl (D.2 0, 16, .inl (fC S 1))), (h1, .inl (D.2 0, 16, .inl (fC S 2))), (h2, .inl (D.2 0, 16, .inl (fC S 3))), (hl0, .inl (D.2 0, 3, .inl (fLm S)))] H locs := w.sub [0, 1, 2, 3, 4, 5, 6] (by decide) rfl
            refine lv_aload_n hx hb dX2_fits_13 rfl (lv_at hl 1 rfl) ?_
            refine z_get hx hb hown hts w inX2 0 2 rfl rfl (by decide) f_20 rfl rfl dX2_fits_14 ?_
            refine lv_iload_n hx hb dX2_fits_17 rfl (lv_at hl 0 rfl) ?_
            refine z_iald hx hb w 6 rfl 2 (by omega) (by decide) rfl (v := (zI (S 67))) (if_pos (by omega)) dX2_fits_18 ?_
            refine z_icmp_le (tgt := 24) hx hb (by omega) (by omega) dX2_fits_19 (by decide) (fun c19 => ?_) (fun c19 => ?_)
            · skip
              refine z_iinc (lv' := [(2, .int (zI (2 + 1))), (0, .ref hp), (1, .int (zI (((set : Nat) : Int))))]) hx hb dX2_fits_24 hl (k := 0) rfl (by decide) rfl (fun ls hl => ?_)
              have hl : lv_has ls 3 [(2, .int (zI (3))), (0, .ref hp), (1, .int (zI (((set : Nat) : Int))))] := hl
              refine lv_goto (tgt := 2) hx hb dX2_fits_27 (by decide) ?_
              refine lv_iload_n hx hb dX2_fits_2 rfl (lv_at hl 0 rfl) ?_
              refine lv_iconst (v := zI 3) hx hb dX2_fits_3 rfl ?_
              refine z_icmp_ge (tgt := 30) hx hb (by omega) (by omega) dX2_fits_4 (by decide) (fun c4 => ?_) (fun c4 => ?_)
              · skip
                refine lv_iconst (v := zI 1) hx hb dX2_fits_30 rfl ?_
                exact z_zret hx hb hr hlocks w dX2_fits_31 (by omega) ⟨by first | rw [zb_t (by omega)] | rw [zb_f (by omega)], rfl⟩
              · skip
                exact absurd c4 (by omega)
            · skip
              refine lv_iconst (v := zI 0) hx hb dX2_fits_22 rfl ?_
              exact z_zret hx hb hr hlocks w dX2_fits_23 (by omega) ⟨by first | rw [zb_t (by omega)] | rw [zb_f (by omega)], rfl⟩
        · skip
          refine lv_iconst (v := zI 0) hx hb dX2_fits_22 rfl ?_
          exact z_zret hx hb hr hlocks w dX2_fits_23 (by omega) ⟨by first | rw [zb_t (by omega)] | rw [zb_f (by omega)], rfl⟩
    · skip
      refine lv_iconst (v := zI 0) hx hb dX2_fits_22 rfl ?_
      exact z_zret hx hb hr hlocks w dX2_fits_23 (by omega) ⟨by first | rw [zb_t (by omega)] | rw [zb_f (by omega)], rfl⟩
set_option maxHeartbeats 6000000 in
set_option maxRecDepth 100000 in
theorem c_X2_price (l : Launch) (D : zD) (hp hw hz h0 h1 h2 hl0 hm : Nat) (S M : Nat → Int) (hok : OkP S) (i : Nat) (hi : i < 16) : zM l yX2_price wsX2_price (zR 0) zE0 D [.ref hp, .int (zI (((i : Nat) : Int))), .ref hm] (wPm D hp hw hz h0 h1 h2 hl0 hm S M) (zQi D (fun r W1 => r = zI (sPr S M i) ∧ W1 = (wPm D hp hw hz h0 h1 h2 hl0 hm S M))) := by
  refine zM.of (cc := cX2_price) (maxL := 5) (ret := (some .int)) (by decide) rfl (Nat.le_of_ble_eq_true rfl) ?_
  intro p e s m below meth c A hx hb hml hown hts hr hlocks hE hnm w ls hl
  have hown : s.vm.findClass RX2 = some m.cls := hown
  have hl : lv_has ls 5 [(0, .ref hp), (1, .int (zI (((i : Nat) : Int)))), (2, .ref hm)] := hl
  have f_9 : (Cond.fieldLink RX2 9 "RelaxedSteps$Packing" "worths" "[I").before _ s = true := hts _ (by decide +kernel)
  have f_17 : (Cond.fieldLink RX2 17 "RelaxedSteps$Packing" "sizes" "[[I").before _ s = true := hts _ (by decide +kernel)
  have inX2 : ∀ w ∈ u_ws RX2 TX2 4, w ∈ wsX2_price := by decide +kernel
  have hn := zn_eq hok
  have h16 := zn_le hok
  have hlim := hok.2.2
  have w : zW D A s.heap s [(hp, .inr (2, [.ref hw, .ref hz, .ref hl0, .int (zI (S 0))])), (hw, .inl (D.2 0, 16, .inl (fC S 0))), (hz, .inl (D.2 5, 3, .inr (.inr (.inr (.inr (f3 h0 h1 h2)))))), (h0, .inl (D.2 0, 16, .inl (fC S 1))), (h1, .inl (D.2 0, 16, .inl (fC S 2))), (h2, .inl (D.2 0, 16, .inl (fC S 3))), (hl0, .inl (D.2 0, 3, .inl (fLm S))), (hm, .inl (D.2 0, 3, .inl (fMu M)))] s.heap [] := w
  refine lv_bipush (v := zI 100) hx hb dX2_price_0 (by decide +kernel) ?_
  refine lv_aload_n hx hb dX2_price_2 rfl (lv_at hl 0 rfl) ?_
  refine z_get hx hb hown hts w inX2 0 0 rfl rfl (by decide) f_9 rfl rfl dX2_price_3 ?_
  refine lv_iload_n hx hb dX2_price_6 rfl (lv_at hl 1 rfl) ?_
  refine z_iald hx hb w 1 rfl i (by omega) (by decide) rfl (v := (zI (sC S 0 i))) (if_pos (by omega)) dX2_price_7 ?_
  refine z_imul hx hb dX2_price_8 ?_
  refine lv_istore_n (lv' := [(3, .int (zI (100 * (sC S 0 i)))), (0, .ref hp), (1, .int (zI (((i : Nat) : Int)))), (2, .ref hm)]) hx hb dX2_price_9 rfl hl (by decide) rfl (fun ls hl => ?_)
  refine lv_iconst (v := zI 0) hx hb dX2_price_10 rfl ?_
  refine lv_istore (lv' := [(4, .int (zI (0))), (3, .int (zI (100 * (sC S 0 i)))), (0, .ref hp), (1, .int (zI (((i : Nat) : Int)))), (2, .ref hm)]) hx hb dX2_price_11 hl (by decide) rfl (fun ls hl => ?_)
  refine lv_iload hx hb dX2_price_13 (lv_at hl 0 rfl) ?_
  refine lv_iconst (v := zI 3) hx hb dX2_price_15 rfl ?_
  refine z_icmp_ge (tgt := 42) hx hb (by omega) (by omega) dX2_price_16 (by decide) (fun c16 => ?_) (fun c16 => ?_)
  · skip
    exact absurd c16 (by omega)
  · skip
    refine lv_iload_n hx hb dX2_price_19 rfl (lv_at hl 1 rfl) ?_
    refine lv_aload_n hx hb dX2_price_20 rfl (lv_at hl 4 rfl) ?_
    refine lv_iload hx hb dX2_price_21 (lv_at hl 0 rfl) ?_
    refine z_iald hx hb w 7 rfl 0 (by omega) (by decide) rfl (v := (zI (M 0))) (if_pos (by omega)) dX2_price_23 ?_
    refine lv_aload_n hx hb dX2_price_24 rfl (lv_at hl 2 rfl) ?_
    refine z_get hx hb hown hts w inX2 0 1 rfl rfl (by decide) f_17 rfl rfl dX2_price_25 ?_
    refine lv_iload hx hb dX2_price_28 (lv_at hl 0 rfl) ?_
    refine z_aald (t0 := 5) hx hb w 2 rfl rfl rfl 0 (by omega) (by decide) rfl (v := h0) rfl dX2_price_30 ?_
    refine lv_iload_n hx hb dX2_price_31 rfl (lv_at hl 3 rfl) ?_
    refine z_iald hx hb w 3 rfl i (by omega) (by decide) rfl (v := (zI (sC S 1 i))) (if_pos (by omega)) dX2_price_32 ?_
    refine z_imul hx hb dX2_price_33 ?_
    refine z_isub hx hb dX2_price_34 ?_
    refine lv_istore_n (lv' := [(3, .int (zI ((100 * (sC S 0 i)) - ((M 0) * (sC S 1 i))))), (4, .int (zI (0))), (0, .ref hp), (1, .int (zI (((i : Nat) : Int)))), (2, .ref hm)]) hx hb dX2_price_35 rfl hl (by decide) rfl (fun ls hl => ?_)
    refine z_iinc (lv' := [(4, .int (zI (0 + 1))), (3, .int (zI ((100 * (sC S 0 i)) - ((M 0) * (sC S 1 i))))), (0, .ref hp), (1, .int (zI (((i : Nat) : Int)))), (2, .ref hm)]) hx hb dX2_price_36 hl (k := 1) rfl (by decide) rfl (fun ls hl => ?_)
    have hl : lv_has ls 5 [(4, .int (zI (1))), (3, .int (zI ((100 * (sC S 0 i)) - ((M 0) * (sC S 1 i))))), (0, .ref hp), (1, .int (zI (((i : Nat) : Int)))), (2, .ref hm)] := hl
    refine lv_goto (tgt := 13) hx hb dX2_price_39 (by decide) ?_
    refine lv_iload hx hb dX2_price_13 (lv_at hl 0 rfl) ?_
    refine lv_iconst (v := zI 3) hx hb dX2_price_15 rfl ?_
    refine z_icmp_ge (tgt := 42) hx hb (by omega) (by omega) dX2_price_16 (by decide) (fun c16 => ?_) (fun c16 => ?_)
    · skip
      exact absurd c16 (by omega)
    · skip
      refine lv_iload_n hx hb dX2_price_19 rfl (lv_at hl 1 rfl) ?_
      refine lv_aload_n hx hb dX2_price_20 rfl (lv_at hl 4 rfl) ?_
      refine lv_iload hx hb dX2_price_21 (lv_at hl 0 rfl) ?_
      refine z_iald hx hb w 7 rfl 1 (by omega) (by decide) rfl (v := (zI (M 1))) (if_pos (by omega)) dX2_price_23 ?_
      refine lv_aload_n hx hb dX2_price_24 rfl (lv_at hl 2 rfl) ?_
      refine z_get hx hb hown hts w inX2 0 1 rfl rfl (by decide) f_17 rfl rfl dX2_price_25 ?_
      refine lv_iload hx hb dX2_price_28 (lv_at hl 0 rfl) ?_
      refine z_aald (t0 := 5) hx hb w 2 rfl rfl rfl 1 (by omega) (by decide) rfl (v := h1) rfl dX2_price_30 ?_
      refine lv_iload_n hx hb dX2_price_31 rfl (lv_at hl 3 rfl) ?_
      refine z_iald hx hb w 4 rfl i (by omega) (by decide) rfl (v := (zI (sC S 2 i))) (if_pos (by omega)) dX2_price_32 ?_
      refine z_imul hx hb dX2_price_33 ?_
      refine z_isub hx hb dX2_price_34 ?_
      refine lv_istore_n (lv' := [(3, .int (zI (((100 * (sC S 0 i)) - ((M 0) * (sC S 1 i))) - ((M 1) * (sC S 2 i))))), (4, .int (zI (1))), (0, .ref hp), (1, .int (zI (((i : Nat) : Int)))), (2, .ref hm)]) hx hb dX2_price_35 rfl hl (by decide) rfl (fun ls hl => ?_)
      refine z_iinc (lv' := [(4, .int (zI (1 + 1))), (3, .int (zI (((100 * (sC S 0 i)) - ((M 0) * (sC S 1 i))) - ((M 1) * (sC S 2 i))))), (0, .ref hp), (1, .int (zI (((i : Nat) : Int)))), (2, .ref hm)]) hx hb dX2_price_36 hl (k := 1) rfl (by decide) rfl (fun ls hl => ?_)
      have hl : lv_has ls 5 [(4, .int (zI (2))), (3, .int (zI (((100 * (sC S 0 i)) - ((M 0) * (sC S 1 i))) - ((M 1) * (sC S 2 i))))), (0, .ref hp), (1, .int (zI (((i : Nat) : Int)))), (2, .ref hm)] := hl
      refine lv_goto (tgt := 13) hx hb dX2_price_39 (by decide) ?_
      refine lv_iload hx hb dX2_price_13 (lv_at hl 0 rfl) ?_
      refine lv_iconst (v := zI 3) hx hb dX2_price_15 rfl ?_
      refine z_icmp_ge (tgt := 42) hx hb (by omega) (by omega) dX2_price_16 (by decide) (fun c16 => ?_) (fun c16 => ?_)
      · skip
        exact absurd c16 (by omega)
      · skip
        refine lv_iload_n hx hb dX2_price_19 rfl (lv_at hl 1 rfl) ?_
        refine lv_aload_n hx hb dX2_price_20 rfl (lv_at hl 4 rfl) ?_
        refine lv_iload hx hb dX2_price_21 (lv_at hl 0 rfl) ?_
        refine z_iald hx hb w 7 rfl 2 (by omega) (by decide) rfl (v := (zI (M 2))) (if_pos (by omega)) dX2_price_23 ?_
        refine lv_aload_n hx hb dX2_price_24 rfl (lv_at hl 2 rfl) ?_
        refine z_get hx hb hown hts w inX2 0 1 rfl rfl (by decide) f_17 rfl rfl dX2_price_25 ?_
        refine lv_iload hx hb dX2_price_28 (lv_at hl 0 rfl) ?_
        refine z_aald (t0 := 5) hx hb w 2 rfl rfl rfl 2 (by omega) (by decide) rfl (v := h2) rfl dX2_price_30 ?_
        refine lv_iload_n hx hb dX2_price_31 rfl (lv_at hl 3 rfl) ?_
        refine z_iald hx hb w 5 rfl i (by omega) (by decide) rfl (v := (zI (sC S 3 i))) (if_pos (by omega)) dX2_price_32 ?_
        refine z_imul hx hb dX2_price_33 ?_
        refine z_isub hx hb dX2_price_34 ?_
        refine lv_istore_n (lv' := [(3, .int (zI ((((100 * (sC S 0 i)) - ((M 0) * (sC S 1 i))) - ((M 1) * (sC S 2 i))) - ((M 2) * (sC S 3 i))))), (4, .int (zI (2))), (0, .ref hp), (1, .int (zI (((i : Nat) : Int)))), (2, .ref hm)]) hx hb dX2_price_35 rfl hl (by decide) rfl (fun ls hl => ?_)
        refine z_iinc (lv' := [(4, .int (zI (2 + 1))), (3, .int (zI ((((100 * (sC S 0 i)) - ((M 0) * (sC S 1 i))) - ((M 1) * (sC S 2 i))) - ((M 2) * (sC S 3 i))))), (0, .ref hp), (1, .int (zI (((i : Nat) : Int)))), (2, .ref hm)]) hx hb dX2_price_36 hl (k := 1) rfl (by decide) rfl (fun ls hl => ?_)
        have hl : lv_has ls 5 [(4, .int (zI (3))), (3, .int (zI ((((100 * (sC S 0 i)) - ((M 0) * (sC S 1 i))) - ((M 1) * (sC S 2 i))) - ((M 2) * (sC S 3 i))))), (0, .ref hp), (1, .int (zI (((i : Nat) : Int)))), (2, .ref hm)] := hl
        refine lv_goto (tgt := 13) hx hb dX2_price_39 (by decide) ?_
        refine lv_iload hx hb dX2_price_13 (lv_at hl 0 rfl) ?_
        refine lv_iconst (v := zI 3) hx hb dX2_price_15 rfl ?_
        refine z_icmp_ge (tgt := 42) hx hb (by omega) (by omega) dX2_price_16 (by decide) (fun c16 => ?_) (fun c16 => ?_)
        · skip
          refine lv_iload_n hx hb dX2_price_42 rfl (lv_at hl 1 rfl) ?_
          exact z_iret hx hb hr hlocks w dX2_price_43 ⟨rfl, rfl⟩
        · skip
          exact absurd c16 (by omega)
set_option maxHeartbeats 6000000 in
set_option maxRecDepth 100000 in
theorem c_X2_relaxed (l : Launch) (D : zD) (hp hw hz h0 h1 h2 hl0 hm : Nat) (S M : Nat → Int) (hok : OkP S) (hokm : OkM M) : zM l yX2_relaxed wsX2_relaxed (zR 1) zE0 D [.ref hp, .ref hm] (wPm D hp hw hz h0 h1 h2 hl0 hm S M) (zQi D (fun r W1 => r = zI ((sRel S M : Nat) : Int) ∧ W1 = (wPm D hp hw hz h0 h1 h2 hl0 hm S M))) := by
  refine zM.of (cc := cX2_relaxed) (maxL := 4) (ret := (some .int)) (by decide) rfl (Nat.le_of_ble_eq_true rfl) ?_
  intro p e s m below meth c A hx hb hml hown hts hr hlocks hE hnm w ls hl
  have hown : s.vm.findClass RX2 = some m.cls := hown
  have hl : lv_has ls 4 [(0, .ref hp), (1, .ref hm)] := hl
  have f_23 : (Cond.fieldLink RX2 23 "RelaxedSteps$Packing" "items" "I").before _ s = true := hts _ (by decide +kernel)
  have inX2 : ∀ w ∈ u_ws RX2 TX2 4, w ∈ wsX2_relaxed := by decide +kernel
  have hn := zn_eq hok
  have h16 := zn_le hok
  have hlim := hok.2.2
  have hokp := hok
  have w : zW D A s.heap s [(hp, .inr (2, [.ref hw, .ref hz, .ref hl0, .int (zI (S 0))])), (hw, .inl (D.2 0, 16, .inl (fC S 0))), (hz, .inl (D.2 5, 3, .inr (.inr (.inr (.inr (f3 h0 h1 h2)))))), (h0, .inl (D.2 0, 16, .inl (fC S 1))), (h1, .inl (D.2 0, 16, .inl (fC S 2))), (h2, .inl (D.2 0, 16, .inl (fC S 3))), (hl0, .inl (D.2 0, 3, .inl (fLm S))), (hm, .inl (D.2 0, 3, .inl (fMu M)))] s.heap [] := w
  refine lv_iconst (v := zI 0) hx hb dX2_relaxed_0 rfl ?_
  refine lv_istore_n (lv' := [(2, .int (zI (0))), (0, .ref hp), (1, .ref hm)]) hx hb dX2_relaxed_1 rfl hl (by decide) rfl (fun ls hl => ?_)
  refine lv_iconst (v := zI 0) hx hb dX2_relaxed_2 rfl ?_
  refine lv_istore_n (lv' := [(3, .int (zI (0))), (2, .int (zI (0))), (0, .ref hp), (1, .ref hm)]) hx hb dX2_relaxed_3 rfl hl (by decide) rfl (fun ls hl => ?_)
  have lp_4 : ∀ (n_4 : Nat) (i : Nat) (x3 : Int) (x2 : Int) , zn S - i < n_4 → (i ≤ zn S) → x3 = ((i : Nat) : Int) → x2 = ((sRelN S M i : Nat) : Int) → ∀ (H : Heap) (locs : List Loc) (ls : Array Slot), zW D A s.heap s [(hp, .inr (2, [.ref hw, .ref hz, .ref hl0, .int (zI (S 0))])), (hw, .inl (D.2 0, 16, .inl (fC S 0))), (hz, .inl (D.2 5, 3, .inr (.inr (.inr (.inr (f3 h0 h1 h2)))))), (h0, .inl (D.2 0, 16, .inl (fC S 1))), (h1, .inl (D.2 0, 16, .inl (fC S 2))), (h2, .inl (D.2 0, 16, .inl (fC S 3))), (hl0, .inl (D.2 0, 3, .inl (fLm S))), (hm, .inl (D.2 0, 3, .inl (fMu M)))] H locs → lv_has ls 4 [(3, .int (zI (x3))), (2, .int (zI (x2))), (0, .ref hp), (1, .ref hm)] → W p l e (zR 1) s m [.ref hp, .ref hm].toArray below meth c H locs 0 0 (MQ below ((zQi D (fun r W1 => r = zI ((sRel S M : Nat) : Int) ∧ W1 = (wPm D hp hw hz h0 h1 h2 hl0 hm S M))) A) [.ref hp, .ref hm].toArray s 0 0 A) (F0 m 4 ls []) := by
    intro n_4
    induction n_4 with
    | zero => intro i x3 x2 h_; exact absurd h_ (Nat.not_lt_zero _)
    | succ n_4 ih_4 =>
      intro i x3 x2 hf_4 hi ex3 ex2 H locs ls w hl
      subst ex3
      subst ex2
      have hl : lv_has ls 4 [(3, .int (zI (((i : Nat) : Int)))), (2, .int (zI (((sRelN S M i : Nat) : Int)))), (0, .ref hp), (1, .ref hm)] := hl
      refine lv_iload_n hx hb dX2_relaxed_4 rfl (lv_at hl 0 rfl) ?_
      refine lv_aload_n hx hb dX2_relaxed_5 rfl (lv_at hl 2 rfl) ?_
      refine z_get hx hb hown hts w inX2 0 3 rfl rfl (by decide) f_23 rfl rfl dX2_relaxed_6 ?_
      refine z_icmp_ge (tgt := 33) hx hb (by omega) (by omega) dX2_relaxed_9 (by decide) (fun c9 => ?_) (fun c9 => ?_)
      · skip
        refine lv_iload_n hx hb dX2_relaxed_33 rfl (lv_at hl 1 rfl) ?_
        exact z_iret hx hb hr hlocks w dX2_relaxed_34 ⟨by have e9 : i = zn S := (by omega); subst e9; rfl, rfl⟩
      · skip
        refine lv_aload_n hx hb dX2_relaxed_12 rfl (lv_at hl 2 rfl) ?_
        refine lv_iload_n hx hb dX2_relaxed_13 rfl (lv_at hl 0 rfl) ?_
        refine lv_aload_n hx hb dX2_relaxed_14 rfl (lv_at hl 3 rfl) ?_
        refine z_V_i (As := [.int (zI (((i : Nat) : Int))), .ref hm]) (rest := []) (Wr := []) ⟨hx, hb, hml, hown, hts⟩ (c_X2_price l D hp hw hz h0 h1 h2 hl0 hm S M hokp i (by omega)) (cwV 2 hts gX2_relaxed_X2_price rfl rfl rfl (by decide +kernel) ⟨Nat.le_of_ble_eq_true rfl, Nat.le_of_ble_eq_true rfl⟩) w (q0 := 0) rfl rfl rfl [0, 1, 2, 3, 4, 5, 6, 7] rfl (by decide) [] rfl (by decide) (by decide) rfl hl.1 rfl (lv_room (Nat.le_of_ble_eq_true rfl)) dX2_relaxed_15 ⟨Nat.zero_le _, Nat.zero_le _⟩ (fun r W1 H locs hp w => ?_)
        obtain ⟨rfl, rfl⟩ := hp
        have w : zW D A s.heap s [(hp, .inr (2, [.ref hw, .ref hz, .ref hl0, .int (zI (S 0))])), (hw, .inl (D.2 0, 16, .inl (fC S 0))), (hz, .inl (D.2 5, 3, .inr (.inr (.inr (.inr (f3 h0 h1 h2)))))), (h0, .inl (D.2 0, 16, .inl (fC S 1))), (h1, .inl (D.2 0, 16, .inl (fC S 2))), (h2, .inl (D.2 0, 16, .inl (fC S 3))), (hl0, .inl (D.2 0, 3, .inl (fLm S))), (hm, .inl (D.2 0, 3, .inl (fMu M)))] H locs := w.sub [0, 1, 2, 3, 4, 5, 6, 7] (by decide) rfl
        have hpb := sPr_b hok hokm (i := i) (by omega)
        refine z_if_le (tgt := 27) hx hb (by omega) dX2_relaxed_18 (by decide) (fun c18 => ?_) (fun c18 => ?_)
        · skip
          refine z_iinc (lv' := [(3, .int (zI (((i : Nat) : Int) + 1))), (2, .int (zI (((sRelN S M i : Nat) : Int)))), (0, .ref hp), (1, .ref hm)]) hx hb dX2_relaxed_27 hl (k := 0) rfl (by decide) rfl (fun ls hl => ?_)
          refine lv_goto (tgt := 4) hx hb dX2_relaxed_30 (by decide) ?_
          exact ih_4 (i + 1) _ _ (by omega) (by omega) (by first | rfl | omega) (by simp only [sRelN]; first | rw [if_pos c18] | rw [if_neg (by omega)]) _ _ _ w (lv_sub hl [0, 1, 2, 3] rfl)
        · skip
          refine lv_iload_n hx hb dX2_relaxed_21 rfl (lv_at hl 1 rfl) ?_
          refine lv_iconst (v := zI 1) hx hb dX2_relaxed_22 rfl ?_
          refine lv_iload_n hx hb dX2_relaxed_23 rfl (lv_at hl 0 rfl) ?_
          refine z_ishl1 (b := i) hx hb (by omega) dX2_relaxed_24 ?_
          refine z_ior (a := sRelN S M i) (b := 2 ^ i) hx hb dX2_relaxed_25 ?_
          refine lv_istore_n (lv' := [(2, .int (zI ((((sRelN S M i) ||| (2 ^ i) : Nat) : Int)))), (3, .int (zI (((i : Nat) : Int)))), (0, .ref hp), (1, .ref hm)]) hx hb dX2_relaxed_26 rfl hl (by decide) rfl (fun ls hl => ?_)
          refine z_iinc (lv' := [(3, .int (zI (((i : Nat) : Int) + 1))), (2, .int (zI ((((sRelN S M i) ||| (2 ^ i) : Nat) : Int)))), (0, .ref hp), (1, .ref hm)]) hx hb dX2_relaxed_27 hl (k := 1) rfl (by decide) rfl (fun ls hl => ?_)
          refine lv_goto (tgt := 4) hx hb dX2_relaxed_30 (by decide) ?_
          exact ih_4 (i + 1) _ _ (by omega) (by omega) (by first | rfl | omega) (by simp only [sRelN]; first | rw [if_pos c18] | rw [if_neg (by omega)]) _ _ _ w (lv_sub hl [0, 1, 2, 3] rfl)
  exact lp_4 ((zn S - 0) + 1) 0 _ _ (by omega) (by omega) (by first | rfl | omega) (by first | rfl | omega) _ _ _ w (lv_sub hl [0, 1, 2, 3] rfl)
set_option maxHeartbeats 6000000 in
set_option maxRecDepth 100000 in
theorem c_X2_boundAt (l : Launch) (D : zD) (hp hw hz h0 h1 h2 hl0 hm : Nat) (S M : Nat → Int) (hok : OkP S) (hokm : OkM M) : zM l yX2_boundAt wsX2_boundAt (zR 1) zE0 D [.ref hp, .ref hm] (wPm D hp hw hz h0 h1 h2 hl0 hm S M) (zQl D (fun r W1 => r = zL (sBd S M) ∧ W1 = (wPm D hp hw hz h0 h1 h2 hl0 hm S M))) := by
  refine zM.of (cc := cX2_boundAt) (maxL := 5) (ret := (some .long)) (by decide) rfl (Nat.le_of_ble_eq_true rfl) ?_
  intro p e s m below meth c A hx hb hml hown hts hr hlocks hE hnm w ls hl
  have hown : s.vm.findClass RX2 = some m.cls := hown
  have hl : lv_has ls 5 [(0, .ref hp), (1, .ref hm)] := hl
  have f_23 : (Cond.fieldLink RX2 23 "RelaxedSteps$Packing" "items" "I").before _ s = true := hts _ (by decide +kernel)
  have f_20 : (Cond.fieldLink RX2 20 "RelaxedSteps$Packing" "limits" "[I").before _ s = true := hts _ (by decide +kernel)
  have mm_63_l : (Cond.methodLink RX2 63 Lib.Math.max.name).before _ s = true := hts _ (by decide +kernel)
  have mm_63_s : (Cond.static Lib.Math.max.name).before _ s = true := hts _ (by decide +kernel)
  have mm_63_c : (Cond.code Lib.Math.max.name Lib.Math.max.code 2 (some .int)).before _ s = true := hts _ (by decide +kernel)
  have mm_63_i : (Cond.initialized "java/lang/Math").before _ s = true := hts _ (by decide +kernel)
  have inX2 : ∀ w ∈ u_ws RX2 TX2 4, w ∈ wsX2_boundAt := by decide +kernel
  have hn := zn_eq hok
  have h16 := zn_le hok
  have hlim := hok.2.2
  have hokp := hok
  have hokm1 := hokm
  unfold OkM at hokm1
  have w : zW D A s.heap s [(hp, .inr (2, [.ref hw, .ref hz, .ref hl0, .int (zI (S 0))])), (hw, .inl (D.2 0, 16, .inl (fC S 0))), (hz, .inl (D.2 5, 3, .inr (.inr (.inr (.inr (f3 h0 h1 h2)))))), (h0, .inl (D.2 0, 16, .inl (fC S 1))), (h1, .inl (D.2 0, 16, .inl (fC S 2))), (h2, .inl (D.2 0, 16, .inl (fC S 3))), (hl0, .inl (D.2 0, 3, .inl (fLm S))), (hm, .inl (D.2 0, 3, .inl (fMu M)))] s.heap [] := w
  refine lv_lconst (v := zL 0) hx hb dX2_boundAt_0 rfl ?_
  refine lv_lstore_n (lv' := [(2, .long (zL (0))), (0, .ref hp), (1, .ref hm)]) hx hb dX2_boundAt_1 rfl hl (by decide) rfl (fun ls hl => ?_)
  refine lv_iconst (v := zI 0) hx hb dX2_boundAt_2 rfl ?_
  refine lv_istore (lv' := [(4, .int (zI (0))), (2, .long (zL (0))), (0, .ref hp), (1, .ref hm)]) hx hb dX2_boundAt_3 hl (by decide) rfl (fun ls hl => ?_)
  have lp_5 : ∀ (n_5 : Nat) (i : Nat) (x4 : Int) (x2 : Int) , zn S - i < n_5 → (i ≤ zn S) → x4 = ((i : Nat) : Int) → x2 = sSum i (fun i => max 0 (sPr S M i)) → ∀ (H : Heap) (locs : List Loc) (ls : Array Slot), zW D A s.heap s [(hp, .inr (2, [.ref hw, .ref hz, .ref hl0, .int (zI (S 0))])), (hw, .inl (D.2 0, 16, .inl (fC S 0))), (hz, .inl (D.2 5, 3, .inr (.inr (.inr (.inr (f3 h0 h1 h2)))))), (h0, .inl (D.2 0, 16, .inl (fC S 1))), (h1, .inl (D.2 0, 16, .inl (fC S 2))), (h2, .inl (D.2 0, 16, .inl (fC S 3))), (hl0, .inl (D.2 0, 3, .inl (fLm S))), (hm, .inl (D.2 0, 3, .inl (fMu M)))] H locs → lv_has ls 5 [(4, .int (zI (x4))), (2, .long (zL (x2))), (0, .ref hp), (1, .ref hm)] → W p l e (zR 1) s m [.ref hp, .ref hm].toArray below meth c H locs 0 0 (MQ below ((zQl D (fun r W1 => r = zL (sBd S M) ∧ W1 = (wPm D hp hw hz h0 h1 h2 hl0 hm S M))) A) [.ref hp, .ref hm].toArray s 0 0 A) (F0 m 5 ls []) := by
    intro n_5
    induction n_5 with
    | zero => intro i x4 x2 h_; exact absurd h_ (Nat.not_lt_zero _)
    | succ n_5 ih_5 =>
      intro i x4 x2 hf_5 hi ex4 ex2 H locs ls w hl
      subst ex4
      subst ex2
      have hl : lv_has ls 5 [(4, .int (zI (((i : Nat) : Int)))), (2, .long (zL (sSum i (fun i => max 0 (sPr S M i))))), (0, .ref hp), (1, .ref hm)] := hl
      refine lv_iload hx hb dX2_boundAt_5 (lv_at hl 0 rfl) ?_
      refine lv_aload_n hx hb dX2_boundAt_7 rfl (lv_at hl 2 rfl) ?_
      refine z_get hx hb hown hts w inX2 0 3 rfl rfl (by decide) f_23 rfl rfl dX2_boundAt_8 ?_
      refine z_icmp_ge (tgt := 35) hx hb (by omega) (by omega) dX2_boundAt_11 (by decide) (fun c11 => ?_) (fun c11 => ?_)
      · skip
        refine lv_iconst (v := zI 0) hx hb dX2_boundAt_35 rfl ?_
        refine lv_istore (lv' := [(4, .int (zI (0))), (2, .long (zL (sSum i (fun i => max 0 (sPr S M i))))), (0, .ref hp), (1, .ref hm)]) hx hb dX2_boundAt_36 hl (by decide) rfl (fun ls hl => ?_)
        refine lv_iload hx hb dX2_boundAt_38 (lv_at hl 0 rfl) ?_
        refine lv_iconst (v := zI 3) hx hb dX2_boundAt_40 rfl ?_
        refine z_icmp_ge (tgt := 67) hx hb (by omega) (by omega) dX2_boundAt_41 (by decide) (fun c41 => ?_) (fun c41 => ?_)
        · skip
          exact absurd c41 (by omega)
        · skip
          refine lv_lload_n hx hb dX2_boundAt_44 rfl (lv_at hl 1 rfl) ?_
          refine lv_aload_n hx hb dX2_boundAt_45 rfl (lv_at hl 3 rfl) ?_
          refine lv_iload hx hb dX2_boundAt_46 (lv_at hl 0 rfl) ?_
          refine z_iald hx hb w 7 rfl 0 (by omega) (by decide) rfl (v := (zI (M 0))) (if_pos (by omega)) dX2_boundAt_48 ?_
          refine z_i2l hx hb (by omega) dX2_boundAt_49 ?_
          refine lv_aload_n hx hb dX2_boundAt_50 rfl (lv_at hl 2 rfl) ?_
          refine z_get hx hb hown hts w inX2 0 2 rfl rfl (by decide) f_20 rfl rfl dX2_boundAt_51 ?_
          refine lv_iload hx hb dX2_boundAt_54 (lv_at hl 0 rfl) ?_
          refine z_iald hx hb w 6 rfl 0 (by omega) (by decide) rfl (v := (zI (S 65))) (if_pos (by omega)) dX2_boundAt_56 ?_
          refine z_i2l hx hb (by omega) dX2_boundAt_57 ?_
          refine z_lmul hx hb dX2_boundAt_58 ?_
          refine z_ladd hx hb dX2_boundAt_59 ?_
          refine lv_lstore_n (lv' := [(2, .long (zL ((sSum i (fun i => max 0 (sPr S M i))) + ((M 0) * (S 65))))), (4, .int (zI (0))), (0, .ref hp), (1, .ref hm)]) hx hb dX2_boundAt_60 rfl hl (by decide) rfl (fun ls hl => ?_)
          refine z_iinc (lv' := [(4, .int (zI (0 + 1))), (2, .long (zL ((sSum i (fun i => max 0 (sPr S M i))) + ((M 0) * (S 65))))), (0, .ref hp), (1, .ref hm)]) hx hb dX2_boundAt_61 hl (k := 1) rfl (by decide) rfl (fun ls hl => ?_)
          have hl : lv_has ls 5 [(4, .int (zI (1))), (2, .long (zL ((sSum i (fun i => max 0 (sPr S M i))) + ((M 0) * (S 65))))), (0, .ref hp), (1, .ref hm)] := hl
          refine lv_goto (tgt := 38) hx hb dX2_boundAt_64 (by decide) ?_
          refine lv_iload hx hb dX2_boundAt_38 (lv_at hl 0 rfl) ?_
          refine lv_iconst (v := zI 3) hx hb dX2_boundAt_40 rfl ?_
          refine z_icmp_ge (tgt := 67) hx hb (by omega) (by omega) dX2_boundAt_41 (by decide) (fun c41 => ?_) (fun c41 => ?_)
          · skip
            exact absurd c41 (by omega)
          · skip
            refine lv_lload_n hx hb dX2_boundAt_44 rfl (lv_at hl 1 rfl) ?_
            refine lv_aload_n hx hb dX2_boundAt_45 rfl (lv_at hl 3 rfl) ?_
            refine lv_iload hx hb dX2_boundAt_46 (lv_at hl 0 rfl) ?_
            refine z_iald hx hb w 7 rfl 1 (by omega) (by decide) rfl (v := (zI (M 1))) (if_pos (by omega)) dX2_boundAt_48 ?_
            refine z_i2l hx hb (by omega) dX2_boundAt_49 ?_
            refine lv_aload_n hx hb dX2_boundAt_50 rfl (lv_at hl 2 rfl) ?_
            refine z_get hx hb hown hts w inX2 0 2 rfl rfl (by decide) f_20 rfl rfl dX2_boundAt_51 ?_
            refine lv_iload hx hb dX2_boundAt_54 (lv_at hl 0 rfl) ?_
            refine z_iald hx hb w 6 rfl 1 (by omega) (by decide) rfl (v := (zI (S 66))) (if_pos (by omega)) dX2_boundAt_56 ?_
            refine z_i2l hx hb (by omega) dX2_boundAt_57 ?_
            refine z_lmul hx hb dX2_boundAt_58 ?_
            refine z_ladd hx hb dX2_boundAt_59 ?_
            refine lv_lstore_n (lv' := [(2, .long (zL (((sSum i (fun i => max 0 (sPr S M i))) + ((M 0) * (S 65))) + ((M 1) * (S 66))))), (4, .int (zI (1))), (0, .ref hp), (1, .ref hm)]) hx hb dX2_boundAt_60 rfl hl (by decide) rfl (fun ls hl => ?_)
            refine z_iinc (lv' := [(4, .int (zI (1 + 1))), (2, .long (zL (((sSum i (fun i => max 0 (sPr S M i))) + ((M 0) * (S 65))) + ((M 1) * (S 66))))), (0, .ref hp), (1, .ref hm)]) hx hb dX2_boundAt_61 hl (k := 1) rfl (by decide) rfl (fun ls hl => ?_)
            have hl : lv_has ls 5 [(4, .int (zI (2))), (2, .long (zL (((sSum i (fun i => max 0 (sPr S M i))) + ((M 0) * (S 65))) + ((M 1) * (S 66))))), (0, .ref hp), (1, .ref hm)] := hl
            refine lv_goto (tgt := 38) hx hb dX2_boundAt_64 (by decide) ?_
            refine lv_iload hx hb dX2_boundAt_38 (lv_at hl 0 rfl) ?_
            refine lv_iconst (v := zI 3) hx hb dX2_boundAt_40 rfl ?_
            refine z_icmp_ge (tgt := 67) hx hb (by omega) (by omega) dX2_boundAt_41 (by decide) (fun c41 => ?_) (fun c41 => ?_)
            · skip
              exact absurd c41 (by omega)
            · skip
              refine lv_lload_n hx hb dX2_boundAt_44 rfl (lv_at hl 1 rfl) ?_
              refine lv_aload_n hx hb dX2_boundAt_45 rfl (lv_at hl 3 rfl) ?_
              refine lv_iload hx hb dX2_boundAt_46 (lv_at hl 0 rfl) ?_
              refine z_iald hx hb w 7 rfl 2 (by omega) (by decide) rfl (v := (zI (M 2))) (if_pos (by omega)) dX2_boundAt_48 ?_
              refine z_i2l hx hb (by omega) dX2_boundAt_49 ?_
              refine lv_aload_n hx hb dX2_boundAt_50 rfl (lv_at hl 2 rfl) ?_
              refine z_get hx hb hown hts w inX2 0 2 rfl rfl (by decide) f_20 rfl rfl dX2_boundAt_51 ?_
              refine lv_iload hx hb dX2_boundAt_54 (lv_at hl 0 rfl) ?_
              refine z_iald hx hb w 6 rfl 2 (by omega) (by decide) rfl (v := (zI (S 67))) (if_pos (by omega)) dX2_boundAt_56 ?_
              refine z_i2l hx hb (by omega) dX2_boundAt_57 ?_
              refine z_lmul hx hb dX2_boundAt_58 ?_
              refine z_ladd hx hb dX2_boundAt_59 ?_
              refine lv_lstore_n (lv' := [(2, .long (zL ((((sSum i (fun i => max 0 (sPr S M i))) + ((M 0) * (S 65))) + ((M 1) * (S 66))) + ((M 2) * (S 67))))), (4, .int (zI (2))), (0, .ref hp), (1, .ref hm)]) hx hb dX2_boundAt_60 rfl hl (by decide) rfl (fun ls hl => ?_)
              refine z_iinc (lv' := [(4, .int (zI (2 + 1))), (2, .long (zL ((((sSum i (fun i => max 0 (sPr S M i))) + ((M 0) * (S 65))) + ((M 1) * (S 66))) + ((M 2) * (S 67))))), (0, .ref hp), (1, .ref hm)]) hx hb dX2_boundAt_61 hl (k := 1) rfl (by decide) rfl (fun ls hl => ?_)
              have hl : lv_has ls 5 [(4, .int (zI (3))), (2, .long (zL ((((sSum i (fun i => max 0 (sPr S M i))) + ((M 0) * (S 65))) + ((M 1) * (S 66))) + ((M 2) * (S 67))))), (0, .ref hp), (1, .ref hm)] := hl
              refine lv_goto (tgt := 38) hx hb dX2_boundAt_64 (by decide) ?_
              refine lv_iload hx hb dX2_boundAt_38 (lv_at hl 0 rfl) ?_
              refine lv_iconst (v := zI 3) hx hb dX2_boundAt_40 rfl ?_
              refine z_icmp_ge (tgt := 67) hx hb (by omega) (by omega) dX2_boundAt_41 (by decide) (fun c41 => ?_) (fun c41 => ?_)
              · skip
                refine lv_lload_n hx hb dX2_boundAt_67 rfl (lv_at hl 1 rfl) ?_
                exact z_lret hx hb hr hlocks w dX2_boundAt_68 ⟨by have e9 : i = zn S := (by omega); subst e9; rfl, rfl⟩
              · skip
                exact absurd c41 (by omega)
      · skip
        refine lv_lload_n hx hb dX2_boundAt_14 rfl (lv_at hl 1 rfl) ?_
        refine lv_iconst (v := zI 0) hx hb dX2_boundAt_15 rfl ?_
        refine lv_aload_n hx hb dX2_boundAt_16 rfl (lv_at hl 2 rfl) ?_
        refine lv_iload hx hb dX2_boundAt_17 (lv_at hl 0 rfl) ?_
        refine lv_aload_n hx hb dX2_boundAt_19 rfl (lv_at hl 3 rfl) ?_
        refine z_V_i (As := [.int (zI (((i : Nat) : Int))), .ref hm]) (rest := [.int (zI (0)), .long (zL (sSum i (fun i => max 0 (sPr S M i))))]) (Wr := []) ⟨hx, hb, hml, hown, hts⟩ (c_X2_price l D hp hw hz h0 h1 h2 hl0 hm S M hokp i (by omega)) (cwV 2 hts gX2_boundAt_X2_price rfl rfl rfl (by decide +kernel) ⟨Nat.le_of_ble_eq_true rfl, Nat.le_of_ble_eq_true rfl⟩) w (q0 := 0) rfl rfl rfl [0, 1, 2, 3, 4, 5, 6, 7] rfl (by decide) [] rfl (by decide) (by decide) rfl hl.1 rfl (lv_room (Nat.le_of_ble_eq_true rfl)) dX2_boundAt_20 ⟨Nat.zero_le _, Nat.zero_le _⟩ (fun r W1 H locs hp w => ?_)
        obtain ⟨rfl, rfl⟩ := hp
        have w : zW D A s.heap s [(hp, .inr (2, [.ref hw, .ref hz, .ref hl0, .int (zI (S 0))])), (hw, .inl (D.2 0, 16, .inl (fC S 0))), (hz, .inl (D.2 5, 3, .inr (.inr (.inr (.inr (f3 h0 h1 h2)))))), (h0, .inl (D.2 0, 16, .inl (fC S 1))), (h1, .inl (D.2 0, 16, .inl (fC S 2))), (h2, .inl (D.2 0, 16, .inl (fC S 3))), (hl0, .inl (D.2 0, 3, .inl (fLm S))), (hm, .inl (D.2 0, 3, .inl (fMu M)))] H locs := w.sub [0, 1, 2, 3, 4, 5, 6, 7] (by decide) rfl
        have hpb := sPr_b hok hokm (i := i) (by omega)
        refine z_max hx hb (by rw [hml]; exact hl.1.symm) hown mm_63_l mm_63_s mm_63_i mm_63_c (Nat.le_of_ble_eq_true rfl) (Nat.le_of_ble_eq_true rfl) (Nat.zero_le _) (Nat.zero_le _) (by omega) (by omega) dX2_boundAt_23 ?_
        refine z_i2l hx hb (by omega) dX2_boundAt_26 ?_
        refine z_ladd hx hb dX2_boundAt_27 ?_
        refine lv_lstore_n (lv' := [(2, .long (zL ((sSum i (fun i => max 0 (sPr S M i))) + (max 0 (sPr S M i))))), (4, .int (zI (((i : Nat) : Int)))), (0, .ref hp), (1, .ref hm)]) hx hb dX2_boundAt_28 rfl hl (by decide) rfl (fun ls hl => ?_)
        refine z_iinc (lv' := [(4, .int (zI (((i : Nat) : Int) + 1))), (2, .long (zL ((sSum i (fun i => max 0 (sPr S M i))) + (max 0 (sPr S M i))))), (0, .ref hp), (1, .ref hm)]) hx hb dX2_boundAt_29 hl (k := 1) rfl (by decide) rfl (fun ls hl => ?_)
        refine lv_goto (tgt := 5) hx hb dX2_boundAt_32 (by decide) ?_
        exact ih_5 (i + 1) _ _ (by omega) (by omega) (by first | rfl | omega) (by first | rfl | omega) _ _ _ w (lv_sub hl [0, 1, 2, 3] rfl)
  exact lp_5 ((zn S - 0) + 1) 0 _ _ (by omega) (by omega) (by first | rfl | omega) (by first | rfl | omega) _ _ _ w (lv_sub hl [0, 1, 2, 3] rfl)
