set_option maxHeartbeats 6000000 in
set_option maxRecDepth 100000 in
theorem c_X6_codeAt (l : Launch) (D : zD) (x : Int64) (k : Nat) (hk : k < 8) : zM l yX6_codeAt wsX6_codeAt (zR (0)) zE0 D [.long (x), .int (zI (((k : Nat) : Int)))] [] (zQi D (fun r W1 => r = zI ((by8 x k : Nat) : Int) ∧ W1 = [])) := by
  refine zM.of (cc := cX6_codeAt) (maxL := 3) (ret := (some .int)) (by decide) rfl (Nat.le_of_ble_eq_true rfl) ?_
  intro p e s m below meth c A hx hb hml hown hts hr hlocks hE hnm w ls hl
  have hown : s.vm.findClass RX6 = some m.cls := hown
  have hl : lv_has ls 3 [(0, .long (x)), (2, .int (zI (((k : Nat) : Int))))] := hl
  refine lv_lload_n hx hb dX6_codeAt_0 rfl (lv_at hl 0 rfl) ?_
  refine lv_bipush (v := zI 8) hx hb dX6_codeAt_1 (by decide +kernel) ?_
  refine lv_iload_n hx hb dX6_codeAt_3 rfl (lv_at hl 1 rfl) ?_
  refine z_imul hx hb dX6_codeAt_4 ?_
  refine lv_lushr hx hb dX6_codeAt_5 rfl ?_
  refine lv_l2i hx hb dX6_codeAt_6 rfl ?_
  refine lv_sipush (v := zI 255) hx hb dX6_codeAt_7 (by decide +kernel) ?_
  refine lv_iand hx hb dX6_codeAt_10 ?_
  refine W.eq (g2 := F0 m 11 ls [.int (zI ((by8 x k : Nat) : Int))]) (by rw [cd_eq x k hk]) ?_
  exact z_iret hx hb hr hlocks w dX6_codeAt_11 ⟨rfl, rfl⟩
set_option maxHeartbeats 6000000 in
set_option maxRecDepth 100000 in
theorem c_X7_byteOf (l : Launch) (D : zD) (x : Int64) (k : Nat) (hk : k < 8) : zM l yX7_byteOf wsX7_byteOf (zR (0)) zE0 D [.long (x), .int (zI (((k : Nat) : Int)))] [] (zQi D (fun r W1 => r = zI ((by8 x k : Nat) : Int) ∧ W1 = [])) := by
  refine zM.of (cc := cX7_byteOf) (maxL := 3) (ret := (some .int)) (by decide) rfl (Nat.le_of_ble_eq_true rfl) ?_
  intro p e s m below meth c A hx hb hml hown hts hr hlocks hE hnm w ls hl
  have hown : s.vm.findClass RX7 = some m.cls := hown
  have hl : lv_has ls 3 [(0, .long (x)), (2, .int (zI (((k : Nat) : Int))))] := hl
  refine lv_lload_n hx hb dX7_byteOf_0 rfl (lv_at hl 0 rfl) ?_
  refine lv_bipush (v := zI 8) hx hb dX7_byteOf_1 (by decide +kernel) ?_
  refine lv_iload_n hx hb dX7_byteOf_3 rfl (lv_at hl 1 rfl) ?_
  refine z_imul hx hb dX7_byteOf_4 ?_
  refine lv_lshr hx hb dX7_byteOf_5 rfl ?_
  refine lv_ldc2 (v := zL 255) hx hb hown (hts (.constantLong RX7 166 (zL 255)) (by decide +kernel)) dX7_byteOf_6 ?_
  refine lv_land hx hb dX7_byteOf_9 ?_
  refine lv_l2i hx hb dX7_byteOf_10 rfl ?_
  refine W.eq (g2 := F0 m 11 ls [.int (zI ((by8 x k : Nat) : Int))]) (by rw [bo_eq x k hk]) ?_
  exact z_iret hx hb hr hlocks w dX7_byteOf_11 ⟨rfl, rfl⟩
set_option maxHeartbeats 6000000 in
set_option maxRecDepth 100000 in
theorem c_X6_charactersIn (l : Launch) (D : zD) (x : Int64) : zM l yX6_charactersIn wsX6_charactersIn (zR (1)) zE0 D [.long (x)] [] (zQi D (fun r W1 => r = zI ((pCh x : Nat) : Int) ∧ W1 = [])) := by
  refine zM.of (cc := cX6_charactersIn) (maxL := 4) (ret := (some .int)) (by decide) rfl (Nat.le_of_ble_eq_true rfl) ?_
  intro p e s m below meth c A hx hb hml hown hts hr hlocks hE hnm w ls hl
  have hown : s.vm.findClass RX6 = some m.cls := hown
  have hl : lv_has ls 4 [(0, .long (x))] := hl
  refine lv_iconst (v := zI 0) hx hb dX6_charactersIn_0 rfl ?_
  refine lv_istore_n (lv' := [(2, .int (zI (0))), (0, .long (x))]) hx hb dX6_charactersIn_1 rfl hl (by decide) rfl (fun ls hl => ?_)
  have lp_2 : ∀ (n_2 : Nat) (k : Nat) (x2 : Int) , 8 - k < n_2 → (k ≤ 8) → (∀ j, j < k → 33 ≤ by8 x j ∧ by8 x j ≤ 126) → x2 = ((k : Nat) : Int) → ∀ (H : Heap) (locs : List Loc) (ls : Array Slot), zW D A s.heap s [] H locs → lv_has ls 4 [(2, .int (zI (x2))), (0, .long (x))] → W p l e (zR (1)) s m [.long (x)].toArray below meth c H locs 0 0 (MQ below ((zQi D (fun r W1 => r = zI ((pCh x : Nat) : Int) ∧ W1 = [])) A) [.long (x)].toArray s 0 0 A) (F0 m 2 ls []) := by
    intro n_2
    induction n_2 with
    | zero => intro k x2 h_; exact absurd h_ (Nat.not_lt_zero _)
    | succ n_2 ih_2 =>
      intro k x2 hf_2 hk hin ex2 H locs ls w hl
      subst ex2
      have hl : lv_has ls 4 [(2, .int (zI (((k : Nat) : Int)))), (0, .long (x))] := hl
      refine lv_iload_n hx hb dX6_charactersIn_2 rfl (lv_at hl 0 rfl) ?_
      refine lv_bipush (v := zI 8) hx hb dX6_charactersIn_3 (by decide +kernel) ?_
      refine z_icmp_ge (tgt := 29) hx hb (by omega) (by omega) dX6_charactersIn_5 (by decide) (fun c5 => ?_) (fun c5 => ?_)
      · skip
        refine lv_iload_n hx hb dX6_charactersIn_29 rfl (lv_at hl 0 rfl) ?_
        refine lv_bipush (v := zI 8) hx hb dX6_charactersIn_30 (by decide +kernel) ?_
        refine z_icmp_eq (tgt := 46) hx hb (by omega) (by omega) dX6_charactersIn_32 (by decide) (fun c32 => ?_) (fun c32 => ?_)
        · skip
          refine lv_iconst (v := zI 1) hx hb dX6_charactersIn_46 rfl ?_
          refine lv_goto (tgt := 51) hx hb dX6_charactersIn_47 (by decide) ?_
          refine lv_istore_n (lv' := [(3, .int (zI (1))), (2, .int (zI (((k : Nat) : Int)))), (0, .long (x))]) hx hb dX6_charactersIn_51 rfl hl (by decide) rfl (fun ls hl => ?_)
          refine lv_iload_n hx hb dX6_charactersIn_52 rfl (lv_at hl 0 rfl) ?_
          refine z_if_eq (tgt := 60) hx hb (by omega) dX6_charactersIn_53 (by decide) (fun c53 => ?_) (fun c53 => ?_)
          · skip
            exact absurd c53 (by omega)
          · skip
            refine lv_iload_n hx hb dX6_charactersIn_56 rfl (lv_at hl 1 rfl) ?_
            refine lv_goto (tgt := 61) hx hb dX6_charactersIn_57 (by decide) ?_
            exact z_iret hx hb hr hlocks w dX6_charactersIn_61 ⟨by rw [ch_5 hk hin (fun i h1 h2 => absurd h2 (by omega))], rfl⟩
        · skip
          exact absurd c32 (by omega)
      · skip
        refine lv_lload_n hx hb dX6_charactersIn_8 rfl (lv_at hl 1 rfl) ?_
        refine lv_iload_n hx hb dX6_charactersIn_9 rfl (lv_at hl 0 rfl) ?_
        refine z_S_i (As := [.long (x), .int (zI (((k : Nat) : Int)))]) (rest := []) (Wr := []) ⟨hx, hb, hml, hown, hts⟩ (c_X6_codeAt l D x k (by omega)) (va_cwS 2 hts gX6_charactersIn_X6_codeAt rfl rfl rfl (by decide +kernel) ⟨Nat.le_of_ble_eq_true rfl, Nat.le_of_ble_eq_true rfl⟩) w [] rfl (by decide) [] rfl (by decide) (by decide) rfl hl.1 rfl (lv_room (Nat.le_of_ble_eq_true rfl)) dX6_charactersIn_10 ⟨Nat.zero_le _, Nat.zero_le _⟩ (fun r W1 H locs hp w => ?_)
        obtain ⟨rfl, rfl⟩ := hp
        have hb8 := by8_lt x k
        refine lv_bipush (v := zI 33) hx hb dX6_charactersIn_13 (by decide +kernel) ?_
        refine lv_bipush (v := zI 126) hx hb dX6_charactersIn_15 (by decide +kernel) ?_
        refine z_S_i (As := [.int (zI (((by8 x k : Nat) : Int))), .int (zI (33)), .int (zI (126))]) (rest := []) (Wr := []) ⟨hx, hb, hml, hown, hts⟩ (c_X6_within l D ((by8 x k : Nat) : Int) 33 126 (by omega) (by omega) (by omega)) (va_cwS 3 hts gX6_charactersIn_X6_within rfl rfl rfl (by decide +kernel) ⟨Nat.le_of_ble_eq_true rfl, Nat.le_of_ble_eq_true rfl⟩) w [] rfl (by decide) [] rfl (by decide) (by decide) rfl hl.1 rfl (lv_room (Nat.le_of_ble_eq_true rfl)) dX6_charactersIn_17 ⟨Nat.zero_le _, Nat.zero_le _⟩ (fun r W1 H locs hp w => ?_)
        obtain ⟨rfl, rfl⟩ := hp
        refine z_if_eq_b (tgt := 29) hx hb dX6_charactersIn_20 (by decide) (fun c20 => ?_) (fun c20 => ?_)
        · skip
          refine lv_iload_n hx hb dX6_charactersIn_29 rfl (lv_at hl 0 rfl) ?_
          refine lv_bipush (v := zI 8) hx hb dX6_charactersIn_30 (by decide +kernel) ?_
          refine z_icmp_eq (tgt := 46) hx hb (by omega) (by omega) dX6_charactersIn_32 (by decide) (fun c32 => ?_) (fun c32 => ?_)
          · skip
            exact absurd c32 (by omega)
          · skip
            refine lv_lload_n hx hb dX6_charactersIn_35 rfl (lv_at hl 1 rfl) ?_
            refine lv_bipush (v := zI 8) hx hb dX6_charactersIn_36 (by decide +kernel) ?_
            refine lv_iload_n hx hb dX6_charactersIn_38 rfl (lv_at hl 0 rfl) ?_
            refine z_imul hx hb dX6_charactersIn_39 ?_
            refine lv_lushr hx hb dX6_charactersIn_40 rfl ?_
            refine lv_lconst (v := zL 0) hx hb dX6_charactersIn_41 rfl ?_
            refine W.lcmp hx hb dX6_charactersIn_42 ?_
            refine lv_if_ne (tgt := 50) hx hb dX6_charactersIn_43 (by decide) (fun hq => ?_) (fun hq => ?_)
            · skip
              have hup : ¬ (x.toUInt64 >>> ((zI (8 * ((k : Nat) : Int))).toInt64.toUInt64 &&& Int64.toUInt64 63)).toInt64 = zL 0 := fun q => hq (lg_ne.1.mpr q)
              refine lv_iconst (v := zI 0) hx hb dX6_charactersIn_50 rfl ?_
              refine lv_istore_n (lv' := [(3, .int (zI (0))), (2, .int (zI (((k : Nat) : Int)))), (0, .long (x))]) hx hb dX6_charactersIn_51 rfl hl (by decide) rfl (fun ls hl => ?_)
              refine lv_iload_n hx hb dX6_charactersIn_52 rfl (lv_at hl 0 rfl) ?_
              refine z_if_eq (tgt := 60) hx hb (by omega) dX6_charactersIn_53 (by decide) (fun c53 => ?_) (fun c53 => ?_)
              · skip
                refine lv_iconst (v := zI 0) hx hb dX6_charactersIn_60 rfl ?_
                exact z_iret hx hb hr hlocks w dX6_charactersIn_61 ⟨by rw [ch_3 (by omega) (by omega) (fun q => hup ((up_eq x k (by omega)).mpr q))]; rfl, rfl⟩
              · skip
                exact absurd c53 (by omega)
            · skip
              have hup : (x.toUInt64 >>> ((zI (8 * ((k : Nat) : Int))).toInt64.toUInt64 &&& Int64.toUInt64 63)).toInt64 = zL 0 := lg_ne.1.mp hq
              refine lv_iconst (v := zI 1) hx hb dX6_charactersIn_46 rfl ?_
              refine lv_goto (tgt := 51) hx hb dX6_charactersIn_47 (by decide) ?_
              refine lv_istore_n (lv' := [(3, .int (zI (1))), (2, .int (zI (((k : Nat) : Int)))), (0, .long (x))]) hx hb dX6_charactersIn_51 rfl hl (by decide) rfl (fun ls hl => ?_)
              refine lv_iload_n hx hb dX6_charactersIn_52 rfl (lv_at hl 0 rfl) ?_
              refine z_if_eq (tgt := 60) hx hb (by omega) dX6_charactersIn_53 (by decide) (fun c53 => ?_) (fun c53 => ?_)
              · skip
                exact absurd c53 (by omega)
              · skip
                refine lv_iload_n hx hb dX6_charactersIn_56 rfl (lv_at hl 1 rfl) ?_
                refine lv_goto (tgt := 61) hx hb dX6_charactersIn_57 (by decide) ?_
                exact z_iret hx hb hr hlocks w dX6_charactersIn_61 ⟨by rw [ch_5 hk hin ((up_eq x k (by omega)).mp hup)], rfl⟩
        · skip
          refine z_iinc (lv' := [(2, .int (zI (((k : Nat) : Int) + 1))), (0, .long (x))]) hx hb dX6_charactersIn_23 hl (k := 0) rfl (by decide) rfl (fun ls hl => ?_)
          refine lv_goto (tgt := 2) hx hb dX6_charactersIn_26 (by decide) ?_
          exact ih_2 (k + 1) _ (by omega) (by omega) (fun j hj => by by_cases e9 : j = k; exact e9 ▸ (show 33 ≤ by8 x k ∧ by8 x k ≤ 126 by omega); exact hin j (by omega)) (by first | rfl | omega) _ _ _ w (lv_sub hl [0, 1] rfl)
  exact lp_2 ((8 - 0) + 1) 0 _ (by omega) (by omega) (fun j hj => absurd hj (Nat.not_lt_zero _)) (by first | rfl | omega) _ _ _ w (lv_sub hl [0, 1] rfl)
set_option maxHeartbeats 6000000 in
set_option maxRecDepth 100000 in
theorem c_X7_toldBy (l : Launch) (D : zD) (x : Int64) : zM l yX7_toldBy wsX7_toldBy (zR (1)) zE0 D [.long (x)] [] (zQi D (fun r W1 => r = zI (if pCh x = 0 then -2 else ((pCh x : Nat) : Int)) ∧ W1 = [])) := by
  refine zM.of (cc := cX7_toldBy) (maxL := 4) (ret := (some .int)) (by decide) rfl (Nat.le_of_ble_eq_true rfl) ?_
  intro p e s m below meth c A hx hb hml hown hts hr hlocks hE hnm w ls hl
  have hown : s.vm.findClass RX7 = some m.cls := hown
  have hl : lv_has ls 4 [(0, .long (x))] := hl
  refine lv_iconst (v := zI 0) hx hb dX7_toldBy_0 rfl ?_
  refine lv_istore_n (lv' := [(2, .int (zI (0))), (0, .long (x))]) hx hb dX7_toldBy_1 rfl hl (by decide) rfl (fun ls hl => ?_)
  have lp_2 : ∀ (n_2 : Nat) (k : Nat) (x2 : Int) , 8 - k < n_2 → (k ≤ 8) → (∀ j, j < k → 33 ≤ by8 x j ∧ by8 x j ≤ 126) → x2 = ((k : Nat) : Int) → ∀ (H : Heap) (locs : List Loc) (ls : Array Slot), zW D A s.heap s [] H locs → lv_has ls 4 [(2, .int (zI (x2))), (0, .long (x))] → W p l e (zR (1)) s m [.long (x)].toArray below meth c H locs 0 0 (MQ below ((zQi D (fun r W1 => r = zI (if pCh x = 0 then -2 else ((pCh x : Nat) : Int)) ∧ W1 = [])) A) [.long (x)].toArray s 0 0 A) (F0 m 2 ls []) := by
    intro n_2
    induction n_2 with
    | zero => intro k x2 h_; exact absurd h_ (Nat.not_lt_zero _)
    | succ n_2 ih_2 =>
      intro k x2 hf_2 hk hin ex2 H locs ls w hl
      subst ex2
      have hl : lv_has ls 4 [(2, .int (zI (((k : Nat) : Int)))), (0, .long (x))] := hl
      refine lv_iload_n hx hb dX7_toldBy_2 rfl (lv_at hl 0 rfl) ?_
      refine lv_bipush (v := zI 8) hx hb dX7_toldBy_3 (by decide +kernel) ?_
      refine z_icmp_ge (tgt := 40) hx hb (by omega) (by omega) dX7_toldBy_5 (by decide) (fun c5 => ?_) (fun c5 => ?_)
      · skip
        refine lv_iload_n hx hb dX7_toldBy_40 rfl (lv_at hl 0 rfl) ?_
        refine lv_istore_n (lv' := [(3, .int (zI (((k : Nat) : Int)))), (2, .int (zI (((k : Nat) : Int)))), (0, .long (x))]) hx hb dX7_toldBy_41 rfl hl (by decide) rfl (fun ls hl => ?_)
        have lp_42 : ∀ (n_42 : Nat) (j : Nat) (x3 : Int) , 8 - j < n_42 → (k ≤ j ∧ j ≤ 8) → (∀ i, k ≤ i → i < j → by8 x i = 0) → x3 = ((j : Nat) : Int) → ∀ (H : Heap) (locs : List Loc) (ls : Array Slot), zW D A s.heap s [] H locs → lv_has ls 4 [(3, .int (zI (x3))), (2, .int (zI (((k : Nat) : Int)))), (0, .long (x))] → W p l e (zR (1)) s m [.long (x)].toArray below meth c H locs 0 0 (MQ below ((zQi D (fun r W1 => r = zI (if pCh x = 0 then -2 else ((pCh x : Nat) : Int)) ∧ W1 = [])) A) [.long (x)].toArray s 0 0 A) (F0 m 42 ls []) := by
          intro n_42
          induction n_42 with
          | zero => intro j x3 h_; exact absurd h_ (Nat.not_lt_zero _)
          | succ n_42 ih_42 =>
            intro j x3 hf_42 hj hz ex3 H locs ls w hl
            subst ex3
            have hl : lv_has ls 4 [(3, .int (zI (((j : Nat) : Int)))), (2, .int (zI (((k : Nat) : Int)))), (0, .long (x))] := hl
            refine lv_iload_n hx hb dX7_toldBy_42 rfl (lv_at hl 0 rfl) ?_
            refine lv_bipush (v := zI 8) hx hb dX7_toldBy_43 (by decide +kernel) ?_
            refine z_icmp_ge (tgt := 65) hx hb (by omega) (by omega) dX7_toldBy_45 (by decide) (fun c45 => ?_) (fun c45 => ?_)
            · skip
              refine lv_iload_n hx hb dX7_toldBy_65 rfl (lv_at hl 1 rfl) ?_
              refine z_if_ne (tgt := 74) hx hb (by omega) dX7_toldBy_66 (by decide) (fun c66 => ?_) (fun c66 => ?_)
              · skip
                refine lv_iload_n hx hb dX7_toldBy_74 rfl (lv_at hl 1 rfl) ?_
                exact z_iret hx hb hr hlocks w dX7_toldBy_75 ⟨by rw [ch_5 hk hin (fun i h1 h2 => hz i h1 (by omega))]; first | rw [if_pos (by omega)] | rw [if_neg (by omega)], rfl⟩
              · skip
                refine lv_bipush (v := zI (-2)) hx hb dX7_toldBy_69 (by decide +kernel) ?_
                refine lv_goto (tgt := 75) hx hb dX7_toldBy_71 (by decide) ?_
                exact z_iret hx hb hr hlocks w dX7_toldBy_75 ⟨by rw [ch_5 hk hin (fun i h1 h2 => hz i h1 (by omega))]; first | rw [if_pos (by omega)] | rw [if_neg (by omega)], rfl⟩
            · skip
              refine lv_lload_n hx hb dX7_toldBy_48 rfl (lv_at hl 2 rfl) ?_
              refine lv_iload_n hx hb dX7_toldBy_49 rfl (lv_at hl 0 rfl) ?_
              refine z_S_i (As := [.long (x), .int (zI (((j : Nat) : Int)))]) (rest := []) (Wr := []) ⟨hx, hb, hml, hown, hts⟩ (c_X7_byteOf l D x j (by omega)) (va_cwS 2 hts gX7_toldBy_X7_byteOf rfl rfl rfl (by decide +kernel) ⟨Nat.le_of_ble_eq_true rfl, Nat.le_of_ble_eq_true rfl⟩) w [] rfl (by decide) [] rfl (by decide) (by decide) rfl hl.1 rfl (lv_room (Nat.le_of_ble_eq_true rfl)) dX7_toldBy_50 ⟨Nat.zero_le _, Nat.zero_le _⟩ (fun r W1 H locs hp w => ?_)
              obtain ⟨rfl, rfl⟩ := hp
              have hb8 := by8_lt x j
              refine z_if_eq (tgt := 59) hx hb (by omega) dX7_toldBy_53 (by decide) (fun c53 => ?_) (fun c53 => ?_)
              · skip
                refine z_iinc (lv' := [(3, .int (zI (((j : Nat) : Int) + 1))), (2, .int (zI (((k : Nat) : Int)))), (0, .long (x))]) hx hb dX7_toldBy_59 hl (k := 0) rfl (by decide) rfl (fun ls hl => ?_)
                refine lv_goto (tgt := 42) hx hb dX7_toldBy_62 (by decide) ?_
                exact ih_42 (j + 1) _ (by omega) (by omega) (fun i h1 h2 => by by_cases e9 : i = j; exact e9 ▸ (show by8 x j = 0 by omega); exact hz i h1 (by omega)) (by first | rfl | omega) _ _ _ w (lv_sub hl [0, 1, 2] rfl)
              · skip
                refine lv_bipush (v := zI (-2)) hx hb dX7_toldBy_56 (by decide +kernel) ?_
                exact z_iret hx hb hr hlocks w dX7_toldBy_58 (by omega)
        exact lp_42 ((8 - k) + 1) k _ (by omega) (by omega) (fun i h1 h2 => absurd h1 (by omega)) (by first | rfl | omega) _ _ _ w (lv_sub hl [0, 1, 2] rfl)
      · skip
        refine lv_lload_n hx hb dX7_toldBy_8 rfl (lv_at hl 1 rfl) ?_
        refine lv_iload_n hx hb dX7_toldBy_9 rfl (lv_at hl 0 rfl) ?_
        refine z_S_i (As := [.long (x), .int (zI (((k : Nat) : Int)))]) (rest := []) (Wr := []) ⟨hx, hb, hml, hown, hts⟩ (c_X7_byteOf l D x k (by omega)) (va_cwS 2 hts gX7_toldBy_X7_byteOf rfl rfl rfl (by decide +kernel) ⟨Nat.le_of_ble_eq_true rfl, Nat.le_of_ble_eq_true rfl⟩) w [] rfl (by decide) [] rfl (by decide) (by decide) rfl hl.1 rfl (lv_room (Nat.le_of_ble_eq_true rfl)) dX7_toldBy_10 ⟨Nat.zero_le _, Nat.zero_le _⟩ (fun r W1 H locs hp w => ?_)
        obtain ⟨rfl, rfl⟩ := hp
        have hb8 := by8_lt x k
        refine z_if_eq (tgt := 40) hx hb (by omega) dX7_toldBy_13 (by decide) (fun c13 => ?_) (fun c13 => ?_)
        · skip
          refine lv_iload_n hx hb dX7_toldBy_40 rfl (lv_at hl 0 rfl) ?_
          refine lv_istore_n (lv' := [(3, .int (zI (((k : Nat) : Int)))), (2, .int (zI (((k : Nat) : Int)))), (0, .long (x))]) hx hb dX7_toldBy_41 rfl hl (by decide) rfl (fun ls hl => ?_)
          have lp_42 : ∀ (n_42 : Nat) (j : Nat) (x3 : Int) , 8 - j < n_42 → (k ≤ j ∧ j ≤ 8) → (∀ i, k ≤ i → i < j → by8 x i = 0) → x3 = ((j : Nat) : Int) → ∀ (H : Heap) (locs : List Loc) (ls : Array Slot), zW D A s.heap s [] H locs → lv_has ls 4 [(3, .int (zI (x3))), (2, .int (zI (((k : Nat) : Int)))), (0, .long (x))] → W p l e (zR (1)) s m [.long (x)].toArray below meth c H locs 0 0 (MQ below ((zQi D (fun r W1 => r = zI (if pCh x = 0 then -2 else ((pCh x : Nat) : Int)) ∧ W1 = [])) A) [.long (x)].toArray s 0 0 A) (F0 m 42 ls []) := by
            intro n_42
            induction n_42 with
            | zero => intro j x3 h_; exact absurd h_ (Nat.not_lt_zero _)
            | succ n_42 ih_42 =>
              intro j x3 hf_42 hj hz ex3 H locs ls w hl
              subst ex3
              have hl : lv_has ls 4 [(3, .int (zI (((j : Nat) : Int)))), (2, .int (zI (((k : Nat) : Int)))), (0, .long (x))] := hl
              refine lv_iload_n hx hb dX7_toldBy_42 rfl (lv_at hl 0 rfl) ?_
              refine lv_bipush (v := zI 8) hx hb dX7_toldBy_43 (by decide +kernel) ?_
              refine z_icmp_ge (tgt := 65) hx hb (by omega) (by omega) dX7_toldBy_45 (by decide) (fun c45 => ?_) (fun c45 => ?_)
              · skip
                refine lv_iload_n hx hb dX7_toldBy_65 rfl (lv_at hl 1 rfl) ?_
                refine z_if_ne (tgt := 74) hx hb (by omega) dX7_toldBy_66 (by decide) (fun c66 => ?_) (fun c66 => ?_)
                · skip
                  refine lv_iload_n hx hb dX7_toldBy_74 rfl (lv_at hl 1 rfl) ?_
                  exact z_iret hx hb hr hlocks w dX7_toldBy_75 ⟨by rw [ch_5 hk hin (fun i h1 h2 => hz i h1 (by omega))]; first | rw [if_pos (by omega)] | rw [if_neg (by omega)], rfl⟩
                · skip
                  refine lv_bipush (v := zI (-2)) hx hb dX7_toldBy_69 (by decide +kernel) ?_
                  refine lv_goto (tgt := 75) hx hb dX7_toldBy_71 (by decide) ?_
                  exact z_iret hx hb hr hlocks w dX7_toldBy_75 ⟨by rw [ch_5 hk hin (fun i h1 h2 => hz i h1 (by omega))]; first | rw [if_pos (by omega)] | rw [if_neg (by omega)], rfl⟩
              · skip
                refine lv_lload_n hx hb dX7_toldBy_48 rfl (lv_at hl 2 rfl) ?_
                refine lv_iload_n hx hb dX7_toldBy_49 rfl (lv_at hl 0 rfl) ?_
                refine z_S_i (As := [.long (x), .int (zI (((j : Nat) : Int)))]) (rest := []) (Wr := []) ⟨hx, hb, hml, hown, hts⟩ (c_X7_byteOf l D x j (by omega)) (va_cwS 2 hts gX7_toldBy_X7_byteOf rfl rfl rfl (by decide +kernel) ⟨Nat.le_of_ble_eq_true rfl, Nat.le_of_ble_eq_true rfl⟩) w [] rfl (by decide) [] rfl (by decide) (by decide) rfl hl.1 rfl (lv_room (Nat.le_of_ble_eq_true rfl)) dX7_toldBy_50 ⟨Nat.zero_le _, Nat.zero_le _⟩ (fun r W1 H locs hp w => ?_)
                obtain ⟨rfl, rfl⟩ := hp
                have hb8 := by8_lt x j
                refine z_if_eq (tgt := 59) hx hb (by omega) dX7_toldBy_53 (by decide) (fun c53 => ?_) (fun c53 => ?_)
                · skip
                  refine z_iinc (lv' := [(3, .int (zI (((j : Nat) : Int) + 1))), (2, .int (zI (((k : Nat) : Int)))), (0, .long (x))]) hx hb dX7_toldBy_59 hl (k := 0) rfl (by decide) rfl (fun ls hl => ?_)
                  refine lv_goto (tgt := 42) hx hb dX7_toldBy_62 (by decide) ?_
                  exact ih_42 (j + 1) _ (by omega) (by omega) (fun i h1 h2 => by by_cases e9 : i = j; exact e9 ▸ (show by8 x j = 0 by omega); exact hz i h1 (by omega)) (by first | rfl | omega) _ _ _ w (lv_sub hl [0, 1, 2] rfl)
                · skip
                  refine lv_bipush (v := zI (-2)) hx hb dX7_toldBy_56 (by decide +kernel) ?_
                  exact z_iret hx hb hr hlocks w dX7_toldBy_58 ⟨by rw [ch_4 (k := k) (j := j) (by omega) (by omega) (by omega) (by omega)]; rfl, rfl⟩
          exact lp_42 ((8 - k) + 1) k _ (by omega) (by omega) (fun i h1 h2 => absurd h1 (by omega)) (by first | rfl | omega) _ _ _ w (lv_sub hl [0, 1, 2] rfl)
        · skip
          refine lv_lload_n hx hb dX7_toldBy_16 rfl (lv_at hl 1 rfl) ?_
          refine lv_iload_n hx hb dX7_toldBy_17 rfl (lv_at hl 0 rfl) ?_
          refine z_S_i (As := [.long (x), .int (zI (((k : Nat) : Int)))]) (rest := []) (Wr := []) ⟨hx, hb, hml, hown, hts⟩ (c_X7_byteOf l D x k (by omega)) (va_cwS 2 hts gX7_toldBy_X7_byteOf rfl rfl rfl (by decide +kernel) ⟨Nat.le_of_ble_eq_true rfl, Nat.le_of_ble_eq_true rfl⟩) w [] rfl (by decide) [] rfl (by decide) (by decide) rfl hl.1 rfl (lv_room (Nat.le_of_ble_eq_true rfl)) dX7_toldBy_18 ⟨Nat.zero_le _, Nat.zero_le _⟩ (fun r W1 H locs hp w => ?_)
          obtain ⟨rfl, rfl⟩ := hp
          have hb8 := by8_lt x k
          refine lv_bipush (v := zI 33) hx hb dX7_toldBy_21 (by decide +kernel) ?_
          refine lv_bipush (v := zI 126) hx hb dX7_toldBy_23 (by decide +kernel) ?_
          refine z_S_i (As := [.int (zI (((by8 x k : Nat) : Int))), .int (zI (33)), .int (zI (126))]) (rest := []) (Wr := []) ⟨hx, hb, hml, hown, hts⟩ (c_X7_in l D ((by8 x k : Nat) : Int) 33 126 (by omega) (by omega) (by omega)) (va_cwS 3 hts gX7_toldBy_X7_in rfl rfl rfl (by decide +kernel) ⟨Nat.le_of_ble_eq_true rfl, Nat.le_of_ble_eq_true rfl⟩) w [] rfl (by decide) [] rfl (by decide) (by decide) rfl hl.1 rfl (lv_room (Nat.le_of_ble_eq_true rfl)) dX7_toldBy_25 ⟨Nat.zero_le _, Nat.zero_le _⟩ (fun r W1 H locs hp w => ?_)
          obtain ⟨rfl, rfl⟩ := hp
          refine z_if_ne_b (tgt := 34) hx hb dX7_toldBy_28 (by decide) (fun c28 => ?_) (fun c28 => ?_)
          · skip
            refine z_iinc (lv' := [(2, .int (zI (((k : Nat) : Int) + 1))), (0, .long (x))]) hx hb dX7_toldBy_34 hl (k := 0) rfl (by decide) rfl (fun ls hl => ?_)
            refine lv_goto (tgt := 2) hx hb dX7_toldBy_37 (by decide) ?_
            exact ih_2 (k + 1) _ (by omega) (by omega) (fun j hj => by by_cases e9 : j = k; exact e9 ▸ (show 33 ≤ by8 x k ∧ by8 x k ≤ 126 by omega); exact hin j (by omega)) (by first | rfl | omega) _ _ _ w (lv_sub hl [0, 1] rfl)
          · skip
            refine lv_bipush (v := zI (-2)) hx hb dX7_toldBy_31 (by decide +kernel) ?_
            exact z_iret hx hb hr hlocks w dX7_toldBy_33 ⟨by rw [pCh_bad (j := k) (by omega) (by omega) (by omega)]; rfl, rfl⟩
  exact lp_2 ((8 - 0) + 1) 0 _ (by omega) (by omega) (fun j hj => absurd hj (Nat.not_lt_zero _)) (by first | rfl | omega) _ _ _ w (lv_sub hl [0, 1] rfl)
