set_option maxHeartbeats 6000000 in
set_option maxRecDepth 100000 in
theorem c_X3_readPartNY (l : Launch) (D : zD) (hpd9 htx hnu : Nat) (pl a kk rd : Nat) (T : Nat → Nat) (Q : Nat → Int) (hT : OkT T pl) (hapl : a ≤ pl) (hrd : rd < 4) (hy : 0 ≤ dg T pl a) : zM l yX3_readPart wsX3_readPart (zR (3)) zE0 D [.ref hpd9, .int (zI (78))] [(hpd9, .inr (3, [.ref htx, .int (zI (((pl : Nat) : Int))), .int (zI (((a : Nat) : Int))), .int (zI (((kk : Nat) : Int))), .ref hnu, .int (zI (((rd : Nat) : Int)))])), (htx, .inl (D.2 2, 80, .inl (fT T))), (hnu, .inl (D.2 0, 4, .inl (fQ Q)))] (zQi D (fun r W1 => r = zI 1 ∧ W1 = [(hpd9, .inr (3, [.ref htx, .int (zI (((pl : Nat) : Int))), .int (zI (((((nIt T pl a 2).2) : Nat) : Int))), .int (zI (((kk : Nat) : Int))), .ref hnu, .int (zI ((((rd + 1) : Nat) : Int)))])), (htx, .inl (D.2 2, 80, .inl (fT T))), (hnu, .inl (D.2 0, 4, .inl (fQ (zu Q rd (nIt T pl a 2).1))))])) := by
  refine zM.of (cc := cX3_readPart) (maxL := 2) (ret := (some .boolean)) (by decide) rfl (Nat.le_of_ble_eq_true rfl) ?_
  intro p e s m below meth c A hx hb hml hown hts hr hlocks hE hnm w ls hl
  have hown : s.vm.findClass RX3 = some m.cls := hown
  have hl : lv_has ls 2 [(0, .ref hpd9), (1, .int (zI (78)))] := hl
  have hpl := hT.1
  have hca := cA_b hT a
  have w : zW D A s.heap s [(hpd9, .inr (3, [.ref htx, .int (zI (((pl : Nat) : Int))), .int (zI (((a : Nat) : Int))), .int (zI (((kk : Nat) : Int))), .ref hnu, .int (zI (((rd : Nat) : Int)))])), (htx, .inl (D.2 2, 80, .inl (fT T))), (hnu, .inl (D.2 0, 4, .inl (fQ Q)))] s.heap [] := w
  refine lv_iload_n hx hb dX3_readPart_0 rfl (lv_at hl 1 rfl) ?_
  refine z_lswit (tgt := 28) hx hb (by omega) dX3_readPart_1 (by decide) (off := 27) (by decide) (by decide) ?_
  refine lv_aload_n hx hb dX3_readPart_28 rfl (lv_at hl 0 rfl) ?_
  refine z_V_i (As := []) (rest := []) (Wr := []) ⟨hx, hb, hml, hown, hts⟩ (c_X3_readNumberY l D hpd9 htx hnu pl a kk rd T Q hT (by omega) (by omega) hy) (cwV 0 hts gX3_readPart_X3_readNumber rfl rfl rfl (by decide +kernel) ⟨Nat.le_of_ble_eq_true rfl, Nat.le_of_ble_eq_true rfl⟩) w (q0 := 0) rfl rfl rfl [0, 1, 2] rfl (by decide) [] rfl (by decide) (by decide) rfl hl.1 rfl (lv_room (Nat.le_of_ble_eq_true rfl)) dX3_readPart_29 ⟨Nat.zero_le _, Nat.zero_le _⟩ (fun r W1 H locs hp w => ?_)
  obtain ⟨rfl, rfl⟩ := hp
  have w : zW D A s.heap s [(hpd9, .inr (3, [.ref htx, .int (zI (((pl : Nat) : Int))), .int (zI ((((nIt T pl a 2).2 : Nat) : Int))), .int (zI (((kk : Nat) : Int))), .ref hnu, .int (zI (((rd + 1 : Nat) : Int)))])), (htx, .inl (D.2 2, 80, .inl (fT T))), (hnu, .inl (D.2 0, 4, .inl (fQ (zu Q rd (nIt T pl a 2).1))))] H locs := w.sub [0, 1, 2] (by decide) rfl
  exact z_zret hx hb hr hlocks w dX3_readPart_32 (by omega) ⟨rfl, rfl⟩
set_option maxHeartbeats 6000000 in
set_option maxRecDepth 100000 in
theorem c_X3_readPartNN (l : Launch) (D : zD) (hpd9 htx hnu : Nat) (pl a kk rd : Nat) (T : Nat → Nat) (Q : Nat → Int) (hT : OkT T pl) (hapl : a ≤ pl) (hy : ¬ 0 ≤ dg T pl a) : zM l yX3_readPart wsX3_readPart (zR (3)) zE0 D [.ref hpd9, .int (zI (78))] [(hpd9, .inr (3, [.ref htx, .int (zI (((pl : Nat) : Int))), .int (zI (((a : Nat) : Int))), .int (zI (((kk : Nat) : Int))), .ref hnu, .int (zI (((rd : Nat) : Int)))])), (htx, .inl (D.2 2, 80, .inl (fT T))), (hnu, .inl (D.2 0, 4, .inl (fQ Q)))] (zQi D (fun r W1 => r = zI 0 ∧ W1 = [(hpd9, .inr (3, [.ref htx, .int (zI (((pl : Nat) : Int))), .int (zI (((a : Nat) : Int))), .int (zI (((kk : Nat) : Int))), .ref hnu, .int (zI (((rd : Nat) : Int)))])), (htx, .inl (D.2 2, 80, .inl (fT T))), (hnu, .inl (D.2 0, 4, .inl (fQ Q)))])) := by
  refine zM.of (cc := cX3_readPart) (maxL := 2) (ret := (some .boolean)) (by decide) rfl (Nat.le_of_ble_eq_true rfl) ?_
  intro p e s m below meth c A hx hb hml hown hts hr hlocks hE hnm w ls hl
  have hown : s.vm.findClass RX3 = some m.cls := hown
  have hl : lv_has ls 2 [(0, .ref hpd9), (1, .int (zI (78)))] := hl
  have hpl := hT.1
  have hca := cA_b hT a
  have w : zW D A s.heap s [(hpd9, .inr (3, [.ref htx, .int (zI (((pl : Nat) : Int))), .int (zI (((a : Nat) : Int))), .int (zI (((kk : Nat) : Int))), .ref hnu, .int (zI (((rd : Nat) : Int)))])), (htx, .inl (D.2 2, 80, .inl (fT T))), (hnu, .inl (D.2 0, 4, .inl (fQ Q)))] s.heap [] := w
  refine lv_iload_n hx hb dX3_readPart_0 rfl (lv_at hl 1 rfl) ?_
  refine z_lswit (tgt := 28) hx hb (by omega) dX3_readPart_1 (by decide) (off := 27) (by decide) (by decide) ?_
  refine lv_aload_n hx hb dX3_readPart_28 rfl (lv_at hl 0 rfl) ?_
  refine z_V_i (As := []) (rest := []) (Wr := []) ⟨hx, hb, hml, hown, hts⟩ (c_X3_readNumberN l D hpd9 htx hnu pl a kk rd T Q hT (by omega) hy) (cwV 0 hts gX3_readPart_X3_readNumber rfl rfl rfl (by decide +kernel) ⟨Nat.le_of_ble_eq_true rfl, Nat.le_of_ble_eq_true rfl⟩) w (q0 := 0) rfl rfl rfl [0, 1, 2] rfl (by decide) [] rfl (by decide) (by decide) rfl hl.1 rfl (lv_room (Nat.le_of_ble_eq_true rfl)) dX3_readPart_29 ⟨Nat.zero_le _, Nat.zero_le _⟩ (fun r W1 H locs hp w => ?_)
  obtain ⟨rfl, rfl⟩ := hp
  have w : zW D A s.heap s [(hpd9, .inr (3, [.ref htx, .int (zI (((pl : Nat) : Int))), .int (zI (((a : Nat) : Int))), .int (zI (((kk : Nat) : Int))), .ref hnu, .int (zI (((rd : Nat) : Int)))])), (htx, .inl (D.2 2, 80, .inl (fT T))), (hnu, .inl (D.2 0, 4, .inl (fQ Q)))] H locs := w.sub [0, 1, 2] (by decide) rfl
  exact z_zret hx hb hr hlocks w dX3_readPart_32 (by omega) ⟨rfl, rfl⟩
set_option maxHeartbeats 6000000 in
set_option maxRecDepth 100000 in
theorem c_X3_readPartDY (l : Launch) (D : zD) (hpd9 htx hnu : Nat) (pl a kk rd : Nat) (T : Nat → Nat) (Q : Nat → Int) (hT : OkT T pl) (hapl : a ≤ pl) (hrd : rd < 4) (hy : 48 ≤ cA T pl a ∧ cA T pl a ≤ 50) : zM l yX3_readPart wsX3_readPart (zR (3)) zE0 D [.ref hpd9, .int (zI (68))] [(hpd9, .inr (3, [.ref htx, .int (zI (((pl : Nat) : Int))), .int (zI (((a : Nat) : Int))), .int (zI (((kk : Nat) : Int))), .ref hnu, .int (zI (((rd : Nat) : Int)))])), (htx, .inl (D.2 2, 80, .inl (fT T))), (hnu, .inl (D.2 0, 4, .inl (fQ Q)))] (zQi D (fun r W1 => r = zI 1 ∧ W1 = [(hpd9, .inr (3, [.ref htx, .int (zI (((pl : Nat) : Int))), .int (zI ((((a + 1) : Nat) : Int))), .int (zI (((kk : Nat) : Int))), .ref hnu, .int (zI ((((rd + 1) : Nat) : Int)))])), (htx, .inl (D.2 2, 80, .inl (fT T))), (hnu, .inl (D.2 0, 4, .inl (fQ (zu Q rd (((cA T pl a : Nat) : Int) - 48)))))])) := by
  refine zM.of (cc := cX3_readPart) (maxL := 2) (ret := (some .boolean)) (by decide) rfl (Nat.le_of_ble_eq_true rfl) ?_
  intro p e s m below meth c A hx hb hml hown hts hr hlocks hE hnm w ls hl
  have hown : s.vm.findClass RX3 = some m.cls := hown
  have hl : lv_has ls 2 [(0, .ref hpd9), (1, .int (zI (68)))] := hl
  have hpl := hT.1
  have hca := cA_b hT a
  have w : zW D A s.heap s [(hpd9, .inr (3, [.ref htx, .int (zI (((pl : Nat) : Int))), .int (zI (((a : Nat) : Int))), .int (zI (((kk : Nat) : Int))), .ref hnu, .int (zI (((rd : Nat) : Int)))])), (htx, .inl (D.2 2, 80, .inl (fT T))), (hnu, .inl (D.2 0, 4, .inl (fQ Q)))] s.heap [] := w
  refine lv_iload_n hx hb dX3_readPart_0 rfl (lv_at hl 1 rfl) ?_
  refine z_lswit (tgt := 33) hx hb (by omega) dX3_readPart_1 (by decide) (off := 32) (by decide) (by decide) ?_
  refine lv_aload_n hx hb dX3_readPart_33 rfl (lv_at hl 0 rfl) ?_
  refine z_V_i (As := []) (rest := []) (Wr := []) ⟨hx, hb, hml, hown, hts⟩ (c_X3_readDigitY l D hpd9 htx hnu pl a kk rd T Q hT (by omega) (by omega) hy) (cwV 0 hts gX3_readPart_X3_readDigit rfl rfl rfl (by decide +kernel) ⟨Nat.le_of_ble_eq_true rfl, Nat.le_of_ble_eq_true rfl⟩) w (q0 := 0) rfl rfl rfl [0, 1, 2] rfl (by decide) [] rfl (by decide) (by decide) rfl hl.1 rfl (lv_room (Nat.le_of_ble_eq_true rfl)) dX3_readPart_34 ⟨Nat.zero_le _, Nat.zero_le _⟩ (fun r W1 H locs hp w => ?_)
  obtain ⟨rfl, rfl⟩ := hp
  have w : zW D A s.heap s [(hpd9, .inr (3, [.ref htx, .int (zI (((pl : Nat) : Int))), .int (zI (((a + 1 : Nat) : Int))), .int (zI (((kk : Nat) : Int))), .ref hnu, .int (zI (((rd + 1 : Nat) : Int)))])), (htx, .inl (D.2 2, 80, .inl (fT T))), (hnu, .inl (D.2 0, 4, .inl (fQ (zu Q rd (((cA T pl a : Nat) : Int) - 48)))))] H locs := w.sub [0, 1, 2] (by decide) rfl
  exact z_zret hx hb hr hlocks w dX3_readPart_37 (by omega) ⟨rfl, rfl⟩
set_option maxHeartbeats 6000000 in
set_option maxRecDepth 100000 in
theorem c_X3_readPartDN (l : Launch) (D : zD) (hpd9 htx hnu : Nat) (pl a kk rd : Nat) (T : Nat → Nat) (Q : Nat → Int) (hT : OkT T pl) (hapl : a ≤ pl) (hy : ¬ (48 ≤ cA T pl a ∧ cA T pl a ≤ 50)) : zM l yX3_readPart wsX3_readPart (zR (3)) zE0 D [.ref hpd9, .int (zI (68))] [(hpd9, .inr (3, [.ref htx, .int (zI (((pl : Nat) : Int))), .int (zI (((a : Nat) : Int))), .int (zI (((kk : Nat) : Int))), .ref hnu, .int (zI (((rd : Nat) : Int)))])), (htx, .inl (D.2 2, 80, .inl (fT T))), (hnu, .inl (D.2 0, 4, .inl (fQ Q)))] (zQi D (fun r W1 => r = zI 0 ∧ W1 = [(hpd9, .inr (3, [.ref htx, .int (zI (((pl : Nat) : Int))), .int (zI (((a : Nat) : Int))), .int (zI (((kk : Nat) : Int))), .ref hnu, .int (zI (((rd : Nat) : Int)))])), (htx, .inl (D.2 2, 80, .inl (fT T))), (hnu, .inl (D.2 0, 4, .inl (fQ Q)))])) := by
  refine zM.of (cc := cX3_readPart) (maxL := 2) (ret := (some .boolean)) (by decide) rfl (Nat.le_of_ble_eq_true rfl) ?_
  intro p e s m below meth c A hx hb hml hown hts hr hlocks hE hnm w ls hl
  have hown : s.vm.findClass RX3 = some m.cls := hown
  have hl : lv_has ls 2 [(0, .ref hpd9), (1, .int (zI (68)))] := hl
  have hpl := hT.1
  have hca := cA_b hT a
  have w : zW D A s.heap s [(hpd9, .inr (3, [.ref htx, .int (zI (((pl : Nat) : Int))), .int (zI (((a : Nat) : Int))), .int (zI (((kk : Nat) : Int))), .ref hnu, .int (zI (((rd : Nat) : Int)))])), (htx, .inl (D.2 2, 80, .inl (fT T))), (hnu, .inl (D.2 0, 4, .inl (fQ Q)))] s.heap [] := w
  refine lv_iload_n hx hb dX3_readPart_0 rfl (lv_at hl 1 rfl) ?_
  refine z_lswit (tgt := 33) hx hb (by omega) dX3_readPart_1 (by decide) (off := 32) (by decide) (by decide) ?_
  refine lv_aload_n hx hb dX3_readPart_33 rfl (lv_at hl 0 rfl) ?_
  refine z_V_i (As := []) (rest := []) (Wr := []) ⟨hx, hb, hml, hown, hts⟩ (c_X3_readDigitN l D hpd9 htx hnu pl a kk rd T Q hT (by omega) hy) (cwV 0 hts gX3_readPart_X3_readDigit rfl rfl rfl (by decide +kernel) ⟨Nat.le_of_ble_eq_true rfl, Nat.le_of_ble_eq_true rfl⟩) w (q0 := 0) rfl rfl rfl [0, 1, 2] rfl (by decide) [] rfl (by decide) (by decide) rfl hl.1 rfl (lv_room (Nat.le_of_ble_eq_true rfl)) dX3_readPart_34 ⟨Nat.zero_le _, Nat.zero_le _⟩ (fun r W1 H locs hp w => ?_)
  obtain ⟨rfl, rfl⟩ := hp
  have w : zW D A s.heap s [(hpd9, .inr (3, [.ref htx, .int (zI (((pl : Nat) : Int))), .int (zI (((a : Nat) : Int))), .int (zI (((kk : Nat) : Int))), .ref hnu, .int (zI (((rd : Nat) : Int)))])), (htx, .inl (D.2 2, 80, .inl (fT T))), (hnu, .inl (D.2 0, 4, .inl (fQ Q)))] H locs := w.sub [0, 1, 2] (by decide) rfl
  exact z_zret hx hb hr hlocks w dX3_readPart_37 (by omega) ⟨rfl, rfl⟩
set_option maxHeartbeats 6000000 in
set_option maxRecDepth 100000 in
theorem c_X3_readPartSY (l : Launch) (D : zD) (hpd9 htx hnu : Nat) (pl a kk rd : Nat) (T : Nat → Nat) (Q : Nat → Int) (hT : OkT T pl) (hapl : a ≤ pl) (ch : Nat) (hch : (0 < ch ∧ ch < 65536) ∧ ¬ ch = 68 ∧ ¬ ch = 78) (hy : cA T pl a = ch) : zM l yX3_readPart wsX3_readPart (zR (3)) zE0 D [.ref hpd9, .int (zI (((ch : Nat) : Int)))] [(hpd9, .inr (3, [.ref htx, .int (zI (((pl : Nat) : Int))), .int (zI (((a : Nat) : Int))), .int (zI (((kk : Nat) : Int))), .ref hnu, .int (zI (((rd : Nat) : Int)))])), (htx, .inl (D.2 2, 80, .inl (fT T))), (hnu, .inl (D.2 0, 4, .inl (fQ Q)))] (zQi D (fun r W1 => r = zI 1 ∧ W1 = [(hpd9, .inr (3, [.ref htx, .int (zI (((pl : Nat) : Int))), .int (zI ((((a + 1) : Nat) : Int))), .int (zI (((kk : Nat) : Int))), .ref hnu, .int (zI (((rd : Nat) : Int)))])), (htx, .inl (D.2 2, 80, .inl (fT T))), (hnu, .inl (D.2 0, 4, .inl (fQ Q)))])) := by
  refine zM.of (cc := cX3_readPart) (maxL := 2) (ret := (some .boolean)) (by decide) rfl (Nat.le_of_ble_eq_true rfl) ?_
  intro p e s m below meth c A hx hb hml hown hts hr hlocks hE hnm w ls hl
  have hown : s.vm.findClass RX3 = some m.cls := hown
  have hl : lv_has ls 2 [(0, .ref hpd9), (1, .int (zI (((ch : Nat) : Int))))] := hl
  have hpl := hT.1
  have hca := cA_b hT a
  have w : zW D A s.heap s [(hpd9, .inr (3, [.ref htx, .int (zI (((pl : Nat) : Int))), .int (zI (((a : Nat) : Int))), .int (zI (((kk : Nat) : Int))), .ref hnu, .int (zI (((rd : Nat) : Int)))])), (htx, .inl (D.2 2, 80, .inl (fT T))), (hnu, .inl (D.2 0, 4, .inl (fQ Q)))] s.heap [] := w
  refine lv_iload_n hx hb dX3_readPart_0 rfl (lv_at hl 1 rfl) ?_
  rcases (show ((ch : Nat) : Int) = 68 ∨ ((ch : Nat) : Int) = 78 ∨ (¬ ((ch : Nat) : Int) = 68 ∧ ¬ ((ch : Nat) : Int) = 78) by omega) with csw1 | csw1 | csw1
  · skip
    rw [csw1]
    refine z_lswit (tgt := 33) hx hb (by omega) dX3_readPart_1 (by decide) (off := 32) (by decide) (by decide) ?_
    exact absurd csw1 (by omega)
  · skip
    rw [csw1]
    refine z_lswit (tgt := 28) hx hb (by omega) dX3_readPart_1 (by decide) (off := 27) (by decide) (by decide) ?_
    exact absurd csw1 (by omega)
  · skip
    obtain ⟨nk1_0, nk1_1⟩ := csw1
    refine z_lswit (tgt := 38) hx hb (by omega) dX3_readPart_1 (by decide) (off := 37) (by simp [Op.lookupswitch.offset, nk1_0, Ne.symm nk1_0, nk1_1, Ne.symm nk1_1]) (by decide) ?_
    refine lv_aload_n hx hb dX3_readPart_38 rfl (lv_at hl 0 rfl) ?_
    refine lv_iload_n hx hb dX3_readPart_39 rfl (lv_at hl 1 rfl) ?_
    refine z_V_i (As := [.int (zI (((ch : Nat) : Int)))]) (rest := []) (Wr := []) ⟨hx, hb, hml, hown, hts⟩ (c_X3_readSignY l D hpd9 htx hnu pl a kk rd T Q hT (by omega) ch (by omega) hy) (cwV 1 hts gX3_readPart_X3_readSign rfl rfl rfl (by decide +kernel) ⟨Nat.le_of_ble_eq_true rfl, Nat.le_of_ble_eq_true rfl⟩) w (q0 := 0) rfl rfl rfl [0, 1, 2] rfl (by decide) [] rfl (by decide) (by decide) rfl hl.1 rfl (lv_room (Nat.le_of_ble_eq_true rfl)) dX3_readPart_40 ⟨Nat.zero_le _, Nat.zero_le _⟩ (fun r W1 H locs hp w => ?_)
    obtain ⟨rfl, rfl⟩ := hp
    have w : zW D A s.heap s [(hpd9, .inr (3, [.ref htx, .int (zI (((pl : Nat) : Int))), .int (zI (((a + 1 : Nat) : Int))), .int (zI (((kk : Nat) : Int))), .ref hnu, .int (zI (((rd : Nat) : Int)))])), (htx, .inl (D.2 2, 80, .inl (fT T))), (hnu, .inl (D.2 0, 4, .inl (fQ Q)))] H locs := w.sub [0, 1, 2] (by decide) rfl
    exact z_zret hx hb hr hlocks w dX3_readPart_43 (by omega) ⟨rfl, rfl⟩
set_option maxHeartbeats 6000000 in
set_option maxRecDepth 100000 in
theorem c_X3_readPartSN (l : Launch) (D : zD) (hpd9 htx hnu : Nat) (pl a kk rd : Nat) (T : Nat → Nat) (Q : Nat → Int) (hT : OkT T pl) (hapl : a ≤ pl) (ch : Nat) (hch : (0 < ch ∧ ch < 65536) ∧ ¬ ch = 68 ∧ ¬ ch = 78) (hy : ¬ cA T pl a = ch) : zM l yX3_readPart wsX3_readPart (zR (3)) zE0 D [.ref hpd9, .int (zI (((ch : Nat) : Int)))] [(hpd9, .inr (3, [.ref htx, .int (zI (((pl : Nat) : Int))), .int (zI (((a : Nat) : Int))), .int (zI (((kk : Nat) : Int))), .ref hnu, .int (zI (((rd : Nat) : Int)))])), (htx, .inl (D.2 2, 80, .inl (fT T))), (hnu, .inl (D.2 0, 4, .inl (fQ Q)))] (zQi D (fun r W1 => r = zI 0 ∧ W1 = [(hpd9, .inr (3, [.ref htx, .int (zI (((pl : Nat) : Int))), .int (zI (((a : Nat) : Int))), .int (zI (((kk : Nat) : Int))), .ref hnu, .int (zI (((rd : Nat) : Int)))])), (htx, .inl (D.2 2, 80, .inl (fT T))), (hnu, .inl (D.2 0, 4, .inl (fQ Q)))])) := by
  refine zM.of (cc := cX3_readPart) (maxL := 2) (ret := (some .boolean)) (by decide) rfl (Nat.le_of_ble_eq_true rfl) ?_
  intro p e s m below meth c A hx hb hml hown hts hr hlocks hE hnm w ls hl
  have hown : s.vm.findClass RX3 = some m.cls := hown
  have hl : lv_has ls 2 [(0, .ref hpd9), (1, .int (zI (((ch : Nat) : Int))))] := hl
  have hpl := hT.1
  have hca := cA_b hT a
  have w : zW D A s.heap s [(hpd9, .inr (3, [.ref htx, .int (zI (((pl : Nat) : Int))), .int (zI (((a : Nat) : Int))), .int (zI (((kk : Nat) : Int))), .ref hnu, .int (zI (((rd : Nat) : Int)))])), (htx, .inl (D.2 2, 80, .inl (fT T))), (hnu, .inl (D.2 0, 4, .inl (fQ Q)))] s.heap [] := w
  refine lv_iload_n hx hb dX3_readPart_0 rfl (lv_at hl 1 rfl) ?_
  rcases (show ((ch : Nat) : Int) = 68 ∨ ((ch : Nat) : Int) = 78 ∨ (¬ ((ch : Nat) : Int) = 68 ∧ ¬ ((ch : Nat) : Int) = 78) by omega) with csw1 | csw1 | csw1
  · skip
    rw [csw1]
    refine z_lswit (tgt := 33) hx hb (by omega) dX3_readPart_1 (by decide) (off := 32) (by decide) (by decide) ?_
    exact absurd csw1 (by omega)
  · skip
    rw [csw1]
    refine z_lswit (tgt := 28) hx hb (by omega) dX3_readPart_1 (by decide) (off := 27) (by decide) (by decide) ?_
    exact absurd csw1 (by omega)
  · skip
    obtain ⟨nk1_0, nk1_1⟩ := csw1
    refine z_lswit (tgt := 38) hx hb (by omega) dX3_readPart_1 (by decide) (off := 37) (by simp [Op.lookupswitch.offset, nk1_0, Ne.symm nk1_0, nk1_1, Ne.symm nk1_1]) (by decide) ?_
    refine lv_aload_n hx hb dX3_readPart_38 rfl (lv_at hl 0 rfl) ?_
    refine lv_iload_n hx hb dX3_readPart_39 rfl (lv_at hl 1 rfl) ?_
    refine z_V_i (As := [.int (zI (((ch : Nat) : Int)))]) (rest := []) (Wr := []) ⟨hx, hb, hml, hown, hts⟩ (c_X3_readSignN l D hpd9 htx hnu pl a kk rd T Q hT (by omega) ch (by omega) hy) (cwV 1 hts gX3_readPart_X3_readSign rfl rfl rfl (by decide +kernel) ⟨Nat.le_of_ble_eq_true rfl, Nat.le_of_ble_eq_true rfl⟩) w (q0 := 0) rfl rfl rfl [0, 1, 2] rfl (by decide) [] rfl (by decide) (by decide) rfl hl.1 rfl (lv_room (Nat.le_of_ble_eq_true rfl)) dX3_readPart_40 ⟨Nat.zero_le _, Nat.zero_le _⟩ (fun r W1 H locs hp w => ?_)
    obtain ⟨rfl, rfl⟩ := hp
    have w : zW D A s.heap s [(hpd9, .inr (3, [.ref htx, .int (zI (((pl : Nat) : Int))), .int (zI (((a : Nat) : Int))), .int (zI (((kk : Nat) : Int))), .ref hnu, .int (zI (((rd : Nat) : Int)))])), (htx, .inl (D.2 2, 80, .inl (fT T))), (hnu, .inl (D.2 0, 4, .inl (fQ Q)))] H locs := w.sub [0, 1, 2] (by decide) rfl
    exact z_zret hx hb hr hlocks w dX3_readPart_43 (by omega) ⟨rfl, rfl⟩
