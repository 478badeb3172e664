set_option maxRecDepth 100000 in
theorem c_J0_length (l : Launch) (D : zD) (adK adV : Nat → Nat) (i : Nat) (hi : i < 7) : zM l yJ0_length_8abf5 wsJ0_length_8abf5 (zR 1) (zES adK adV []) D [.ref (adK i)] [] (zQi D (fun r W1 => r = zI ((sLe8.getD i 0 : Nat) : Int) ∧ W1 = [])) := by
  refine zM.ofSF (cc := cJ0_length_8abf5) (maxL := 1) (ret := some .int) (by decide) rfl (Nat.le_of_ble_eq_true rfl) ?_
  intro p e s m below meth c A hx hb hml hown hts hr hlocks hT hnm w ls hl
  have hown : s.vm.findClass RJ0 = some m.cls := hown
  have hl : lv_has ls 1 [(0, .ref (adK i))] := hl
  obtain ⟨hb1, hb2, -⟩ := sLe8_ok i hi
  have f1 : (Cond.fieldLink RJ0 9 "java/lang/String" "value" "[B").before _ s = true := hts _ (by decide +kernel)
  refine lv_aload_n hx hb dJ0_length_8abf5_0 rfl (lv_at hl 0 rfl) ?_
  refine vk_getf hx hb ((hT.2.1.1 i hi).2.2.1) w.2.2.2.1 hown f1 (fun _ h => h) dJ0_length_8abf5_1 ?_
  refine va_tlen hx hb ((hT.2.1.1 i hi).2.2.2) w.2.2.2.1 rfl dJ0_length_8abf5_4 ?_
  refine lv_aload_n hx hb dJ0_length_8abf5_5 rfl (lv_at hl 0 rfl) ?_
  refine z_fin_i (Wr := []) (zRunK (As := []) (rest := [.int (Int32.ofNat (sLe8.getD i 0))]) ⟨hx, hb, hml, hown, hts⟩ (c_J0_coder l D adK adV i hi) (cwV 0 hts gJ0_length_8abf5_J0_coder_7d493 rfl rfl rfl (by decide +kernel) ⟨Nat.le_of_ble_eq_true rfl, Nat.le_of_ble_eq_true rfl⟩) w hT hi [] rfl rfl rfl hl.1 rfl (lv_room (Nat.le_of_ble_eq_true rfl)) dJ0_length_8abf5_6 ⟨Nat.zero_le _, Nat.zero_le _⟩) w [] rfl [] rfl (by decide) (by decide) (fun r W1 H locs hp w => ?_)
  obtain ⟨rfl, rfl⟩ := hp
  refine lv_ishr hx hb dJ0_length_8abf5_9 ?_
  rw [hb2]
  exact z_iret hx hb hr hlocks w dJ0_length_8abf5_10 ⟨rfl, rfl⟩
set_option maxRecDepth 100000 in
theorem c_J0_isEmpty (l : Launch) (D : zD) (adK adV : Nat → Nat) (i : Nat) (hi : i < 7) : zM l yJ0_isEmpty_aae02 wsJ0_isEmpty_aae02 (zR 0) (zES adK adV []) D [.ref (adK i)] [] (zQi D (fun r W1 => r = zI (zb (sLe8.getD i 0 = 0)) ∧ W1 = [])) := by
  refine zM.ofSF (cc := cJ0_isEmpty_aae02) (maxL := 1) (ret := some .boolean) (by decide) rfl (Nat.le_of_ble_eq_true rfl) ?_
  intro p e s m below meth c A hx hb hml hown hts hr hlocks hT hnm w ls hl
  have hown : s.vm.findClass RJ0 = some m.cls := hown
  have hl : lv_has ls 1 [(0, .ref (adK i))] := hl
  obtain ⟨hb1, hb2, hb3⟩ := sLe8_ok i hi
  have f1 : (Cond.fieldLink RJ0 9 "java/lang/String" "value" "[B").before _ s = true := hts _ (by decide +kernel)
  refine lv_aload_n hx hb dJ0_isEmpty_aae02_0 rfl (lv_at hl 0 rfl) ?_
  refine vk_getf hx hb ((hT.2.1.1 i hi).2.2.1) w.2.2.2.1 hown f1 (fun _ h => h) dJ0_isEmpty_aae02_1 ?_
  refine va_tlen hx hb ((hT.2.1.1 i hi).2.2.2) w.2.2.2.1 hb1 dJ0_isEmpty_aae02_4 ?_
  refine z_if_ne (tgt := 12) hx hb (by omega) dJ0_isEmpty_aae02_5 (by decide) (fun h => ?_) (fun h => ?_)
  · refine lv_iconst (v := zI 0) hx hb dJ0_isEmpty_aae02_12 rfl ?_
    exact z_zret hx hb hr hlocks w dJ0_isEmpty_aae02_13 (by omega) ⟨by rw [zb_f (by omega)], rfl⟩
  · refine lv_iconst (v := zI 1) hx hb dJ0_isEmpty_aae02_8 rfl ?_
    refine lv_goto (tgt := 13) hx hb dJ0_isEmpty_aae02_9 (by decide) ?_
    exact z_zret hx hb hr hlocks w dJ0_isEmpty_aae02_13 (by omega) ⟨by rw [zb_t (by omega)], rfl⟩
set_option maxRecDepth 100000 in
theorem c_J0_charAt (l : Launch) (D : zD) (adK adV : Nat → Nat) (i k : Nat) (hi : i < 7) (hk : k < sLe8.getD i 0) : zM l yJ0_charAt_5068e wsJ0_charAt_5068e (zR 3) (zES adK adV []) D [.ref (adK i), .int (zI ((k : Nat) : Int))] [] (zQi D (fun r W1 => r = zI ((sChr i k : Nat) : Int) ∧ W1 = [])) := by
  refine zM.ofSF (cc := cJ0_charAt_5068e) (maxL := 2) (ret := some .char) (by decide) rfl (Nat.le_of_ble_eq_true rfl) ?_
  intro p e s m below meth c A hx hb hml hown hts hr hlocks hT hnm w ls hl
  have hown : s.vm.findClass RJ0 = some m.cls := hown
  have hl : lv_has ls 2 [(0, .ref (adK i)), (1, .int (zI ((k : Nat) : Int)))] := hl
  obtain ⟨hc1, hc2, hc3⟩ := sChr_ok i hi k hk
  have f1 : (Cond.fieldLink RJ0 9 "java/lang/String" "value" "[B").before _ s = true := hts _ (by decide +kernel)
  refine lv_aload_n hx hb dJ0_charAt_5068e_0 rfl (lv_at hl 0 rfl) ?_
  refine z_fin_i (Wr := []) (zRunK (As := []) (rest := []) ⟨hx, hb, hml, hown, hts⟩ (c_J0_isLatin1 l D adK adV i hi) (cwV 0 hts gJ0_charAt_5068e_J0_isLatin1_aae02 rfl rfl rfl (by decide +kernel) ⟨Nat.le_of_ble_eq_true rfl, Nat.le_of_ble_eq_true rfl⟩) w hT hi [] rfl rfl rfl hl.1 rfl (lv_room (Nat.le_of_ble_eq_true rfl)) dJ0_charAt_5068e_1 ⟨Nat.zero_le _, Nat.zero_le _⟩) w [] rfl [] rfl (by decide) (by decide) (fun r W1 H locs hp w => ?_)
  obtain ⟨rfl, rfl⟩ := hp
  refine z_if_eq (tgt := 16) hx hb (by omega) dJ0_charAt_5068e_4 (by decide) (fun h => absurd h (by omega)) (fun _ => ?_)
  refine lv_aload_n hx hb dJ0_charAt_5068e_7 rfl (lv_at hl 0 rfl) ?_
  refine vk_getf hx hb ((hT.2.1.1 i hi).2.2.1) w.2.2.2.1 hown f1 (fun _ h => h) dJ0_charAt_5068e_8 ?_
  refine lv_iload_n hx hb dJ0_charAt_5068e_11 rfl (lv_at hl 1 rfl) ?_
  refine z_fin_i (Wr := []) (zRunS (As := [.ref (adV i), .int (zI ((k : Nat) : Int))]) (rest := []) ⟨hx, hb, hml, hown, hts⟩ (c_J1_charAt l D adK adV i k hi hk) (va_cwS 2 hts gJ0_charAt_5068e_J1_charAt_3b067 rfl rfl rfl (by decide +kernel) ⟨Nat.le_of_ble_eq_true rfl, Nat.le_of_ble_eq_true rfl⟩) w zES_b (zES_h hT w [] rfl rfl) [] rfl rfl rfl hl.1 rfl (lv_room (Nat.le_of_ble_eq_true rfl)) dJ0_charAt_5068e_12 ⟨Nat.zero_le _, Nat.zero_le _⟩) w [] rfl [] rfl (by decide) (by decide) (fun r W1 H locs hp w => ?_)
  obtain ⟨rfl, rfl⟩ := hp
  exact z_cret hx hb hr hlocks w dJ0_charAt_5068e_15 (nrC hc2) ⟨rfl, rfl⟩
