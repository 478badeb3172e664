set_option maxRecDepth 100000 in
theorem c_J3_checkIndexN (l : Launch) (D : zD) (k n t : Nat) (hk : k < n) (hn : n < 2147483648) : zM l yJ3_checkIndex_8e157 wsJ3_checkIndex_8e157 (zR 0) zE0 D [.int (zI ((k : Nat) : Int)), .int (zI ((n : Nat) : Int)), .null] [] (zQi D (fun r W1 => r = zI ((k : Nat) : Int) ∧ W1 = [])) := by
  refine zM.ofF (cc := cJ3_checkIndex_8e157) (maxL := 3) (ret := some .int) (by decide) rfl (Nat.le_of_ble_eq_true rfl) ?_
  intro p e s m below meth c A hx hb hml hown hts hr hlocks hE_ hnm w ls hl
  have hown : s.vm.findClass RJ3 = some m.cls := hown
  have hl : lv_has ls 3 [(0, .int (zI ((k : Nat) : Int))), (1, .int (zI ((n : Nat) : Int))), (2, .null)] := hl
  refine lv_iload_n hx hb dJ3_checkIndex_8e157_0 rfl (lv_at hl 0 rfl) ?_
  refine z_if_lt (tgt := 9) hx hb (by omega) dJ3_checkIndex_8e157_1 (by decide) (fun h => absurd h (by omega)) (fun _ => ?_)
  refine lv_iload_n hx hb dJ3_checkIndex_8e157_4 rfl (lv_at hl 0 rfl) ?_
  refine lv_iload_n hx hb dJ3_checkIndex_8e157_5 rfl (lv_at hl 1 rfl) ?_
  refine z_icmp_lt (tgt := 16) hx hb (by omega) (by omega) dJ3_checkIndex_8e157_6 (by decide) (fun _ => ?_) (fun h => absurd h (by omega))
  refine lv_iload_n hx hb dJ3_checkIndex_8e157_16 rfl (lv_at hl 0 rfl) ?_
  exact z_iret hx hb hr hlocks w dJ3_checkIndex_8e157_17 ⟨rfl, rfl⟩
set_option maxRecDepth 100000 in
theorem c_J3_checkIndexR (l : Launch) (D : zD) (k n t : Nat) (hk : k < n) (hn : n < 2147483648) : zM l yJ3_checkIndex_8e157 wsJ3_checkIndex_8e157 (zR 0) zE0 D [.int (zI ((k : Nat) : Int)), .int (zI ((n : Nat) : Int)), .ref t] [] (zQi D (fun r W1 => r = zI ((k : Nat) : Int) ∧ W1 = [])) := by
  refine zM.ofF (cc := cJ3_checkIndex_8e157) (maxL := 3) (ret := some .int) (by decide) rfl (Nat.le_of_ble_eq_true rfl) ?_
  intro p e s m below meth c A hx hb hml hown hts hr hlocks hE_ hnm w ls hl
  have hown : s.vm.findClass RJ3 = some m.cls := hown
  have hl : lv_has ls 3 [(0, .int (zI ((k : Nat) : Int))), (1, .int (zI ((n : Nat) : Int))), (2, .ref t)] := hl
  refine lv_iload_n hx hb dJ3_checkIndex_8e157_0 rfl (lv_at hl 0 rfl) ?_
  refine z_if_lt (tgt := 9) hx hb (by omega) dJ3_checkIndex_8e157_1 (by decide) (fun h => absurd h (by omega)) (fun _ => ?_)
  refine lv_iload_n hx hb dJ3_checkIndex_8e157_4 rfl (lv_at hl 0 rfl) ?_
  refine lv_iload_n hx hb dJ3_checkIndex_8e157_5 rfl (lv_at hl 1 rfl) ?_
  refine z_icmp_lt (tgt := 16) hx hb (by omega) (by omega) dJ3_checkIndex_8e157_6 (by decide) (fun _ => ?_) (fun h => absurd h (by omega))
  refine lv_iload_n hx hb dJ3_checkIndex_8e157_16 rfl (lv_at hl 0 rfl) ?_
  exact z_iret hx hb hr hlocks w dJ3_checkIndex_8e157_17 ⟨rfl, rfl⟩
set_option maxRecDepth 100000 in
theorem c_J0_checkIndex (l : Launch) (D : zD) (adK adV : Nat → Nat) (k n : Nat) (hk : k < n) (hn : n < 2147483648) : zM l yJ0_checkIndex_df160 wsJ0_checkIndex_df160 (zR 1) (zES adK adV []) D [.int (zI ((k : Nat) : Int)), .int (zI ((n : Nat) : Int))] [] (zQv D (fun W1 => W1 = [])) := by
  refine zM.ofSF (cc := cJ0_checkIndex_df160) (maxL := 2) (ret := none) (by decide) rfl (Nat.le_of_ble_eq_true rfl) ?_
  intro p e s m below meth c A hx hb hml hown hts hr hlocks hT hnm w ls hl
  have hown : s.vm.findClass RJ0 = some m.cls := hown
  have hl : lv_has ls 2 [(0, .int (zI ((k : Nat) : Int))), (1, .int (zI ((n : Nat) : Int)))] := hl
  have f1 : (Cond.fieldLink RJ0 1053 "jdk/internal/util/Preconditions" "SIOOBE_FORMATTER" "Ljava/util/function/BiFunction;").before _ s = true := hts _ (by decide +kernel)
  refine lv_iload_n hx hb dJ0_checkIndex_df160_0 rfl (lv_at hl 0 rfl) ?_
  refine lv_iload_n hx hb dJ0_checkIndex_df160_1 rfl (lv_at hl 1 rfl) ?_
  rcases hT.2.2.2 with hz | ⟨t, hz⟩
  · refine va_gets hx hb hz w.2.2.2.1 hown f1 (fun _ h => h) dJ0_checkIndex_df160_2 ?_
    refine z_S_i (As := [.int (zI ((k : Nat) : Int)), .int (zI ((n : Nat) : Int)), .null]) (rest := []) (Wr := []) ⟨hx, hb, hml, hown, hts⟩ (c_J3_checkIndexN l D k n 0 hk hn) (va_cwS 3 hts gJ0_checkIndex_df160_J3_checkIndex_8e157 rfl rfl rfl (by decide +kernel) ⟨Nat.le_of_ble_eq_true rfl, Nat.le_of_ble_eq_true rfl⟩) w [] rfl (by decide) [] rfl (by decide) (by decide) rfl hl.1 rfl (lv_room (Nat.le_of_ble_eq_true rfl)) dJ0_checkIndex_df160_5 ⟨Nat.zero_le _, Nat.zero_le _⟩ (fun r W1 H locs hp w => ?_)
    obtain ⟨rfl, rfl⟩ := hp
    refine lv_pop hx hb dJ0_checkIndex_df160_8 rfl ?_
    exact z_vret hx hb hr hlocks w dJ0_checkIndex_df160_9 rfl
  · refine va_gets hx hb hz w.2.2.2.1 hown f1 (fun _ h => h) dJ0_checkIndex_df160_2 ?_
    refine z_S_i (As := [.int (zI ((k : Nat) : Int)), .int (zI ((n : Nat) : Int)), .ref t]) (rest := []) (Wr := []) ⟨hx, hb, hml, hown, hts⟩ (c_J3_checkIndexR l D k n t hk hn) (va_cwS 3 hts gJ0_checkIndex_df160_J3_checkIndex_8e157 rfl rfl rfl (by decide +kernel) ⟨Nat.le_of_ble_eq_true rfl, Nat.le_of_ble_eq_true rfl⟩) w [] rfl (by decide) [] rfl (by decide) (by decide) rfl hl.1 rfl (lv_room (Nat.le_of_ble_eq_true rfl)) dJ0_checkIndex_df160_5 ⟨Nat.zero_le _, Nat.zero_le _⟩ (fun r W1 H locs hp w => ?_)
    obtain ⟨rfl, rfl⟩ := hp
    refine lv_pop hx hb dJ0_checkIndex_df160_8 rfl ?_
    exact z_vret hx hb hr hlocks w dJ0_checkIndex_df160_9 rfl
def sChr (i k : Nat) : Nat := ((sBy8.getD i []).getD k 0).toInt.toNat
theorem sChr_ok : ∀ i, i < 7 → ∀ k, k < sLe8.getD i 0 → ((((sBy8.getD i []).getD k 0) &&& zI 255).toUInt32 % 65536).toInt32 = zI ((sChr i k : Nat) : Int) ∧ sChr i k < 65536 ∧ sLe8.getD i 0 < 256 := by decide +kernel
theorem sLe8_ok : ∀ i, i < 7 → Int32.ofNat (sLe8.getD i 0) = zI ((sLe8.getD i 0 : Nat) : Int) ∧ Int32.ofNat (sLe8.getD i 0) >>> (zI 0 &&& 31) = zI ((sLe8.getD i 0 : Nat) : Int) ∧ sLe8.getD i 0 < 256 := by decide +kernel
set_option maxRecDepth 100000 in
theorem c_J1_charAt (l : Launch) (D : zD) (adK adV : Nat → Nat) (i k : Nat) (hi : i < 7) (hk : k < sLe8.getD i 0) : zM l yJ1_charAt_3b067 wsJ1_charAt_3b067 (zR 2) (zES adK adV []) D [.ref (adV i), .int (zI ((k : Nat) : Int))] [] (zQi D (fun r W1 => r = zI ((sChr i k : Nat) : Int) ∧ W1 = [])) := by
  refine zM.ofSF (cc := cJ1_charAt_3b067) (maxL := 2) (ret := some .char) (by decide) rfl (Nat.le_of_ble_eq_true rfl) ?_
  intro p e s m below meth c A hx hb hml hown hts hr hlocks hT hnm w ls hl
  have hown : s.vm.findClass RJ1 = some m.cls := hown
  have hl : lv_has ls 2 [(0, .ref (adV i)), (1, .int (zI ((k : Nat) : Int)))] := hl
  obtain ⟨hc1, hc2, hc3⟩ := sChr_ok i hi k hk
  obtain ⟨hb1, -, -⟩ := sLe8_ok i hi
  refine lv_iload_n hx hb dJ1_charAt_3b067_0 rfl (lv_at hl 1 rfl) ?_
  refine lv_aload_n hx hb dJ1_charAt_3b067_1 rfl (lv_at hl 0 rfl) ?_
  refine va_tlen hx hb ((hT.2.1.1 i hi).2.2.2) w.2.2.2.1 hb1 dJ1_charAt_3b067_2 ?_
  refine z_fin_v (Wr := []) (zRunS (As := [.int (zI ((k : Nat) : Int)), .int (zI ((sLe8.getD i 0 : Nat) : Int))]) (rest := []) ⟨hx, hb, hml, hown, hts⟩ (c_J0_checkIndex l D adK adV k (sLe8.getD i 0) hk (by omega)) (va_cwS 2 hts gJ1_charAt_3b067_J0_checkIndex_df160 rfl rfl rfl (by decide +kernel) ⟨Nat.le_of_ble_eq_true rfl, Nat.le_of_ble_eq_true rfl⟩) w zES_b (zES_h hT w [] rfl rfl) [] rfl rfl rfl hl.1 rfl (lv_room (Nat.le_of_ble_eq_true rfl)) dJ1_charAt_3b067_3 ⟨Nat.zero_le _, Nat.zero_le _⟩) w [] rfl [] rfl (by decide) (by decide) (fun W1 H locs hp w => ?_)
  subst hp
  refine lv_aload_n hx hb dJ1_charAt_3b067_6 rfl (lv_at hl 0 rfl) ?_
  refine lv_iload_n hx hb dJ1_charAt_3b067_7 rfl (lv_at hl 1 rfl) ?_
  refine va_tb hx hb ((hT.2.1.1 i hi).2.2.2) w.2.2.2.1 (v := .int ((sBy8.getD i []).getD k 0)) (by rw [zI_nat]; exact vp_in_nI hk (by omega)) (by rw [zI_nat]; show Value.int ((sBy8.getD i []).getD (nI k).toNatClampNeg 0) = _; rw [nI_clamp (by omega)]) dJ1_charAt_3b067_8 ?_
  refine lv_sipush (v := zI 255) hx hb dJ1_charAt_3b067_9 (by decide +kernel) ?_
  refine lv_iand hx hb dJ1_charAt_3b067_12 ?_
  refine lv_i2c hx hb dJ1_charAt_3b067_13 hc1 ?_
  exact z_cret hx hb hr hlocks w dJ1_charAt_3b067_14 (nrC hc2) ⟨rfl, rfl⟩
