set_option maxHeartbeats 4000000 in
set_option maxRecDepth 100000 in
theorem law_loop {p : Program} {e : Env} {s : State} {m : MethodId} {below : List Frame} {meth : Method} {c : Code} (l : Launch) (D : zD) {b L0 : Nat} {xs : Nat → Int32} (hL : L0 ≤ 2560) (hr : meth.sig.returnType = ret) (hlocks : meth.locks = false) (hx : p.tables.exec = Jvm.exec) (hb : c.code = cL_law) (hml : c.maxLocals = 4) (hown : s.vm.findClass RL = some m.cls) (hts : ∀ w ∈ wsL_law, w.before #[Value.ref b] s = true) (hX : va_X b L0 xs s s.heap) (hbl : b < s.heap.size) (adK adV : Nat → Nat) (hT0 : zSt adK adV (lwA s) s s.heap) (hxo ho hm hg hbu hs hp hw hz h0 h1 h2 hl0 hh hst hsa hsv hpd9 htx hnu hse hlf hwb hmt hmo ha hth hpa hsl hhe hpd hor : Nat) (ad as : Nat → Nat → Nat) (Gs Gl : Nat → Nat → Int32)  : ∀ (n i : Nat) (nx : Nat) (ck : Nat) (Rg : Nat → Nat → Int) (P : Nat → Int) (S : Nat → Int) (G : Nat → Int32) (Sl : Nat → Nat → Int) (hb9 : Nat → Int) (L9 : Nat → Int) (pl : Nat) (a : Nat) (kk : Nat) (rd : Nat) (T : Nat → Nat) (Q : Nat → Int) (L : Nat → Int32) (Wb : Nat → Int32) (TT : Nat → Int32) (a7 : Nat) (od7 : Nat) (T9 : Nat → Int64) (Q7 : Nat → Int), L0 < n + i → i ≤ L0 + 5 → LRel (8000 * (i : Int)) nx ck Rg P S hb9 Sl L9 pl T Q Q7 → ∀ (H : Heap) (locs : List Loc) (ls : Array Slot), zW D (lwA s) s.heap s ((wLC D hxo ho hm hg hbu hs hp hw hz h0 h1 h2 hl0 hh hst hsa hsv hpd9 htx hnu hse hlf hwb hmt ad as Gs Gl nx ck Rg S G Sl hb9 pl a kk rd T Q L Wb TT) ++ (wLR D hmo ha hth hpa hsl hhe hpd hor ck pl a7 od7 T9 P S L9 hb9 T Q7)) H locs → lv_has ls 4 [(3, .int (zI ((i : Nat) : Int))), (2, .ref hmo), (1, .ref hxo), (0, .ref b)] → W p l e room_1 s m #[Value.ref b] below meth c H locs 140 2304 (lw_Z below #[Value.ref b] s) (F0 m 18 ls []) := by
  intro n
  induction n with
  | zero =>
    intro i nx ck Rg P S G Sl hb9 L9 pl a kk rd T Q L Wb TT a7 od7 T9 Q7 hf hi5 hR H locs ls w hl
    refine lv_iload_n hx hb dL_law_18 rfl (lv_at hl 0 rfl) ?_
    refine lv_aload_n hx hb dL_law_19 rfl (lv_at hl 3 rfl) ?_
    refine z_slen hx hb hX hbl w dL_law_20 ?_
    refine lv_iconst (v := zI 5) hx hb dL_law_21 rfl ?_
    refine z_isub hx hb dL_law_22 ?_
    refine z_icmp_gt (tgt := 737) hx hb (by omega) (by omega) dL_law_23 (by decide) (fun c23 => ?_) (fun c23 => ?_)
    · skip
      refine lv_iconst (v := zI 1) hx hb dL_law_737 rfl ?_
      refine va_forget (fun q hq => w.2.2.2.1.2.2 q hq) ?_
      refine W.widen (k := 600000) (n := 7302250) (Nat.le_of_ble_eq_true rfl) (Nat.le_of_ble_eq_true rfl) ?_
      exact lw_ret hx hb hr hlocks dL_law_738
    · exact absurd c23 (by omega)
  | succ n ih =>
    intro i nx ck Rg P S G Sl hb9 L9 pl a kk rd T Q L Wb TT a7 od7 T9 Q7 hf hi5 hR H locs ls w hl
    refine lv_iload_n hx hb dL_law_18 rfl (lv_at hl 0 rfl) ?_
    refine lv_aload_n hx hb dL_law_19 rfl (lv_at hl 3 rfl) ?_
    refine z_slen hx hb hX hbl w dL_law_20 ?_
    refine lv_iconst (v := zI 5) hx hb dL_law_21 rfl ?_
    refine z_isub hx hb dL_law_22 ?_
    refine z_icmp_gt (tgt := 737) hx hb (by omega) (by omega) dL_law_23 (by decide) (fun c23 => ?_) (fun c23 => ?_)
    · skip
      refine lv_iconst (v := zI 1) hx hb dL_law_737 rfl ?_
      refine va_forget (fun q hq => w.2.2.2.1.2.2 q hq) ?_
      refine W.widen (k := 600000) (n := 7302250) (Nat.le_of_ble_eq_true rfl) (Nat.le_of_ble_eq_true rfl) ?_
      exact lw_ret hx hb hr hlocks dL_law_738
    · skip
      have hi : i + 5 ≤ L0 := by omega
      have K : ∀ (nx1 : Nat) (ck1 : Nat) (Rg1 : Nat → Nat → Int) (P1 : Nat → Int) (S1 : Nat → Int) (G1 : Nat → Int32) (Sl1 : Nat → Nat → Int) (hb91 : Nat → Int) (L91 : Nat → Int) (pl1 : Nat) (a1 : Nat) (kk1 : Nat) (rd1 : Nat) (T1 : Nat → Nat) (Q1 : Nat → Int) (L1 : Nat → Int32) (Wb1 : Nat → Int32) (TT1 : Nat → Int32) (a71 : Nat) (od71 : Nat) (T91 : Nat → Int64) (Q71 : Nat → Int), LRel (8000 * (i : Int) + 8000) nx1 ck1 Rg1 P1 S1 hb91 Sl1 L91 pl1 T1 Q1 Q71 → ∀ (H : Heap) (locs : List Loc), zW D (lwA s) s.heap s ((wLC D hxo ho hm hg hbu hs hp hw hz h0 h1 h2 hl0 hh hst hsa hsv hpd9 htx hnu hse hlf hwb hmt ad as Gs Gl nx1 ck1 Rg1 S1 G1 Sl1 hb91 pl1 a1 kk1 rd1 T1 Q1 L1 Wb1 TT1) ++ (wLR D hmo ha hth hpa hsl hhe hpd hor ck1 pl1 a71 od71 T91 P1 S1 L91 hb91 T1 Q71)) H locs → W p l e room_1 s m #[Value.ref b] below meth c H locs 140 2304 (lw_Z below #[Value.ref b] s) (F0 m 731 ls []) := by
        intro nx1 ck1 Rg1 P1 S1 G1 Sl1 hb91 L91 pl1 a1 kk1 rd1 T1 Q1 L1 Wb1 TT1 a71 od71 T91 Q71 hR1 H1 locs1 w1
        refine z_iinc (lv' := [(3, .int (zI (((i : Nat) : Int) + 5))), (2, .ref hmo), (1, .ref hxo), (0, .ref b)]) hx hb dL_law_731 hl (k := 0) rfl (by decide) rfl (fun ls hl => ?_)
        refine lv_goto (tgt := 18) hx hb dL_law_734 (by decide) ?_
        exact ih (i + 5) nx1 ck1 Rg1 P1 S1 G1 Sl1 hb91 L91 pl1 a1 kk1 rd1 T1 Q1 L1 Wb1 TT1 a71 od71 T91 Q71 (by omega) (by omega) (LRel_le hR1 (by omega)) H1 locs1 ls w1 hl
      refine lv_aload_n hx hb dL_law_26 rfl (lv_at hl 3 rfl) ?_
      refine lv_iload_n hx hb dL_law_27 rfl (lv_at hl 0 rfl) ?_
      obtain ⟨x0, hx0, hxb0⟩ := i32_x (xs i)
      refine z_sld hx hb hX hbl w i rfl (by omega) hL hx0 dL_law_28 ?_
      refine lv_bipush (v := zI 31) hx hb dL_law_29 (by decide +kernel) ?_
      refine lv_iand hx hb dL_law_31 ?_
      obtain ⟨k9, hk9, e9⟩ := i32_31 (zI x0)
      rw [show zI x0 &&& zI 31 = zI (k9 : Int) from e9]
      have hB9 : 8000 * (i : Int) ≤ 1800000000 := by omega
      rcases (show k9 = 0 ∨ k9 = 1 ∨ k9 = 2 ∨ k9 = 3 ∨ k9 = 4 ∨ k9 = 5 ∨ k9 = 6 ∨ k9 = 7 ∨ k9 = 8 ∨ k9 = 9 ∨ k9 = 10 ∨ k9 = 11 ∨ k9 = 12 ∨ k9 = 13 ∨ k9 = 14 ∨ k9 = 15 ∨ k9 = 16 ∨ k9 = 17 ∨ k9 = 18 ∨ k9 = 19 ∨ k9 = 20 ∨ k9 = 21 ∨ k9 = 22 ∨ 23 ≤ k9 by omega) with rfl | rfl | rfl | rfl | rfl | rfl | rfl | rfl | rfl | rfl | rfl | rfl | rfl | rfl | rfl | rfl | rfl | rfl | rfl | rfl | rfl | rfl | rfl | h9
      · skip
        refine z_tswit (tgt := 140) hx hb (by omega) dL_law_32 (by omega) (by omega) (off := 108) (by decide) (by decide) ?_
        exact law_item l D hL hx hb hml hown hts hX hbl adK adV hT0 hxo ho hm hg hbu hs hp hw hz h0 h1 h2 hl0 hh hst hsa hsv hpd9 htx hnu hse hlf hwb hmt hmo ha hth hpa hsl hhe hpd hor ad as Gs Gl nx ck Rg P S G Sl hb9 L9 pl a kk rd T Q L Wb TT a7 od7 T9 Q7 i hi _ hB9 hR H locs ls w hl K
      · skip
        refine z_tswit (tgt := 193) hx hb (by omega) dL_law_32 (by omega) (by omega) (off := 161) (by decide) (by decide) ?_
        exact law_drop l D hL hx hb hml hown hts hX hbl adK adV hT0 hxo ho hm hg hbu hs hp hw hz h0 h1 h2 hl0 hh hst hsa hsv hpd9 htx hnu hse hlf hwb hmt hmo ha hth hpa hsl hhe hpd hor ad as Gs Gl nx ck Rg P S G Sl hb9 L9 pl a kk rd T Q L Wb TT a7 od7 T9 Q7 i hi _ hB9 hR H locs ls w hl K
      · skip
        refine z_tswit (tgt := 216) hx hb (by omega) dL_law_32 (by omega) (by omega) (off := 184) (by decide) (by decide) ?_
        exact law_limit l D hL hx hb hml hown hts hX hbl adK adV hT0 hxo ho hm hg hbu hs hp hw hz h0 h1 h2 hl0 hh hst hsa hsv hpd9 htx hnu hse hlf hwb hmt hmo ha hth hpa hsl hhe hpd hor ad as Gs Gl nx ck Rg P S G Sl hb9 L9 pl a kk rd T Q L Wb TT a7 od7 T9 Q7 i hi _ hB9 hR H locs ls w hl K
      · skip
        refine z_tswit (tgt := 249) hx hb (by omega) dL_law_32 (by omega) (by omega) (off := 217) (by decide) (by decide) ?_
        exact law_rule l D hL hx hb hml hown hts hX hbl adK adV hT0 hxo ho hm hg hbu hs hp hw hz h0 h1 h2 hl0 hh hst hsa hsv hpd9 htx hnu hse hlf hwb hmt hmo ha hth hpa hsl hhe hpd hor ad as Gs Gl nx ck Rg P S G Sl hb9 L9 pl a kk rd T Q L Wb TT a7 od7 T9 Q7 i hi _ hB9 hR H locs ls w hl K
      · skip
        refine z_tswit (tgt := 282) hx hb (by omega) dL_law_32 (by omega) (by omega) (off := 250) (by decide) (by decide) ?_
        exact law_multiplier l D hL hx hb hml hown hts hX hbl adK adV hT0 hxo ho hm hg hbu hs hp hw hz h0 h1 h2 hl0 hh hst hsa hsv hpd9 htx hnu hse hlf hwb hmt hmo ha hth hpa hsl hhe hpd hor ad as Gs Gl nx ck Rg P S G Sl hb9 L9 pl a kk rd T Q L Wb TT a7 od7 T9 Q7 i hi _ hB9 hR H locs ls w hl K
      · skip
        refine z_tswit (tgt := 315) hx hb (by omega) dL_law_32 (by omega) (by omega) (off := 283) (by decide) (by decide) ?_
        exact law_step l D hL hx hb hml hown hts hX hbl adK adV hT0 hxo ho hm hg hbu hs hp hw hz h0 h1 h2 hl0 hh hst hsa hsv hpd9 htx hnu hse hlf hwb hmt hmo ha hth hpa hsl hhe hpd hor ad as Gs Gl nx ck Rg P S G Sl hb9 L9 pl a kk rd T Q L Wb TT a7 od7 T9 Q7 i hi _ hB9 hR H locs ls w hl K
      · skip
        refine z_tswit (tgt := 338) hx hb (by omega) dL_law_32 (by omega) (by omega) (off := 306) (by decide) (by decide) ?_
        exact law_repair l D hL hx hb hml hown hts hX hbl adK adV hT0 hxo ho hm hg hbu hs hp hw hz h0 h1 h2 hl0 hh hst hsa hsv hpd9 htx hnu hse hlf hwb hmt hmo ha hth hpa hsl hhe hpd hor ad as Gs Gl nx ck Rg P S G Sl hb9 L9 pl a kk rd T Q L Wb TT a7 od7 T9 Q7 i hi _ hB9 hR H locs ls w hl K
      · skip
        refine z_tswit (tgt := 351) hx hb (by omega) dL_law_32 (by omega) (by omega) (off := 319) (by decide) (by decide) ?_
        exact law_ofItem l D hL hx hb hml hown hts hX hbl adK adV hT0 hxo ho hm hg hbu hs hp hw hz h0 h1 h2 hl0 hh hst hsa hsv hpd9 htx hnu hse hlf hwb hmt hmo ha hth hpa hsl hhe hpd hor ad as Gs Gl nx ck Rg P S G Sl hb9 L9 pl a kk rd T Q L Wb TT a7 od7 T9 Q7 i hi _ hB9 hR H locs ls w hl K
      · skip
        refine z_tswit (tgt := 384) hx hb (by omega) dL_law_32 (by omega) (by omega) (off := 352) (by decide) (by decide) ?_
        exact law_ofDimension l D hL hx hb hml hown hts hX hbl adK adV hT0 hxo ho hm hg hbu hs hp hw hz h0 h1 h2 hl0 hh hst hsa hsv hpd9 htx hnu hse hlf hwb hmt hmo ha hth hpa hsl hhe hpd hor ad as Gs Gl nx ck Rg P S G Sl hb9 L9 pl a kk rd T Q L Wb TT a7 od7 T9 Q7 i hi _ hB9 hR H locs ls w hl K
      · skip
        refine z_tswit (tgt := 417) hx hb (by omega) dL_law_32 (by omega) (by omega) (off := 385) (by decide) (by decide) ?_
        exact law_bundle l D hL hx hb hml hown hts hX hbl adK adV hT0 hxo ho hm hg hbu hs hp hw hz h0 h1 h2 hl0 hh hst hsa hsv hpd9 htx hnu hse hlf hwb hmt hmo ha hth hpa hsl hhe hpd hor ad as Gs Gl nx ck Rg P S G Sl hb9 L9 pl a kk rd T Q L Wb TT a7 od7 T9 Q7 i hi _ hB9 hR H locs ls w hl K
      · skip
        refine z_tswit (tgt := 440) hx hb (by omega) dL_law_32 (by omega) (by omega) (off := 408) (by decide) (by decide) ?_
        exact law_count l D hL hx hb hml hown hts hX hbl adK adV hT0 hxo ho hm hg hbu hs hp hw hz h0 h1 h2 hl0 hh hst hsa hsv hpd9 htx hnu hse hlf hwb hmt hmo ha hth hpa hsl hhe hpd hor ad as Gs Gl nx ck Rg P S G Sl hb9 L9 pl a kk rd T Q L Wb TT a7 od7 T9 Q7 i hi _ hB9 hR H locs ls w hl K
      · skip
        refine z_tswit (tgt := 463) hx hb (by omega) dL_law_32 (by omega) (by omega) (off := 431) (by decide) (by decide) ?_
        exact law_bound l D hL hx hb hml hown hts hX hbl adK adV hT0 hxo ho hm hg hbu hs hp hw hz h0 h1 h2 hl0 hh hst hsa hsv hpd9 htx hnu hse hlf hwb hmt hmo ha hth hpa hsl hhe hpd hor ad as Gs Gl nx ck Rg P S G Sl hb9 L9 pl a kk rd T Q L Wb TT a7 od7 T9 Q7 i hi _ hB9 hR H locs ls w hl K
      · skip
        refine z_tswit (tgt := 487) hx hb (by omega) dL_law_32 (by omega) (by omega) (off := 455) (by decide) (by decide) ?_
        exact law_boundThen l D hL hx hb hml hown hts hX hbl adK adV hT0 hxo ho hm hg hbu hs hp hw hz h0 h1 h2 hl0 hh hst hsa hsv hpd9 htx hnu hse hlf hwb hmt hmo ha hth hpa hsl hhe hpd hor ad as Gs Gl nx ck Rg P S G Sl hb9 L9 pl a kk rd T Q L Wb TT a7 od7 T9 Q7 i hi _ hB9 hR H locs ls w hl K
      · skip
        refine z_tswit (tgt := 501) hx hb (by omega) dL_law_32 (by omega) (by omega) (off := 469) (by decide) (by decide) ?_
        exact law_best l D hL hx hb hml hown hts hX hbl adK adV hT0 hxo ho hm hg hbu hs hp hw hz h0 h1 h2 hl0 hh hst hsa hsv hpd9 htx hnu hse hlf hwb hmt hmo ha hth hpa hsl hhe hpd hor ad as Gs Gl nx ck Rg P S G Sl hb9 L9 pl a kk rd T Q L Wb TT a7 od7 T9 Q7 i hi _ hB9 hR H locs ls w hl K
      · skip
        refine z_tswit (tgt := 524) hx hb (by omega) dL_law_32 (by omega) (by omega) (off := 492) (by decide) (by decide) ?_
        exact law_worthOf l D hL hx hb hml hown hts hX hbl adK adV hT0 hxo ho hm hg hbu hs hp hw hz h0 h1 h2 hl0 hh hst hsa hsv hpd9 htx hnu hse hlf hwb hmt hmo ha hth hpa hsl hhe hpd hor ad as Gs Gl nx ck Rg P S G Sl hb9 L9 pl a kk rd T Q L Wb TT a7 od7 T9 Q7 i hi _ hB9 hR H locs ls w hl K
      · skip
        refine z_tswit (tgt := 557) hx hb (by omega) dL_law_32 (by omega) (by omega) (off := 525) (by decide) (by decide) ?_
        exact law_repaired l D hL hx hb hml hown hts hX hbl adK adV hT0 hxo ho hm hg hbu hs hp hw hz h0 h1 h2 hl0 hh hst hsa hsv hpd9 htx hnu hse hlf hwb hmt hmo ha hth hpa hsl hhe hpd hor ad as Gs Gl nx ck Rg P S G Sl hb9 L9 pl a kk rd T Q L Wb TT a7 od7 T9 Q7 i hi _ hB9 hR H locs ls w hl K
      · skip
        refine z_tswit (tgt := 580) hx hb (by omega) dL_law_32 (by omega) (by omega) (off := 548) (by decide) (by decide) ?_
        exact law_put l D hL hx hb hml hown hts hX hbl adK adV hT0 hxo ho hm hg hbu hs hp hw hz h0 h1 h2 hl0 hh hst hsa hsv hpd9 htx hnu hse hlf hwb hmt hmo ha hth hpa hsl hhe hpd hor ad as Gs Gl nx ck Rg P S G Sl hb9 L9 pl a kk rd T Q L Wb TT a7 od7 T9 Q7 i hi _ hB9 hR H locs ls w hl K
      · skip
        refine z_tswit (tgt := 633) hx hb (by omega) dL_law_32 (by omega) (by omega) (off := 601) (by decide) (by decide) ?_
        exact law_wipe l D hL hx hb hml hown hts hX hbl adK adV hT0 hxo ho hm hg hbu hs hp hw hz h0 h1 h2 hl0 hh hst hsa hsv hpd9 htx hnu hse hlf hwb hmt hmo ha hth hpa hsl hhe hpd hor ad as Gs Gl nx ck Rg P S G Sl hb9 L9 pl a kk rd T Q L Wb TT a7 od7 T9 Q7 i hi _ hB9 hR H locs ls w hl K
      · skip
        refine z_tswit (tgt := 646) hx hb (by omega) dL_law_32 (by omega) (by omega) (off := 614) (by decide) (by decide) ?_
        exact law_fault l D hL hx hb hml hown hts hX hbl adK adV hT0 hxo ho hm hg hbu hs hp hw hz h0 h1 h2 hl0 hh hst hsa hsv hpd9 htx hnu hse hlf hwb hmt hmo ha hth hpa hsl hhe hpd hor ad as Gs Gl nx ck Rg P S G Sl hb9 L9 pl a kk rd T Q L Wb TT a7 od7 T9 Q7 i hi _ hB9 hR H locs ls w hl K
      · skip
        refine z_tswit (tgt := 659) hx hb (by omega) dL_law_32 (by omega) (by omega) (off := 627) (by decide) (by decide) ?_
        exact law_carryOut l D hL hx hb hml hown hts hX hbl adK adV hT0 hxo ho hm hg hbu hs hp hw hz h0 h1 h2 hl0 hh hst hsa hsv hpd9 htx hnu hse hlf hwb hmt hmo ha hth hpa hsl hhe hpd hor ad as Gs Gl nx ck Rg P S G Sl hb9 L9 pl a kk rd T Q L Wb TT a7 od7 T9 Q7 i hi _ hB9 hR H locs ls w hl K
      · skip
        refine z_tswit (tgt := 672) hx hb (by omega) dL_law_32 (by omega) (by omega) (off := 640) (by decide) (by decide) ?_
        exact law_undo l D hL hx hb hml hown hts hX hbl adK adV hT0 hxo ho hm hg hbu hs hp hw hz h0 h1 h2 hl0 hh hst hsa hsv hpd9 htx hnu hse hlf hwb hmt hmo ha hth hpa hsl hhe hpd hor ad as Gs Gl nx ck Rg P S G Sl hb9 L9 pl a kk rd T Q L Wb TT a7 od7 T9 Q7 i hi _ hB9 hR H locs ls w hl K
      · skip
        refine z_tswit (tgt := 685) hx hb (by omega) dL_law_32 (by omega) (by omega) (off := 653) (by decide) (by decide) ?_
        exact law_save l D hL hx hb hml hown hts hX hbl adK adV hT0 hxo ho hm hg hbu hs hp hw hz h0 h1 h2 hl0 hh hst hsa hsv hpd9 htx hnu hse hlf hwb hmt hmo ha hth hpa hsl hhe hpd hor ad as Gs Gl nx ck Rg P S G Sl hb9 L9 pl a kk rd T Q L Wb TT a7 od7 T9 Q7 i hi _ hB9 hR H locs ls w hl K
      · skip
        refine z_tswit (tgt := 708) hx hb (by omega) dL_law_32 (by omega) (by omega) (off := 676) (by decide) (by decide) ?_
        exact law_restore l D hL hx hb hml hown hts hX hbl adK adV hT0 hxo ho hm hg hbu hs hp hw hz h0 h1 h2 hl0 hh hst hsa hsv hpd9 htx hnu hse hlf hwb hmt hmo ha hth hpa hsl hhe hpd hor ad as Gs Gl nx ck Rg P S G Sl hb9 L9 pl a kk rd T Q L Wb TT a7 od7 T9 Q7 i hi _ hB9 hR H locs ls w hl K
      · skip
        refine z_tswitD (tgt := 731) hx hb (by omega) dL_law_32 (by omega) (by decide) ?_
        exact K nx ck Rg P S G Sl hb9 L9 pl a kk rd T Q L Wb TT a7 od7 T9 Q7 (LRel_le hR (by omega)) H locs w
