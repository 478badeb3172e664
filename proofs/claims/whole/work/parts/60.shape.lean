/-! ===== the shape of an order ===== -/
abbrev zQr (D : zD) (post : Nat → va_W → Prop) : (Nat → Prop) → Array Value → State → Outcome → State → Prop := fun A => va_Qr (S := Nat × va_W) (fun u => post u.1 u.2) (fun u a t => u.1 = a ∧ zB1 D A u.2 t) A
section ZREF
variable {p : Program} {l : Launch} {e : Env} {R : Room} {s : State} {m : MethodId} {args : Array Value} {below : List Frame} {meth : Method} {c : Code} {H : Heap} {locs : List Loc} {cells slots : Nat} {Q : State → Prop}
variable {cc : ByteArray} {pc : Nat} {ls : Array Slot} {rest st0 : List Value} {D : zD} {A : Nat → Prop} {ws Wc Wr W1 : va_W} {H0 : Heap}
theorem z_rret {C : String} {post : Nat → va_W → Prop} {v : Nat} (hx : p.tables.exec = Jvm.exec) (hb : c.code = cc) (hr : meth.sig.returnType = some (.object C)) (hlocks : meth.locks = false) (w : zW D A s.heap s W1 H locs) (hdg : decode cc pc = .ok (.areturn, 1)) (hp : post v W1) : W p l e R s m args below meth c H locs cells slots (MQ below (zQr D post A) args s cells slots A) (F0 m pc ls [.ref v]) :=
  W.aret hx hb hr (Or.inl ⟨C, rfl⟩) (Or.inr ⟨v, rfl⟩) (fun t ht hW => ⟨⟨(v, W1), v, rfl, hp, rfl, ⟨by rw [ht]; exact w.2.1, w.2.2.1⟩⟩, w.2.2.2.1.F ht⟩) w.2.2.2.1.2.2 hdg hlocks
theorem z_fin_r {post : Nat → va_W → Prop} {a : Array Value} (hr : va_Run p l e R s m args below meth c H locs cells slots 0 0 (F0 m pc ls st0) rest (zQr D post (va_A Wc H.size) a) (va_A Wc H.size)) (w : zW D A H0 s ws H locs) (isC : List Nat) (hC : isC.map (fun i => ws[i]?) = Wc.map some) (isR : List Nat) (hR : isR.map (fun i => ws[i]?) = Wr.map some) (hn : va_nd isR = true) (hdis : ∀ i ∈ isR, i ∉ isC)
    (kk : ∀ (r : Nat) (W1 : va_W) (H1 : Heap) (locs1 : List Loc), post r W1 → zW D A H0 s (Wr ++ W1) H1 locs1 → W p l e R s m args below meth c H1 locs1 cells slots Q (F0 m (pc + 3) ls (.ref r :: rest))) : W p l e R s m args below meth c H locs cells slots Q (F0 m pc ls st0) := by
  have hF := va_free w.2.2.1 w.2.2.2.1 w.2.2.2.2 isC hC
  refine va_callr hr w.2.2.2.1 (fun q _ h => hF q h) hF (fun u ra t H1 locs1 ht hvm hw hB hz hk hS => ?_)
  obtain ⟨u1, u2⟩ := u
  obtain ⟨e1, hB⟩ := hB
  have e2 : u1 = ra := e1
  subst e2
  have hP1 := hB.1
  rw [ht] at hP1
  have hj := va_join w.2.1 w.2.2.1 isC isR hC hR hn hdis hk hF hP1 hB.2
  exact kk u1 u2 H1 locs1 hw ⟨w.1, hj.1, hj.2, hS, w.2.2.2.2⟩
end ZREF
def kI (ch : Nat) : Nat := if ch = 105 then 0 else if ch = 108 then 1 else if ch = 114 then 2 else if ch = 115 then 3 else if ch = 120 then 4 else if ch = 45 then 5 else 6

set_option maxRecDepth 100000 in
theorem c_X3_shapeOf (l : Launch) (D : zD) (adK adV : Nat → Nat) (ch : Nat) (hch : ch < 65536) : zM l yX3_shapeOf wsX3_shapeOf (zR 0) (zES adK adV []) D [.int (zI ((ch : Nat) : Int))] [] (zQr D (fun r W1 => r = adK (kI ch) ∧ W1 = [])) := by
  refine zM.ofS (cc := cX3_shapeOf) (maxL := 1) (ret := some (.object "java/lang/String")) (by decide) rfl (Nat.le_of_ble_eq_true rfl) ?_
  intro p e s m below meth c A hx hb hml hown hts hr hlocks hT hnm w ls hl
  have hown : s.vm.findClass RX3 = some m.cls := hown
  have hl : lv_has ls 1 [(0, .int (zI ((ch : Nat) : Int)))] := hl
  refine lv_iload_n hx hb dX3_shapeOf_0 rfl (lv_at hl 0 rfl) ?_
  rcases (show ch = 45 ∨ ch = 105 ∨ ch = 108 ∨ ch = 114 ∨ ch = 115 ∨ ch = 120 ∨ (¬ ch = 45 ∧ ¬ ch = 105 ∧ ¬ ch = 108 ∧ ¬ ch = 114 ∧ ¬ ch = 115 ∧ ¬ ch = 120) by omega) with rfl | rfl | rfl | rfl | rfl | rfl | ⟨h1, h2, h3, h4, h5, h6⟩
  · refine z_lswit (tgt := 75) hx hb (by omega) dX3_shapeOf_1 (by decide) (off := 74) (by decide) (by decide) ?_
    refine va_ldcS hx hb hown (hT.1 5 (by decide)) dX3_shapeOf_75 ?_
    exact z_rret hx hb hr hlocks w dX3_shapeOf_77 ⟨rfl, rfl⟩
  · refine z_lswit (tgt := 60) hx hb (by omega) dX3_shapeOf_1 (by decide) (off := 59) (by decide) (by decide) ?_
    refine va_ldcS hx hb hown (hT.1 0 (by decide)) dX3_shapeOf_60 ?_
    exact z_rret hx hb hr hlocks w dX3_shapeOf_62 ⟨rfl, rfl⟩
  · refine z_lswit (tgt := 63) hx hb (by omega) dX3_shapeOf_1 (by decide) (off := 62) (by decide) (by decide) ?_
    refine va_ldcS hx hb hown (hT.1 1 (by decide)) dX3_shapeOf_63 ?_
    exact z_rret hx hb hr hlocks w dX3_shapeOf_65 ⟨rfl, rfl⟩
  · refine z_lswit (tgt := 66) hx hb (by omega) dX3_shapeOf_1 (by decide) (off := 65) (by decide) (by decide) ?_
    refine va_ldcS hx hb hown (hT.1 2 (by decide)) dX3_shapeOf_66 ?_
    exact z_rret hx hb hr hlocks w dX3_shapeOf_68 ⟨rfl, rfl⟩
  · refine z_lswit (tgt := 69) hx hb (by omega) dX3_shapeOf_1 (by decide) (off := 68) (by decide) (by decide) ?_
    refine va_ldcS hx hb hown (hT.1 3 (by decide)) dX3_shapeOf_69 ?_
    exact z_rret hx hb hr hlocks w dX3_shapeOf_71 ⟨rfl, rfl⟩
  · refine z_lswit (tgt := 72) hx hb (by omega) dX3_shapeOf_1 (by decide) (off := 71) (by decide) (by decide) ?_
    refine va_ldcS hx hb hown (hT.1 4 (by decide)) dX3_shapeOf_72 ?_
    exact z_rret hx hb hr hlocks w dX3_shapeOf_74 ⟨rfl, rfl⟩
  · skip
    have n1 : ¬ ((ch : Nat) : Int) = 45 := by omega
    have n2 : ¬ ((ch : Nat) : Int) = 105 := by omega
    have n3 : ¬ ((ch : Nat) : Int) = 108 := by omega
    have n4 : ¬ ((ch : Nat) : Int) = 114 := by omega
    have n5 : ¬ ((ch : Nat) : Int) = 115 := by omega
    have n6 : ¬ ((ch : Nat) : Int) = 120 := by omega
    refine z_lswit (tgt := 78) hx hb (by omega) dX3_shapeOf_1 (by decide) (off := 77) (by simp [Op.lookupswitch.offset, n1, n2, n3, n4, n5, n6, Ne.symm n1, Ne.symm n2, Ne.symm n3, Ne.symm n4, Ne.symm n5, Ne.symm n6]) (by decide) ?_
    refine va_ldcS hx hb hown (hT.1 6 (by decide)) dX3_shapeOf_78 ?_
    exact z_rret hx hb hr hlocks w dX3_shapeOf_80 ⟨by unfold kI; rw [if_neg h2, if_neg h3, if_neg h4, if_neg h5, if_neg h6, if_neg h1], rfl⟩
