/-! ===== String's own methods on the texts ===== -/
theorem zM.ofSF {l : Launch} {y : MethodName} {ws ws' : List Cond} {rm : Room} {adK adV : Nat → Nat} {D : zD} {av : List Value} {W0 : va_W} {Qf : (Nat → Prop) → Array Value → State → Outcome → State → Prop} {cc : ByteArray} {maxL : Nat} {ret : Option FieldType} (hy : plainFor y = true) (hw : ws = Cond.code y cc maxL ret :: ws') (hlen : (lg_sl av).length ≤ maxL)
    (body : ∀ (p : Program) (e : Env) (s : State) (m : MethodId) (below : List Frame) (meth : Method) (c : Code) (A : Nat → Prop), p.tables.exec = Jvm.exec → c.code = cc → c.maxLocals = maxL → s.vm.findClass y.cls = some m.cls → (∀ w ∈ ws, w.before av.toArray s = true) → meth.sig.returnType = ret → meth.locks = false → zSt adK adV A s s.heap → (meth.name = y.name) → zW D A s.heap s W0 s.heap [] → ∀ ls : Array Slot, lv_has ls maxL (lv_args 0 av) →
      W p l e rm s m av.toArray below meth c s.heap [] 0 0 (MQ below (Qf A) av.toArray s 0 0 A) (F0 m 0 ls [])) : zM l y ws rm (zES adK adV W0) D av W0 Qf := by
  intro sz
  refine va_MetF (cc := cc) (maxL := maxL) (ret := ret) hy hw ?_
  intro p e s m args below meth c s₁ B hml hv
  obtain ⟨rfl, hsz, hP, hK, hD0, hE⟩ := hv
  subst hsz
  have hl := lv_entry av (n := maxL) hlen
  rw [lg_entry_eq]
  exact body p e s m below meth c _ B.exec B.bytes hml (findClass_of_methodNamed B.named) (atoms_spec (ws := ws) B.pre) B.returns B.notSynchronized hE (name_of_methodNamed B.named B.method).1 ⟨hK, hP, hD0.self, va_S.rf, fun q h => Or.inr h⟩ _ hl
section ZSTR
variable {p : Program} {l : Launch} {e : Env} {R : Room} {s : State} {m : MethodId} {args : Array Value} {below : List Frame} {meth : Method} {c : Code} {H : Heap} {locs : List Loc} {cells slots : Nat} {Q : State → Prop}
variable {cc : ByteArray} {pc : Nat} {ls : Array Slot} {rest st0 : List Value} {D : zD} {A : Nat → Prop} {ws Wc Wr W1 : va_W} {nL : Nat} {Ts : List Cond} {own : String}
variable {y : MethodName} {bytes : ByteArray} {maxL n index : Nat} {ret : Option FieldType} {wsy : List Cond} {rm : Room} {As : List Value} {Qf : (Nat → Prop) → Array Value → State → Outcome → State → Prop} {adK adV : Nat → Nat} {i : Nat}
theorem z_bret {post : Int32 → va_W → Prop} {v : Int32} (hx : p.tables.exec = Jvm.exec) (hb : c.code = cc) (hr : meth.sig.returnType = some .byte) (hlocks : meth.locks = false) (w : zW D A s.heap s W1 H locs) (hdg : decode cc pc = .ok (.ireturn, 1)) (hv : narrow .byte (.int v) = .int v) (hp : post v W1) : W p l e R s m args below meth c H locs cells slots (MQ below (zQi D post A) args s cells slots A) (F0 m pc ls [.int v]) :=
  W.zret hx hb hr hv (fun t ht hW => ⟨⟨v, W1, rfl, hp, ⟨by rw [ht]; exact w.2.1, w.2.2.1⟩⟩, w.2.2.2.1.F ht⟩) w.2.2.2.1.2.2 hdg hlocks
theorem zRunK (S : CallFix p m c cc nL s args Ts own) (hM : zM l y wsy rm (zES adK adV Wc) D (.ref (adK i) :: As) Wc Qf) (cw : CallW R s args own "java/lang/String" index y bytes maxL ret wsy rm 0 0 n) (w : zW D A s.heap s ws H locs) (hT : zSt adK adV A s s.heap) (hi : i < 7) (isC : List Nat) (hC : isC.map (fun i => ws[i]?) = Wc.map some) (hnC : va_nd isC = true) (hlen : As.length = n) (hsize : ls.size = nL) (hst : st0 = As.reverse ++ .ref (adK i) :: rest) (hW : 2 * (F0 m pc ls st0).monitorRoom + (rest.map fun v => v.category).sum ≤ 8) (hdg : decode cc pc = .ok (.invokevirtual index, 3)) (hf : cells ≤ R.cells ∧ slots ≤ R.slots) : va_Run p l e R s m args below meth c H locs cells slots 0 0 (F0 m pc ls st0) rest (Qf (va_A Wc H.size) (.ref (adK i) :: As).toArray) (va_A Wc H.size) :=
  va_runV S (hM H.size) cw ⟨zPc_blind zES_b, vk_recv hT.2.1 hi w.2.2.2.1, fun U hU hW => ⟨rfl, by rw [hU], by rw [hU]; exact (w.sub isC hnC hC).2.1, w.1.warm hW, (w.sub isC hnC hC).2.2.1.weaken (fun _ _ _ _ => trivial), zES_h hT w isC hC hnC U hU hW⟩⟩ rfl hlen hsize hst hW hdg hf
end ZSTR
set_option maxRecDepth 100000 in
theorem c_J0_coder (l : Launch) (D : zD) (adK adV : Nat → Nat) (i : Nat) (hi : i < 7) : zM l yJ0_coder_7d493 wsJ0_coder_7d493 (zR 0) (zES adK adV []) D [.ref (adK i)] [] (zQi D (fun r W1 => r = zI 0 ∧ W1 = [])) := by
  refine zM.ofSF (cc := cJ0_coder_7d493) (maxL := 1) (ret := some .byte) (by decide) rfl (Nat.le_of_ble_eq_true rfl) ?_
  intro p e s m below meth c A hx hb hml hown hts hr hlocks hT hnm w ls hl
  have hown : s.vm.findClass RJ0 = some m.cls := hown
  have hl : lv_has ls 1 [(0, .ref (adK i))] := hl
  have f1 : (Cond.fieldLink RJ0 38 "java/lang/String" "COMPACT_STRINGS" "Z").before _ s = true := hts _ (by decide +kernel)
  have f2 : (Cond.fieldLink RJ0 15 "java/lang/String" "coder" "B").before _ s = true := hts _ (by decide +kernel)
  refine va_gets hx hb hT.2.2.1 w.2.2.2.1 hown f1 (fun _ h => h) dJ0_coder_7d493_0 ?_
  refine lv_if_eq (tgt := 13) hx hb dJ0_coder_7d493_3 (by decide) (fun h => absurd h (by decide)) (fun _ => ?_)
  refine lv_aload_n hx hb dJ0_coder_7d493_6 rfl (lv_at hl 0 rfl) ?_
  refine vk_getf hx hb ((hT.2.1.1 i hi).2.1) w.2.2.2.1 hown f2 (fun _ h => h) dJ0_coder_7d493_7 ?_
  refine lv_goto (tgt := 14) hx hb dJ0_coder_7d493_10 (by decide) ?_
  exact z_bret hx hb hr hlocks w dJ0_coder_7d493_14 (by decide +kernel) ⟨rfl, rfl⟩
set_option maxRecDepth 100000 in
theorem c_J0_isLatin1 (l : Launch) (D : zD) (adK adV : Nat → Nat) (i : Nat) (hi : i < 7) : zM l yJ0_isLatin1_aae02 wsJ0_isLatin1_aae02 (zR 0) (zES adK adV []) D [.ref (adK i)] [] (zQi D (fun r W1 => r = zI 1 ∧ W1 = [])) := by
  refine zM.ofSF (cc := cJ0_isLatin1_aae02) (maxL := 1) (ret := some .boolean) (by decide) rfl (Nat.le_of_ble_eq_true rfl) ?_
  intro p e s m below meth c A hx hb hml hown hts hr hlocks hT hnm w ls hl
  have hown : s.vm.findClass RJ0 = some m.cls := hown
  have hl : lv_has ls 1 [(0, .ref (adK i))] := hl
  have f1 : (Cond.fieldLink RJ0 38 "java/lang/String" "COMPACT_STRINGS" "Z").before _ s = true := hts _ (by decide +kernel)
  have f2 : (Cond.fieldLink RJ0 15 "java/lang/String" "coder" "B").before _ s = true := hts _ (by decide +kernel)
  refine va_gets hx hb hT.2.2.1 w.2.2.2.1 hown f1 (fun _ h => h) dJ0_isLatin1_aae02_0 ?_
  refine lv_if_eq (tgt := 17) hx hb dJ0_isLatin1_aae02_3 (by decide) (fun h => absurd h (by decide)) (fun _ => ?_)
  refine lv_aload_n hx hb dJ0_isLatin1_aae02_6 rfl (lv_at hl 0 rfl) ?_
  refine vk_getf hx hb ((hT.2.1.1 i hi).2.1) w.2.2.2.1 hown f2 (fun _ h => h) dJ0_isLatin1_aae02_7 ?_
  refine lv_if_ne (tgt := 17) hx hb dJ0_isLatin1_aae02_10 (by decide) (fun h => absurd rfl h) (fun _ => ?_)
  refine lv_iconst (v := zI 1) hx hb dJ0_isLatin1_aae02_13 rfl ?_
  refine lv_goto (tgt := 18) hx hb dJ0_isLatin1_aae02_14 (by decide) ?_
  exact z_zret hx hb hr hlocks w dJ0_isLatin1_aae02_18 (by omega) ⟨rfl, rfl⟩
