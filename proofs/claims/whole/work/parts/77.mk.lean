/-! ===== constructors: rows ===== -/
def zR2 (d mc ms : Nat) : Room := { frames := d, cells := mc, slots := ms, locals := 40 * d }
def zEn : State → Prop := fun U => va_AOA .int U ∧ va_AO "RelaxedSteps$State" U
theorem zEn_b : ∀ (U : State) (g : JFrame) (mk : MethodId) (a : Array Value), zEn U → zEn (U.calling g mk a) := fun U g mk a h =>
  ⟨over_moved (a := #[]) (a' := #[]) (u := U) (E := U.calling g mk a) (Vm.Alike.refl U.vm) h.1, va_AO.moved (u := U) (U := U.calling g mk a) (Vm.Alike.refl U.vm) h.2⟩
theorem zEn_h {H : Heap} {s : State} (h : zEn s) : ∀ U : State, U.heap = H → s.WarmedH U.vm → zEn U := fun _ _ hW => ⟨over_moved (a := #[]) (a' := #[]) hW.alike h.1, va_AO.moved hW.alike h.2⟩
def zMc (l : Launch) (y : MethodName) (ws : List Cond) (d mc ms : Nat) (E : State → Prop) (D : zD) (av : List Value) (W0 : va_W) (Qf : (Nat → Prop) → Array Value → State → Outcome → State → Prop) : Prop :=
  ∀ sz : Nat, Met l y ws (zR2 d mc ms) (zPc E D av W0 sz) (Qf (va_A W0 sz)) mc ms (va_A W0 sz)
theorem zMc.of {l : Launch} {y : MethodName} {ws ws' : List Cond} {d mc ms : Nat} {E : State → Prop} {D : zD} {av : List Value} {W0 : va_W} {Qf : (Nat → Prop) → Array Value → State → Outcome → State → Prop} {cc : ByteArray} {maxL : Nat} {ret : Option FieldType} (hy : plainName y.cls = true) (hw : ws = Cond.code y cc maxL ret :: ws') (hlen : (lg_sl av).length ≤ maxL)
    (body : ∀ (p : Program) (e : Env) (s : State) (m : MethodId) (below : List Frame) (meth : Method) (c : Code) (A : Nat → Prop), p.tables.exec = Jvm.exec → c.code = cc → c.maxLocals = maxL → s.vm.findClass y.cls = some m.cls → (∀ w ∈ ws, w.before av.toArray s = true) → meth.sig.returnType = ret → meth.locks = false → E s → (meth.name = y.name) → zW D A s.heap s W0 s.heap [] → ∀ ls : Array Slot, lv_has ls maxL (lv_args 0 av) →
      W p l e (zR2 d mc ms) s m av.toArray below meth c s.heap [] 0 0 (MQ below (Qf A) av.toArray s mc ms A) (F0 m 0 ls [])) : zMc l y ws d mc ms E D av W0 Qf := by
  intro sz
  refine Met.ofW (cc := cc) (maxL := maxL) (ret := ret) hy hw ?_
  intro p e s m args below meth c s₁ B hml hv
  obtain ⟨rfl, hsz, hP, hK, hD0, hE⟩ := hv
  subst hsz
  have hl := lv_entry av (n := maxL) hlen
  rw [lg_entry_eq]
  exact body p e s m below meth c _ B.exec B.bytes hml (findClass_of_methodNamed B.named) (atoms_spec (ws := ws) B.pre) B.returns B.notSynchronized hE (name_of_methodNamed B.named B.method).1 ⟨hK, hP, hD0.self, va_S.rf, fun q h => Or.inr h⟩ _ hl
theorem zT_uq {D : zD} {s : State} {c c0 : ClassId} {ty : FieldType} (h : va_K D.1 vwCl (zT D ++ [(c, ty)]) s) {k : Nat} (hk : (zT D)[k]? = some (c0, ty)) : c = c0 := by
  have h1 := (h.2 k (c0, ty) (by rw [List.getElem?_append_left (List.getElem?_eq_some_iff.mp hk).1]; exact hk)).2
  have h2 := (h.2 6 (c, ty) rfl).2
  cases ty with
  | object C =>
    obtain ⟨_, _, _, _, _, a⟩ := h1
    obtain ⟨_, _, _, _, _, b⟩ := h2
    exact Option.some.inj (b.symm.trans a)
  | _ =>
    have a : s.vm.findClass _ = some c0 := h1
    have b : s.vm.findClass _ = some c := h2
    exact Option.some.inj (b.symm.trans a)
section ZMK
variable {p : Program} {l : Launch} {e : Env} {R : Room} {s : State} {m : MethodId} {args : Array Value} {below : List Frame} {meth : Method} {c : Code} {H : Heap} {locs : List Loc} {cells slots : Nat} {Q : State → Prop}
variable {cc : ByteArray} {pc : Nat} {ls : Array Slot} {rest st0 : List Value} {D : zD} {A : Nat → Prop} {ws Wc Wr W1 : va_W} {H0 : Heap} {nL : Nat} {Ts : List Cond} {own : String}
theorem z_new {C : String} {T : u_T} {N ci index : Nat} (hx : p.tables.exec = Jvm.exec) (hb : c.code = cc) (hts : ∀ w ∈ Ts, w.before args s = true) (hin : ∀ w ∈ u_ws C T N, w ∈ Ts) (ty : Nat → FieldType) (hty : ∀ k, k < N → parseFieldDescriptor (T k).2.2.1 = some (ty k)) (hown : s.vm.findClass own = some m.cls) (hcl : (Cond.classLink own index C).before args s = true) (hinst : (Cond.instantiable C N).before args s = true) (hini : (Cond.initialized C).before args s = true)
    (w : zW D A H0 s ws H locs) (hc : vwCl[ci]? = some (C, T, N)) {fs : List Value} (hfs : ∀ j, j < N → defaultValue (ty j) = vp_V fs j) (hcells : cells + 1 ≤ R.cells) (hslots : slots + N ≤ R.slots) (hdg : decode cc pc = .ok (.new index, 3))
    (kk : ∀ (q : Nat) (H1 : Heap), zW D A H0 s (ws ++ [(q, .inr (ci, fs))]) H1 locs → W p l e R s m args below meth c H1 locs (cells + 1) (slots + N) Q (F0 m (pc + 3) ls (.ref q :: rest))) : W p l e R s m args below meth c H locs cells slots Q (F0 m pc ls rest) :=
  va_new (D := D.1) hx hb hts hin ty hty hown hcl hinst hini w.1.1 w.2.1 w.2.2.1 w.2.2.2.1 w.2.2.2.2 hc hfs hcells hslots hdg (fun q H1 a b d => kk q H1 ⟨w.1, a, b, d, w.2.2.2.2⟩)
theorem z_newa {atype : ArrayType} (hx : p.tables.exec = Jvm.exec) (hb : c.code = cc) (harr : (Cond.arrayClass (newarray.typeOf atype)).before args s = true) {ty : FieldType} (hty : newarray.typeOf atype = ty) (w : zW D A H0 s ws H locs) (k : Nat) (hk : (zT D)[k]? = some (D.2 k, ty))
    {x : Int} {N' : Nat} {a0 : vp_A} (ha : ∀ cA : ClassId, vp_cell cA a0 = arrV cA N' (fun _ => defaultValue ty)) (hxn : x = (N' : Int)) (hN2 : N' < 2147483648) (hbytes : N' * componentBytes ty ≤ 536870912) (hcells : cells + 1 ≤ R.cells) (hslots : slots + N' ≤ R.slots) (hdg : decode cc pc = .ok (.newarray atype, 2))
    (kk : ∀ (q : Nat) (H1 : Heap), zW D A H0 s (ws ++ [(q, .inl (D.2 k, a0))]) H1 locs → W p l e R s m args below meth c H1 locs (cells + 1) (slots + N') Q (F0 m (pc + 2) ls (.ref q :: rest))) : W p l e R s m args below meth c H locs cells slots Q (F0 m pc ls (.int (zI x) :: rest)) := by
  subst hxn
  refine va_newa (D := D.1) hx hb harr hty w.1.1 w.2.1 w.2.2.1 w.2.2.2.1 w.2.2.2.2 ha (zI_nn (by omega) (by omega)) (zI_clamp hN2) hbytes hcells hslots hdg (fun q cA H1 hK a b d => ?_)
  have e9 : cA = D.2 k := zT_uq hK hk
  subst e9
  exact kk q H1 ⟨w.1, a, b, d, w.2.2.2.2⟩
theorem z_newq {index : Nat} (hx : p.tables.exec = Jvm.exec) (hb : c.code = cc) (hown : s.vm.findClass own = some m.cls) (hclink : (Cond.classLink own index "RelaxedSteps$State").before args s = true) (hover : va_AO "RelaxedSteps$State" s) (w : zW D A H0 s ws H locs)
    {x : Int} {N' : Nat} (hxn : x = (N' : Int)) (hN2 : N' < 2147483648) (hbytes : N' * 4 ≤ 536870912) (hcells : cells + 1 ≤ R.cells) (hslots : slots + N' ≤ R.slots) (hdg : decode cc pc = .ok (.anewarray index, 3))
    (kk : ∀ (q : Nat) (H1 : Heap), zW D A H0 s (ws ++ [(q, .inl (D.2 4, N', .inr (.inr (.inr (.inr (fun _ => none))))))]) H1 locs → W p l e R s m args below meth c H1 locs (cells + 1) (slots + N') Q (F0 m (pc + 3) ls (.ref q :: rest))) : W p l e R s m args below meth c H locs cells slots Q (F0 m pc ls (.int (zI x) :: rest)) := by
  subst hxn
  refine va_newq (D := D.1) hx hb hown hclink hover w.1.1 w.2.1 w.2.2.1 w.2.2.2.1 w.2.2.2.2 (zI_nn (by omega) (by omega)) (zI_clamp hN2) hbytes hcells hslots hdg (fun q cA H1 hK a b d => ?_)
  have e9 : cA = D.2 4 := zT_uq (k := 4) hK rfl
  subst e9
  exact kk q H1 ⟨w.1, a, b, d, w.2.2.2.2⟩
/-- new int[3][K'] -/
theorem z_mna {index : Nat} (hx : p.tables.exec = Jvm.exec) (hb : c.code = cc) (hown : s.vm.findClass own = some m.cls) (hclink : (Cond.classLink own index "[[I").before args s = true) (hover : va_AOA .int s) (harr : (Cond.arrayClass .int).before args s = true) (w : zW D A H0 s ws H locs)
    {x y : Int} {K' : Nat} (hxn : x = 3) (hyn : y = (K' : Int)) (hK2 : K' < 134217728) (hcells : cells + 4 ≤ R.cells) (hslots : slots + (3 + 3 * K') ≤ R.slots) (hdg : decode cc pc = .ok (.multianewarray index 2, 4))
    (kk : ∀ (q r0 r1 r2 : Nat) (f : Nat → Option Nat) (H1 : Heap), (f 0 = some r0 ∧ f 1 = some r1 ∧ f 2 = some r2) → zW D A H0 s (ws ++ [(q, .inl (D.2 5, 3, .inr (.inr (.inr (.inr f))))), (r0, .inl (D.2 0, K', .inl (fun _ => 0))), (r1, .inl (D.2 0, K', .inl (fun _ => 0))), (r2, .inl (D.2 0, K', .inl (fun _ => 0)))]) H1 locs → W p l e R s m args below meth c H1 locs (cells + 4) (slots + (3 + 3 * K')) Q (F0 m (pc + 4) ls (.ref q :: rest))) : W p l e R s m args below meth c H locs cells slots Q (F0 m pc ls (.int (zI y) :: .int (zI x) :: rest)) := by
  subst hxn
  subst hyn
  have hcy : s.vm.findClass (FieldType.array .int).toString = some (D.2 0) := (w.1.1.2 0 (D.2 0, .int) rfl).2
  have e0 : ws ++ va_pl [] (fun _ => (.inl (D.2 0, K', .inl (fun _ => 0)) : va_E)) = ws := by show ws ++ [] = ws; rw [List.append_nil]
  refine va_mna (D := D.1) (X := ws) (L := []) (f := fun _ => .inl (D.2 0, K', .inl (fun _ => 0))) (N' := 3) (K' := K') (z := (K', .inl (fun _ => 0))) hx hb hown hclink hover harr hcy w.1.1 (by rw [e0]; exact w.2.1) (by rw [e0]; exact w.2.2.1) w.2.2.2.1 w.2.2.2.2 (by decide) (zI_nn (by omega) (by omega)) (by decide) (zI_clamp (by omega)) (by decide) (by show K' * 4 ≤ 536870912; omega) (by omega) rfl rfl hcells hslots (fun cA => ?_) hdg (fun q r cA H1 hr _ hK a b d => ?_)
  · exact arrV_new cA K' (.int 0)
  · have e9 : cA = D.2 5 := zT_uq (k := 5) hK rfl
    subst e9
    have e1 : va_pl ([] ++ (List.range 3).map r) (vr_up (fun _ => (.inl (D.2 0, K', .inl (fun _ => 0)) : va_E)) ((List.range 3).map r) (.inl (D.2 0, K', .inl (fun _ => 0)))) = [(r 0, .inl (D.2 0, K', .inl (fun _ => 0))), (r 1, .inl (D.2 0, K', .inl (fun _ => 0))), (r 2, .inl (D.2 0, K', .inl (fun _ => 0)))] := by
      show [(r 0, vr_up _ _ _ (r 0)), (r 1, vr_up _ _ _ (r 1)), (r 2, vr_up _ _ _ (r 2))] = _
      have hv : ∀ x, vr_up (fun _ => (.inl (D.2 0, K', .inl (fun _ => 0)) : va_E)) ((List.range 3).map r) (.inl (D.2 0, K', .inl (fun _ => 0))) x = .inl (D.2 0, K', .inl (fun _ => 0)) := fun x => by
        unfold vr_up
        split <;> rfl
      rw [hv, hv, hv]
    rw [e1, List.append_assoc] at a b
    refine W.widen (k := cells + 4) (n := slots + (3 + 3 * K')) (by omega) (by omega) ?_
    exact kk q (r 0) (r 1) (r 2) _ H1 ⟨rfl, rfl, rfl⟩ ⟨w.1, a, b, d, w.2.2.2.2⟩
theorem z_putF {ref C : String} {T : u_T} {N ci index a : Nat} (hx : p.tables.exec = Jvm.exec) (hb : c.code = cc) (hown : s.vm.findClass own = some m.cls) (hts : ∀ w ∈ Ts, w.before args s = true) (w : zW D A H0 s ws H locs) (hin : ∀ w ∈ u_ws C T N, w ∈ Ts) (ty0 : Nat → FieldType) (hty : ∀ k, k < N → parseFieldDescriptor (T k).2.2.1 = some (ty0 k)) (hnm : ∀ a, a < N → ∀ b, b < N → a ≠ b → (T a).2.1 ≠ (T b).2.1) (q0 k : Nat) {fs : List Value} (he : ws[q0]? = some (a, .inr (ci, fs))) (hc : vwCl[ci]? = some (C, T, N)) (hk : k < N)
    (hlink : (Cond.fieldLink own index ref (T k).2.1 (T k).2.2.1).before args s = true) (href : (T k).1 = ref) (hfin : (T k).2.2.2 = true) (hin2 : meth.name = "<init>") (hdecl : (T k).1 = own) {ty : FieldType} {v : Value} (hd : ty0 k = ty) (hn : narrow ty v = v) (hfit : fits ty v = true) (hl : k < fs.length) (hdg : decode cc pc = .ok (.putfield index, 3))
    (kk : ∀ (H1 : Heap) (locs1 : List Loc), zW D A H0 s (ws.set q0 (a, .inr (ci, fs.set k v))) H1 locs1 → W p l e R s m args below meth c H1 locs1 cells slots Q (F0 m (pc + 3) ls rest)) : W p l e R s m args below meth c H locs cells slots Q (F0 m pc ls (v :: .ref a :: rest)) :=
  va_putF (D := D.1) hx hb hts hin ty0 hty hnm hown w.1.1 w.2.1 w.2.2.1 w.2.2.2.1 q0 he hc k hk hlink (fun _ h => href ▸ h) hfin hin2 hdecl (by rw [hty k hk, hd]) hn hfit hl hdg (fun H1 locs1 hP hD hS => kk H1 locs1 ⟨w.1, hP, hD, hS, w.2.2.2.2⟩)
theorem z_astq {a n qk v : Nat} {vs : List Value} {f : Nat → Option Nat} (hx : p.tables.exec = Jvm.exec) (hb : c.code = cc) (w : zW D A H0 s ws H locs) (q0 : Nat) (ha : ws[q0]? = some (a, .inl (D.2 4, n, .inr (.inr (.inr (.inr f)))))) (hv : ws[qk]? = some (v, .inr (5, vs))) {x : Int} (j : Nat) (hj : j < n) (hn : n < 2147483648) (hxj : x = (j : Int)) (hdg : decode cc pc = .ok (.aastore, 1))
    (kk : ∀ (H1 : Heap) (locs1 : List Loc), zW D A H0 s (ws.set q0 (a, .inl (D.2 4, n, .inr (.inr (.inr (.inr (va_up f j (some v)))))))) H1 locs1 → W p l e R s m args below meth c H1 locs1 cells slots Q (F0 m (pc + 1) ls rest)) : W p l e R s m args below meth c H locs cells slots Q (F0 m pc ls (.ref v :: .int (zI x) :: .ref a :: rest)) := by
  subst hxj
  refine va_astq (D := D.1) hx hb w.1.1 w.2.1 w.2.2.1 w.2.2.2.1 q0 4 qk 5 (r := (RX5, TX5, 11)) ha rfl hv rfl (zI_in hj hn) hdg (fun H1 locs1 hP hD hS => ?_)
  rw [zI_clamp (by omega)] at hP hD
  exact kk H1 locs1 ⟨w.1, hP, hD, hS, w.2.2.2.2⟩
variable {y : MethodName} {bytes : ByteArray} {maxL n index d mc ms : Nat} {wsy : List Cond} {E : State → Prop} {b : Nat} {As : List Value} {Qf : (Nat → Prop) → Array Value → State → Outcome → State → Prop}
theorem zE_q {cA : ClassId} {n : Nat} {f g : Nat → Option Nat} (h : ∀ j, j < n → f j = g j) : vp_cell cA (n, .inr (.inr (.inr (.inr f)))) = vp_cell cA (n, .inr (.inr (.inr (.inr g)))) := by
  show arrV cA n (fun j => va_rf (f j)) = arrV cA n (fun j => va_rf (g j))
  unfold arrV
  congr 1
  apply Array.ext
  · simp
  · intro i h1 h2
    simp only [Array.size_ofFn] at h1
    simp [h i h1]
theorem z_fin_c {post : va_W → Prop} {a : Array Value} (hr : va_Run p l e R s m args below meth c H locs cells slots mc ms (F0 m pc ls st0) rest (zQv D post (va_A Wc H.size) a) (va_A Wc H.size)) (w : zW D A H0 s ws H locs) (isC : List Nat) (hC : isC.map (fun i => ws[i]?) = Wc.map some) (isR : List Nat) (hR : isR.map (fun i => ws[i]?) = Wr.map some) (hn : va_nd isR = true) (hdis : ∀ i ∈ isR, i ∉ isC)
    (kk : ∀ (W1 : va_W) (H1 : Heap) (locs1 : List Loc), post W1 → zW D A H0 s (Wr ++ W1) H1 locs1 → W p l e R s m args below meth c H1 locs1 (cells + mc) (slots + ms) Q (F0 m (pc + 3) ls (rest))) : W p l e R s m args below meth c H locs cells slots Q (F0 m pc ls st0) := by
  have hF := va_free w.2.2.1 w.2.2.2.1 w.2.2.2.2 isC hC
  refine va_callv hr w.2.2.2.1 (fun q _ h => hF q h) hF (fun u t H1 locs1 ht hvm hw hB hz hk hS => ?_)
  have hP1 := hB.1
  rw [ht] at hP1
  have hj := va_join w.2.1 w.2.2.1 isC isR hC hR hn hdis hk hF hP1 hB.2
  exact kk u H1 locs1 hw ⟨w.1, hj.1, hj.2, hS, w.2.2.2.2⟩
theorem z_IN {host : String} {post : va_W → Prop} (S : CallFix p m c cc nL s args Ts own) (hM : zMc l y wsy d mc ms E D (.ref b :: As) Wc (zQv D post)) (cw : va_CN R s args own index y host bytes maxL none wsy (zR2 d mc ms) mc ms n ∧ y.name = "<init>" ∧ (Cond.instanceMethod y).before args s = true) (w : zW D A H0 s ws H locs) (hEb : ∀ (U : State) (g : JFrame) (mk : MethodId) (a : Array Value), E U → E (U.calling g mk a)) (hE : ∀ U : State, U.heap = H → s.WarmedH U.vm → E U) (isC : List Nat) (hC : isC.map (fun i => ws[i]?) = Wc.map some) (hnC : va_nd isC = true) (isR : List Nat) (hR : isR.map (fun i => ws[i]?) = Wr.map some) (hn : va_nd isR = true) (hdis : ∀ i ∈ isR, i ∉ isC) (hlen : As.length = n) (hsize : ls.size = nL) (hst : st0 = As.reverse ++ .ref b :: rest) (hW : 2 * (F0 m pc ls st0).monitorRoom + (rest.map fun v => v.category).sum ≤ 8) (hdg : decode cc pc = .ok (.invokespecial index, 3)) (hf : cells + mc ≤ R.cells ∧ slots + ms ≤ R.slots)
    (kk : ∀ (W1 : va_W) (H1 : Heap) (locs1 : List Loc), post W1 → zW D A H0 s (Wr ++ W1) H1 locs1 → W p l e R s m args below meth c H1 locs1 (cells + mc) (slots + ms) Q (F0 m (pc + 3) ls (rest))) : W p l e R s m args below meth c H locs cells slots Q (F0 m pc ls st0) :=
  z_fin_c (va_runIN S (hM H.size) cw ⟨zPc_blind hEb, fun U hU hW => ⟨rfl, by rw [hU], by rw [hU]; exact (w.sub isC hnC hC).2.1, w.1.warm hW, (w.sub isC hnC hC).2.2.1.weaken (fun _ _ _ _ => trivial), hE U hU hW⟩⟩ rfl hlen hsize hst hW hdg hf) w isC hC isR hR hn hdis kk
theorem z_I {post : va_W → Prop} (S : CallFix p m c cc nL s args Ts own) (hM : zMc l y wsy d mc ms E D (.ref b :: As) Wc (zQv D post)) (cw : CallB R s args own index y bytes maxL none wsy (zR2 d mc ms) mc ms n ∧ y.name = "<init>" ∧ (Cond.instanceMethod y).before args s = true) (w : zW D A H0 s ws H locs) (hEb : ∀ (U : State) (g : JFrame) (mk : MethodId) (a : Array Value), E U → E (U.calling g mk a)) (hE : ∀ U : State, U.heap = H → s.WarmedH U.vm → E U) (isC : List Nat) (hC : isC.map (fun i => ws[i]?) = Wc.map some) (hnC : va_nd isC = true) (isR : List Nat) (hR : isR.map (fun i => ws[i]?) = Wr.map some) (hn : va_nd isR = true) (hdis : ∀ i ∈ isR, i ∉ isC) (hlen : As.length = n) (hsize : ls.size = nL) (hst : st0 = As.reverse ++ .ref b :: rest) (hW : 2 * (F0 m pc ls st0).monitorRoom + (rest.map fun v => v.category).sum ≤ 8) (hdg : decode cc pc = .ok (.invokespecial index, 3)) (hf : cells + mc ≤ R.cells ∧ slots + ms ≤ R.slots)
    (kk : ∀ (W1 : va_W) (H1 : Heap) (locs1 : List Loc), post W1 → zW D A H0 s (Wr ++ W1) H1 locs1 → W p l e R s m args below meth c H1 locs1 (cells + mc) (slots + ms) Q (F0 m (pc + 3) ls (rest))) : W p l e R s m args below meth c H locs cells slots Q (F0 m pc ls st0) :=
  z_fin_c (va_runI S (hM H.size) cw ⟨zPc_blind hEb, fun U hU hW => ⟨rfl, by rw [hU], by rw [hU]; exact (w.sub isC hnC hC).2.1, w.1.warm hW, (w.sub isC hnC hC).2.2.1.weaken (fun _ _ _ _ => trivial), hE U hU hW⟩⟩ rfl hlen hsize hst hW hdg hf) w isC hC isR hR hn hdis kk
end ZMK
