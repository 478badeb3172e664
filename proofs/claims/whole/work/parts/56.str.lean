/-! ===== the texts that the class holds, as facts of a state ===== -/
def sIx (i : Nat) : Nat := 70 + 2 * i
def sTx : List String := ["iN:N,N,N", "lD=N", "rD", "sN", "x", "-N", ""]
def sLe8 : List Nat := [8, 4, 2, 2, 1, 2, 0]
def sBy8 : List (List Int32) := [[105, 78, 58, 78, 44, 78, 44, 78], [108, 68, 61, 78], [114, 68], [115, 78], [120], [45, 78], []]
def pCS : String := "COMPACT_STRINGS"
def pPc : String := "jdk/internal/util/Preconditions"
def pSF : String := "SIOOBE_FORMATTER"
def pBF : String := "Ljava/util/function/BiFunction;"
def zSt (adK adV : Nat → Nat) (A : Nat → Prop) (U : State) (H : Heap) : Prop :=
  (∀ i, i < 7 → vk_R RX3 (sIx i) (sTx.getD i "") (adK i) U) ∧ vk_S 7 sLe8 sBy8 adK adV A U H ∧ va_Z RJ0 pCS "Z" (.int 1) A U H ∧ va_Zq pPc pSF pBF A U H
def zES (adK adV : Nat → Nat) (W0 : va_W) : State → Prop := fun U => zSt adK adV (va_A W0 U.heap.size) U U.heap
theorem zSt.calling {adK adV : Nat → Nat} {A : Nat → Prop} {U : State} {H : Heap} {g : JFrame} {mk : MethodId} {a : Array Value} (h : zSt adK adV A U H) : zSt adK adV A (U.calling g mk a) H :=
  ⟨fun i hi => vk_R.same (u := U) (U := U.calling g mk a) rfl (h.1 i hi), vk_S.moved (u := U) (U := U.calling g mk a) (Vm.Alike.refl U.vm) h.2.1, va_Z.moved (u := U) (U := U.calling g mk a) (Vm.Alike.refl U.vm) h.2.2.1, va_Zq.moved (u := U) (U := U.calling g mk a) (Vm.Alike.refl U.vm) h.2.2.2⟩
theorem zES_b {adK adV : Nat → Nat} {W0 : va_W} : ∀ (U : State) (g : JFrame) (mk : MethodId) (a : Array Value), zES adK adV W0 U → zES adK adV W0 (U.calling g mk a) := fun _ _ _ _ h => zSt.calling h
theorem zSt.at {adK adV : Nat → Nat} {A B : Nat → Prop} {s U : State} {H : Heap} {locs : List Loc} (h : zSt adK adV A s s.heap) (hS : va_S A s.heap H locs) (hW : s.WarmedH U.vm) (hAB : ∀ q, B q → A q) : zSt adK adV B U H :=
  ⟨fun i hi => vk_R.warm hW (h.1 i hi), ((vk_S.moved hW.alike h.2.1).kept hS.2.1).narrow hAB, ((va_Z.moved hW.alike h.2.2.1).kept hS.2.1).narrow hAB, ((va_Zq.moved hW.alike h.2.2.2).kept hS.2.1).narrow hAB⟩
/-- before a call: the facts as the callee asks for them -/
theorem zES_h {D : zD} {A : Nat → Prop} {adK adV : Nat → Nat} {s : State} {ws Wc : va_W} {H : Heap} {locs : List Loc} (h : zSt adK adV A s s.heap) (w : zW D A s.heap s ws H locs) (isC : List Nat) (hC : isC.map (fun i => ws[i]?) = Wc.map some) (hnC : va_nd isC = true) : ∀ U : State, U.heap = H → s.WarmedH U.vm → zES adK adV Wc U := by
  intro U hU hW
  unfold zES
  rw [hU]
  refine zSt.at h w.2.2.2.1 hW (fun q hq => ?_)
  rcases hq with ⟨k, e, he⟩ | hq
  · exact ((w.sub isC hnC hC).2.2.1).2 k (q, e) he
  · exact w.2.2.2.2 q (Nat.le_trans w.2.2.2.1.1 hq)
/-- a method that asks for the texts begins here -/
theorem zM.ofS {l : Launch} {y : MethodName} {ws ws' : List Cond} {rm : Room} {adK adV : Nat → Nat} {D : zD} {av : List Value} {W0 : va_W} {Qf : (Nat → Prop) → Array Value → State → Outcome → State → Prop} {cc : ByteArray} {maxL : Nat} {ret : Option FieldType} (hy : plainName y.cls = true) (hw : ws = Cond.code y cc maxL ret :: ws') (hlen : (lg_sl av).length ≤ maxL)
    (body : ∀ (p : Program) (e : Env) (s : State) (m : MethodId) (below : List Frame) (meth : Method) (c : Code) (A : Nat → Prop), p.tables.exec = Jvm.exec → c.code = cc → c.maxLocals = maxL → s.vm.findClass y.cls = some m.cls → (∀ w ∈ ws, w.before av.toArray s = true) → meth.sig.returnType = ret → meth.locks = false → zSt adK adV A s s.heap → (meth.name = y.name) → zW D A s.heap s W0 s.heap [] → ∀ ls : Array Slot, lv_has ls maxL (lv_args 0 av) →
      W p l e rm s m av.toArray below meth c s.heap [] 0 0 (MQ below (Qf A) av.toArray s 0 0 A) (F0 m 0 ls [])) : zM l y ws rm (zES adK adV W0) D av W0 Qf := by
  intro sz
  refine Met.ofW (cc := cc) (maxL := maxL) (ret := ret) hy hw ?_
  intro p e s m args below meth c s₁ B hml hv
  obtain ⟨rfl, hsz, hP, hK, hD0, hE⟩ := hv
  subst hsz
  have hl := lv_entry av (n := maxL) hlen
  rw [lg_entry_eq]
  exact body p e s m below meth c _ B.exec B.bytes hml (findClass_of_methodNamed B.named) (atoms_spec (ws := ws) B.pre) B.returns B.notSynchronized hE (name_of_methodNamed B.named B.method).1 ⟨hK, hP, hD0.self, va_S.rf, fun q h => Or.inr h⟩ _ hl
