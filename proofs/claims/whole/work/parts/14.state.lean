/-! ===== the whole state: what a State of the class holds, as functions of the row of numbers; the changes ===== -/
/-- the same items and limits -/
def Ag (S T : Nat → Int) : Prop := ∀ j, j < 68 → S j = T j
theorem Ag_zn {S T : Nat → Int} (h : Ag S T) : zn S = zn T := by unfold zn; rw [h 0 (by omega)]
theorem Ag_sC {S T : Nat → Int} (h : Ag S T) {what i : Nat} (hi : i < 16) (hw : what ≤ 3) : sC S what i = sC T what i := h _ (by omega)
theorem Ag_fC {S T : Nat → Int} (h : Ag S T) {what : Nat} (hw : what ≤ 3) : fC S what = fC T what := by
  funext i
  unfold fC
  by_cases hi : i < 16
  · rw [if_pos hi, if_pos hi, Ag_sC h hi hw]
  · rw [if_neg hi, if_neg hi]
theorem Ag_fLm {S T : Nat → Int} (h : Ag S T) : fLm S = fLm T := by
  funext d
  unfold fLm
  by_cases hd : d < 3
  · rw [if_pos hd, if_pos hd, h _ (by omega)]
  · rw [if_neg hd, if_neg hd]
theorem Ag_sUse {S T : Nat → Int} (h : Ag S T) (hn : zn T ≤ 16) (set : Nat) {what : Nat} (hw : what ≤ 3) : sUse S set what = sUse T set what := by
  unfold sUse
  rw [Ag_zn h]
  exact sSum_congr _ (fun i hi => by rw [Ag_sC h (by omega) hw])
theorem Ag_sPr {S T : Nat → Int} (h : Ag S T) (M : Nat → Int) {i : Nat} (hi : i < 16) : sPr S M i = sPr T M i := by
  unfold sPr
  rw [Ag_sC h hi (by omega), Ag_sC h hi (by omega), Ag_sC h hi (by omega), Ag_sC h hi (by omega)]
theorem Ag_sRelN {S T : Nat → Int} (h : Ag S T) (M : Nat → Int) : ∀ n, n ≤ 16 → sRelN S M n = sRelN T M n
  | 0, _ => rfl
  | k + 1, hk => by
    unfold sRelN
    rw [Ag_sPr h M (by omega), Ag_sRelN h M k (by omega)]
theorem Ag_sRel {S T : Nat → Int} (h : Ag S T) (hn : zn T ≤ 16) (M : Nat → Int) : sRel S M = sRel T M := by
  unfold sRel
  rw [Ag_zn h, Ag_sRelN h M _ hn]
theorem Ag_sBd {S T : Nat → Int} (h : Ag S T) (hn : zn T ≤ 16) (M : Nat → Int) : sBd S M = sBd T M := by
  unfold sBd
  rw [Ag_zn h, h 65 (by omega), h 66 (by omega), h 67 (by omega), sSum_congr _ (fun i hi => by rw [Ag_sPr h M (show i < 16 by omega)])]
theorem Ag_sFit {S T : Nat → Int} (h : Ag S T) (hn : zn T ≤ 16) (set : Nat) : sFit S set ↔ sFit T set := by
  unfold sFit
  rw [Ag_sUse h hn set (by omega), Ag_sUse h hn set (by omega), Ag_sUse h hn set (by omega), h 65 (by omega), h 66 (by omega), h 67 (by omega)]
theorem Ag_OkP {S T : Nat → Int} (h : Ag S T) (ho : OkP T) : OkP S := by
  refine ⟨by rw [h 0 (by omega)]; exact ho.1, fun i hi => ?_, ?_⟩
  · rw [Ag_sC h hi (by omega), Ag_sC h hi (by omega), Ag_sC h hi (by omega), Ag_sC h hi (by omega)]
    exact ho.2.1 i hi
  · rw [h 65 (by omega), h 66 (by omega), h 67 (by omega)]
    exact ho.2.2
def fSol (S : Nat → Int) : Int := if S 76 = -6 then 0 else S 76
def fSw (S : Nat → Int) : Int := if S 76 = -6 then -6 else sUse S (S 76).toNat 0
def sHu (sw : Int) : Int := if sw = -6 then 0 else 100 * sw
def sSlo (S M : Nat → Int) (d : Nat) : Int := sUse S (sRel S M) (1 + d) - S (65 + d)
def sSq (S M : Nat → Int) : Int := 0 + sSlo S M 0 * sSlo S M 0 + sSlo S M 1 * sSlo S M 1 + sSlo S M 2 * sSlo S M 2
def sLen (ru st si hu bnd q : Int) : Int := if ru = 1 then max 1 (st / max 1 (si + 1)) else if ru = 2 then (if q ≤ 0 then 0 else max 1 ((bnd - hu) / q)) else st
def sMo (M : Nat → Int) (len : Int) (sl : Nat → Int) : Nat → Int := fun d => max 0 (min 999999 (M d + len * sl d))
def wSt (D : zD) (ho hm hg hbu hs hp hw hz h0 h1 h2 hl : Nat) (S : Nat → Int) (G : Nat → Int32) : va_W := (ho, .inr (5, [.ref hp, .ref hbu, .ref hm, .ref hg, .int (zI (S 71)), .int (zI (S 72)), .int (zI (fSol S)), .int (zI (fSw S)), .int (zI (S 73)), .int (zI (S 74)), .long (zL (S 75))])) :: (hm, .inl (D.2 0, 3, .inl (fMu (mu S)))) :: (hg, .inl (D.2 0, 3, .inl G)) :: (wBu D hbu hs S ++ wPk D hp hw hz h0 h1 h2 hl S)
def wSp (D : zD) (ho hm : Nat) (vs : List Value) (hp hw hz h0 h1 h2 hl : Nat) (S M : Nat → Int) : va_W := (ho, .inr (5, vs)) :: (hm, .inl (D.2 0, 3, .inl (fMu M))) :: wPk D hp hw hz h0 h1 h2 hl S
def OkS (B : Int) (S : Nat → Int) : Prop := OkP S ∧ OkM (mu S) ∧ OkB S ∧ ((0 ≤ S 71 ∧ S 71 ≤ 2) ∧ (1 ≤ S 72 ∧ S 72 ≤ 9999) ∧ (0 ≤ S 73 ∧ S 73 ≤ B) ∧ (0 ≤ S 74 ∧ S 74 ≤ B) ∧ (0 ≤ S 75 ∧ S 75 ≤ 3000000000)) ∧ (S 76 = -6 ∨ 0 ≤ S 76 ∧ S 76 ≤ 65535)
/-! the changes -/
def sFg (S : Nat → Int) : Nat → Int := zu (zu (zu S 73 0) 76 (-6)) 75 (sBd S (mu S))
def sLs (S : Nat → Int) : Nat → Int := zu S 75 (if sBd S (mu S) < S 75 then sBd S (mu S) else S 75)
def oItem (S : Nat → Int) (w a b c : Int) : Nat → Int := sFg (zu (sAp S w a b c) 77 0)
def oDrop (S : Nat → Int) (k : Nat) : Nat → Int := sFg (zu (sRm S k) 77 0)
def oLimit (S : Nat → Int) (d : Nat) (v : Int) : Nat → Int := sFg (zu S (65 + d) v)
def oRule (S : Nat → Int) (r st : Int) : Nat → Int := zu (zu S 71 r) 72 st
def oMult (S : Nat → Int) (d : Nat) (v : Int) : Nat → Int := sLs (zu S (68 + d) v)
def sLn (S : Nat → Int) : Int := sLen (S 71) (S 72) (S 73) (sHu (fSw S)) (sBd S (mu S)) (sSq S (mu S))
def sMv (S : Nat → Int) : Nat → Int := sMo (mu S) (sLn S) (sSlo S (mu S))
/-- a step, but for the best bound -/
def sSt0 (S : Nat → Int) : Nat → Int := fun j => if j = 68 then sMv S 0 else if j = 69 then sMv S 1 else if j = 70 then sMv S 2 else if j = 73 then S 73 + 1 else if j = 74 then S 74 + 1 else sBuM S ((sRel S (mu S) : Nat) : Int) j
def sSt (S : Nat → Int) : Nat → Int := sLs (sSt0 S)
def sLess (S : Nat → Int) : Prop := sBd (sSt0 S) (mu (sSt0 S)) < S 75
def sStN (S : Nat → Int) : Nat → Nat → Int
  | 0 => S
  | k + 1 => sSt (sStN S k)
def sBet (S : Nat → Int) : Nat → Int
  | 0 => 0
  | k + 1 => sBet S k + (if sBd (sSt0 (sStN S k)) (mu (sSt0 (sStN S k))) < sStN S k 75 then 1 else 0)
def sRp (S : Nat → Int) : Nat := sMend S (sRel S (mu S))
def oRep (S : Nat → Int) : Nat → Int := zu S 76 (if fSw S = -6 ∨ fSw S < sUse S (sRp S) 0 then ((sRp S : Nat) : Int) else S 76)
theorem sSlo_b {S M : Nat → Int} (h : OkP S) {d : Nat} (hd : d < 3) : -999 ≤ sSlo S M d ∧ sSlo S M d ≤ 1584 := by
  have u := sUse_b h (sRel S M) (what := 1 + d) (by omega)
  have u2 := u.2.2 (by omega)
  have hl := h.2.2
  unfold sSlo
  match d, hd with
  | 0, _ => have : S (65 + 0) = S 65 := rfl; omega
  | 1, _ => have : S (65 + 1) = S 66 := rfl; omega
  | 2, _ => have : S (65 + 2) = S 67 := rfl; omega
theorem sq_b {x : Int} (h : -999 ≤ x ∧ x ≤ 1584) : 0 ≤ x * x ∧ x * x ≤ 2509056 := by
  by_cases h0 : 0 ≤ x
  · have := mul_b (a := x) (b := x) (A := 1584) (B := 1584) ⟨h0, h.2⟩ ⟨h0, h.2⟩
    omega
  · have := mul_b (a := -x) (b := -x) (A := 1584) (B := 1584) (by omega) (by omega)
    have e : -x * -x = x * x := Int.neg_mul_neg x x
    omega
theorem sSq_b {S M : Nat → Int} (h : OkP S) : 0 ≤ sSq S M ∧ sSq S M ≤ 7527168 := by
  have a := sq_b (sSlo_b (M := M) h (d := 0) (by omega))
  have b := sq_b (sSlo_b (M := M) h (d := 1) (by omega))
  have c := sq_b (sSlo_b (M := M) h (d := 2) (by omega))
  unfold sSq
  omega
theorem sLen_b {ru st si hu bnd q : Int} (hst : 1 ≤ st ∧ st ≤ 9999) (hsi : 0 ≤ si) (hu0 : 0 ≤ hu) (hbn : 0 ≤ bnd ∧ bnd ≤ 3000000000) : 0 ≤ sLen ru st si hu bnd q ∧ sLen ru st si hu bnd q ≤ 3000000000 := by
  unfold sLen
  split
  · have h1 : st / max 1 (si + 1) ≤ st := Int.ediv_le_self _ (by omega)
    omega
  · split
    · split
      · omega
      · rename_i hq
        have h1 : (bnd - hu) / q ≤ 3000000000 := by
          by_cases hz : 0 ≤ bnd - hu
          · have := Int.ediv_le_self q hz
            omega
          · have := Int.ediv_neg_of_neg_of_pos (show bnd - hu < 0 by omega) (show 0 < q by omega)
            omega
        omega
    · omega
theorem lm_b {x y : Int} (hx : 0 ≤ x ∧ x ≤ 3000000000) (hy : -999 ≤ y ∧ y ≤ 1584) : -5000000000000 ≤ x * y ∧ x * y ≤ 5000000000000 := by
  by_cases h0 : 0 ≤ y
  · have := mul_b hx (b := y) (B := 1584) ⟨h0, hy.2⟩
    omega
  · have h := mul_b hx (b := -y) (B := 1584) (by omega)
    rw [Int.mul_neg] at h
    omega
theorem upd3 {f : Nat → Int32} {x y z : Int32} {g : Nat → Int32} (h0 : x = g 0) (h1 : y = g 1) (h2 : z = g 2) {i : Nat} (hi : i < 3) : upd (upd (upd f 0 x) 1 y) 2 z i = g i := by
  match i, hi with
  | 0, _ => rw [upd_n _ _ (by omega), upd_n _ _ (by omega), upd_s, h0]
  | 1, _ => rw [upd_n _ _ (by omega), upd_s, h1]
  | 2, _ => rw [upd_s, h2]
theorem fMu_at {M : Nat → Int} {d : Nat} (hd : d < 3) : fMu M d = zI (M d) := if_pos hd
section ZKF
variable {p : Program} {l : Launch} {e : Env} {R : Room} {s : State} {m : MethodId} {args : Array Value} {below : List Frame} {meth : Method} {c : Code} {H : Heap} {locs : List Loc} {cells slots : Nat} {Q : State → Prop}
variable {cc : ByteArray} {pc : Nat} {ls : Array Slot} {rest : List Value}
theorem zxl_xor (a b : Nat) : zL (a : Int) ^^^ zL (b : Int) = zL ((a ^^^ b : Nat) : Int) := by
  unfold zL
  rw [Int64.ofInt_eq_ofNat, Int64.ofInt_eq_ofNat, Int64.ofInt_eq_ofNat]
  apply Int64.toBitVec_inj.1
  show BitVec.ofNat 64 a ^^^ BitVec.ofNat 64 b = BitVec.ofNat 64 (a ^^^ b)
  apply BitVec.eq_of_getLsbD_eq
  intro i hi
  simp [BitVec.getLsbD_ofNat, hi, Nat.testBit_xor]
theorem z_lswit {dflt : Int} {ps : Array (Int × Int)} {len : Nat} {a off : Int} {tgt : Nat} (hx : p.tables.exec = Jvm.exec) (hb : c.code = cc) (ha : zB a) (hdg : decode cc pc = .ok (.lookupswitch dflt ps, len)) (hp : (ps.toList.zip (ps.toList.drop 1)).all (fun (a, next) => a.1 < next.1) = true) (ho : Op.lookupswitch.offset ps.toList dflt a = off) (ht : (pc : Int) + off = (tgt : Int))
    (k : W p l e R s m args below meth c H locs cells slots Q (F0 m tgt ls rest)) : W p l e R s m args below meth c H locs cells slots Q (F0 m pc ls (.int (zI a) :: rest)) :=
  lv_lookup hx hb hdg hp (by rw [zI_t ha]; exact ho) ht k
theorem z_tswit {dflt lo hi : Int} {offs : Array Int} {len : Nat} {a off : Int} {tgt : Nat} (hx : p.tables.exec = Jvm.exec) (hb : c.code = cc) (ha : zB a) (hdg : decode cc pc = .ok (.tableswitch dflt lo hi offs, len)) (h1 : ¬ a < lo) (h2 : ¬ hi < a) (ho : offs[(a - lo).toNat]? = some off) (ht : (pc : Int) + off = (tgt : Int))
    (k : W p l e R s m args below meth c H locs cells slots Q (F0 m tgt ls rest)) : W p l e R s m args below meth c H locs cells slots Q (F0 m pc ls (.int (zI a) :: rest)) :=
  lv_tableIn hx hb hdg (by rw [zI_t ha]; exact h1) (by rw [zI_t ha]; exact h2) (by rw [zI_t ha]; exact ho) ht k
theorem z_tswitD {dflt lo hi : Int} {offs : Array Int} {len : Nat} {a : Int} {tgt : Nat} (hx : p.tables.exec = Jvm.exec) (hb : c.code = cc) (ha : zB a) (hdg : decode cc pc = .ok (.tableswitch dflt lo hi offs, len)) (h : a < lo ∨ hi < a) (ht : (pc : Int) + dflt = (tgt : Int))
    (k : W p l e R s m args below meth c H locs cells slots Q (F0 m tgt ls rest)) : W p l e R s m args below meth c H locs cells slots Q (F0 m pc ls (.int (zI a) :: rest)) :=
  lv_tableOut hx hb hdg (by rw [zI_t ha]; exact h) ht k
end ZKF
/-- a JDK method's proof begins here -/
theorem zM.ofF {l : Launch} {y : MethodName} {ws ws' : List Cond} {rm : Room} {E : State → Prop} {D : zD} {av : List Value} {W0 : va_W} {Qf : (Nat → Prop) → Array Value → State → Outcome → State → Prop} {cc : ByteArray} {maxL : Nat} {ret : Option FieldType} (hy : plainFor y = true) (hw : ws = Cond.code y cc maxL ret :: ws') (hlen : (lg_sl av).length ≤ maxL)
    (body : ∀ (p : Program) (e : Env) (s : State) (m : MethodId) (below : List Frame) (meth : Method) (c : Code) (A : Nat → Prop), p.tables.exec = Jvm.exec → c.code = cc → c.maxLocals = maxL → s.vm.findClass y.cls = some m.cls → (∀ w ∈ ws, w.before av.toArray s = true) → meth.sig.returnType = ret → meth.locks = false → E s → (meth.name = y.name) → zW D A s.heap s W0 s.heap [] → ∀ ls : Array Slot, lv_has ls maxL (lv_args 0 av) →
      W p l e rm s m av.toArray below meth c s.heap [] 0 0 (MQ below (Qf A) av.toArray s 0 0 A) (F0 m 0 ls [])) : zM l y ws rm E D av W0 Qf := by
  intro sz
  refine va_MetF (cc := cc) (maxL := maxL) (ret := ret) hy hw ?_
  intro p e s m args below meth c s₁ B hml hv
  obtain ⟨rfl, hsz, hP, hK, hD0, hE⟩ := hv
  subst hsz
  have hl := lv_entry av (n := maxL) hlen
  rw [lg_entry_eq]
  exact body p e s m below meth c _ B.exec B.bytes hml (findClass_of_methodNamed B.named) (atoms_spec (ws := ws) B.pre) B.returns B.notSynchronized hE (name_of_methodNamed B.named B.method).1 ⟨hK, hP, hD0.self, va_S.rf, fun q h => Or.inr h⟩ _ hl
theorem sRel_16 {S M : Nat → Int} (h : OkP S) : sRel S M < 65536 := by
  have h1 := sRelN_lt S M (zn S)
  have h2 := zt_2p (zn_le h)
  unfold sRel
  omega
