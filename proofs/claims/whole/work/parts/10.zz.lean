/-! ===== bits of sets, divisions of longs, Math, copies ===== -/
def zclr (a b : Nat) : Nat := a ^^^ (a &&& b)
theorem zx_and (a b : Nat) : nI a &&& nI b = nI (a &&& b) := by
  apply Int32.toBitVec_inj.1
  show BitVec.ofNat 32 a &&& BitVec.ofNat 32 b = BitVec.ofNat 32 (a &&& b)
  apply BitVec.eq_of_getLsbD_eq
  intro i hi
  simp [BitVec.getLsbD_ofNat, hi, Nat.testBit_and]
theorem zx_or (a b : Nat) : nI a ||| nI b = nI (a ||| b) := by
  apply Int32.toBitVec_inj.1
  show BitVec.ofNat 32 a ||| BitVec.ofNat 32 b = BitVec.ofNat 32 (a ||| b)
  apply BitVec.eq_of_getLsbD_eq
  intro i hi
  simp [BitVec.getLsbD_ofNat, hi, Nat.testBit_or]
theorem zx_not (b : Nat) : nI b ^^^ (-1) = zI (-1 - (b : Int)) := by
  rw [zI_sub, zI_nat]
  apply Int32.toBitVec_inj.1
  show BitVec.ofNat 32 b ^^^ (BitVec.ofInt 32 (-1)) = BitVec.ofInt 32 (-1) - BitVec.ofNat 32 b
  have e : (BitVec.ofInt 32 (-1)) = BitVec.allOnes 32 := by decide
  rw [e, BitVec.xor_allOnes, BitVec.not_eq_neg_add, ← BitVec.neg_one_eq_allOnes]
  rw [BitVec.sub_eq_add_neg, BitVec.sub_eq_add_neg, BitVec.add_comm]
theorem zx_andn (a b : Nat) : nI a &&& zI (-1 - (b : Int)) = nI (zclr a b) := by
  rw [← zx_not]
  apply Int32.toBitVec_inj.1
  show BitVec.ofNat 32 a &&& (BitVec.ofNat 32 b ^^^ (BitVec.ofInt 32 (-1))) = BitVec.ofNat 32 (zclr a b)
  have e : (BitVec.ofInt 32 (-1)) = BitVec.allOnes 32 := by decide
  rw [e]
  apply BitVec.eq_of_getLsbD_eq
  intro i hi
  simp only [zclr, BitVec.getLsbD_and, BitVec.getLsbD_xor, BitVec.getLsbD_ofNat, BitVec.getLsbD_allOnes, hi, decide_true, Bool.true_and, Nat.testBit_xor, Nat.testBit_and]
  cases a.testBit i <;> cases b.testBit i <;> rfl
theorem zx_cnt : ∀ n, n < 32 → ((nI n &&& 31).toBitVec.smod 32).toNat = n := by decide +kernel
theorem zx_shr {a b : Nat} (ha : a < 2147483648) (hb : b < 32) : nI a >>> (nI b &&& 31) = nI (a >>> b) := by
  rw [pk_shrN ha (nI b &&& 31) b (zx_cnt b hb), Nat.shiftRight_eq_div_pow]
theorem zx_shl1 {b : Nat} (hb : b < 32) : (1 : Int32) <<< (nI b &&& 31) = nI (2 ^ b) := by
  have h : 1 * 2 ^ b < 2 ^ 32 := by rw [Nat.one_mul]; exact Nat.pow_lt_pow_right (by decide) hb
  have := pk_shlN (n := 1) (nI b &&& 31) b (zx_cnt b hb) h
  rw [Nat.one_mul] at this
  exact this
section ZKX
variable {p : Program} {l : Launch} {e : Env} {R : Room} {s : State} {m : MethodId} {args : Array Value} {below : List Frame} {meth : Method} {c : Code} {H : Heap} {locs : List Loc} {cells slots : Nat} {Q : State → Prop}
variable {cc : ByteArray} {pc : Nat} {ls : Array Slot} {rest : List Value} {D : zD} {A : Nat → Prop} {ws : va_W} {H0 : Heap} {own : String}
theorem z_ishr {a b : Nat} (hx : p.tables.exec = Jvm.exec) (hb : c.code = cc) (h : a < 2147483648 ∧ b < 32) (hdg : decode cc pc = .ok (.ishr, 1)) (k : W p l e R s m args below meth c H locs cells slots Q (F0 m (pc + 1) ls (.int (zI ((a >>> b : Nat) : Int)) :: rest))) : W p l e R s m args below meth c H locs cells slots Q (F0 m pc ls (.int (zI (b : Int)) :: .int (zI (a : Int)) :: rest)) := by
  refine lv_ishr hx hb hdg ?_
  rw [zI_nat, zI_nat, zx_shr h.1 h.2, ← zI_nat]; exact k
theorem z_ishl1 {b : Nat} (hx : p.tables.exec = Jvm.exec) (hb : c.code = cc) (h : b < 32) (hdg : decode cc pc = .ok (.ishl, 1)) (k : W p l e R s m args below meth c H locs cells slots Q (F0 m (pc + 1) ls (.int (zI ((2 ^ b : Nat) : Int)) :: rest))) : W p l e R s m args below meth c H locs cells slots Q (F0 m pc ls (.int (zI (b : Int)) :: .int (zI 1) :: rest)) := by
  refine lv_ishl hx hb hdg ?_
  rw [zI_nat b, show zI 1 = (1 : Int32) from rfl, zx_shl1 h, ← zI_nat]; exact k
theorem z_iand {a b : Nat} (hx : p.tables.exec = Jvm.exec) (hb : c.code = cc) (hdg : decode cc pc = .ok (.iand, 1)) (k : W p l e R s m args below meth c H locs cells slots Q (F0 m (pc + 1) ls (.int (zI ((a &&& b : Nat) : Int)) :: rest))) : W p l e R s m args below meth c H locs cells slots Q (F0 m pc ls (.int (zI (b : Int)) :: .int (zI (a : Int)) :: rest)) := by
  refine lv_iand hx hb hdg ?_
  rw [zI_nat, zI_nat, zx_and, ← zI_nat]; exact k
theorem z_ior {a b : Nat} (hx : p.tables.exec = Jvm.exec) (hb : c.code = cc) (hdg : decode cc pc = .ok (.ior, 1)) (k : W p l e R s m args below meth c H locs cells slots Q (F0 m (pc + 1) ls (.int (zI ((a ||| b : Nat) : Int)) :: rest))) : W p l e R s m args below meth c H locs cells slots Q (F0 m pc ls (.int (zI (b : Int)) :: .int (zI (a : Int)) :: rest)) := by
  refine lv_ior hx hb hdg ?_
  rw [zI_nat, zI_nat, zx_or, ← zI_nat]; exact k
theorem z_inot {b : Nat} (hx : p.tables.exec = Jvm.exec) (hb : c.code = cc) (hdg : decode cc pc = .ok (.ixor, 1)) (k : W p l e R s m args below meth c H locs cells slots Q (F0 m (pc + 1) ls (.int (zI (-1 - (b : Int))) :: rest))) : W p l e R s m args below meth c H locs cells slots Q (F0 m pc ls (.int (zI (-1)) :: .int (zI (b : Int)) :: rest)) := by
  refine lv_ixor hx hb hdg ?_
  rw [zI_nat, show zI (-1) = (-1 : Int32) from rfl, zx_not]; exact k
theorem z_iandn {a b : Nat} (hx : p.tables.exec = Jvm.exec) (hb : c.code = cc) (hdg : decode cc pc = .ok (.iand, 1)) (k : W p l e R s m args below meth c H locs cells slots Q (F0 m (pc + 1) ls (.int (zI ((zclr a b : Nat) : Int)) :: rest))) : W p l e R s m args below meth c H locs cells slots Q (F0 m pc ls (.int (zI (-1 - (b : Int))) :: .int (zI (a : Int)) :: rest)) := by
  refine lv_iand hx hb hdg ?_
  rw [zI_nat, zx_andn, ← zI_nat]; exact k
theorem z_ldiv (hx : p.tables.exec = Jvm.exec) (hb : c.code = cc) {a b : Int} (hn : zBL a ∧ zBL b ∧ b ≠ 0) (hdg : decode cc pc = .ok (.ldiv, 1)) (k : W p l e R s m args below meth c H locs cells slots Q (F0 m (pc + 1) ls (.long (zL (a.tdiv b)) :: rest))) : W p l e R s m args below meth c H locs cells slots Q (F0 m pc ls (.long (zL b) :: .long (zL a) :: rest)) := by
  obtain ⟨ha, hB, h0⟩ := hn
  refine lv_ldiv hx hb hdg (fun h => ?_) ?_
  · rw [show (0 : Int64) = zL 0 from rfl, zL_eq hB (by omega)] at h
    exact h0 h
  · have e2 : zL (a.tdiv b) = zL a / zL b := Int64.ofInt_tdiv (by show (-9223372036854775808 : Int) ≤ a; omega) (by show a ≤ (9223372036854775807 : Int); omega) (by show (-9223372036854775808 : Int) ≤ b; omega) (by show b ≤ (9223372036854775807 : Int); omega)
    rw [← e2]; exact k
theorem z_max (hx : p.tables.exec = Jvm.exec) (hb : c.code = cc) (hml : c.maxLocals = ls.size) {index : Nat} (hown : s.vm.findClass own = some m.cls) (hlink : (Cond.methodLink own index Lib.Math.max.name).before args s = true) (hstat : (Cond.static Lib.Math.max.name).before args s = true) (hini : (Cond.initialized "java/lang/Math").before args s = true) (hcode : (Cond.code Lib.Math.max.name Lib.Math.max.code 2 (some .int)).before args s = true) (hframes : 1 ≤ R.frames) (hlocals : (rest.map fun v => v.category).sum + 13 ≤ R.locals) (hc : cells ≤ R.cells) (hs : slots ≤ R.slots) {a b : Int} (ha : zB a) (hB : zB b) (hdg : decode cc pc = .ok (.invokestatic index, 3))
    (k : W p l e R s m args below meth c H locs cells slots Q (F0 m (pc + 3) ls (.int (zI (max a b)) :: rest))) : W p l e R s m args below meth c H locs cells slots Q (F0 m pc ls (.int (zI b) :: .int (zI a) :: rest)) := by
  refine va_mmax hx hb hml hown hlink hstat hini hcode hframes hlocals hc hs hdg ?_
  have e : (if zI a < zI b then zI b else zI a) = zI (max a b) := by
    by_cases h : a < b
    · rw [if_pos ((zI_lt ha hB).mpr h), Int.max_eq_right (by omega)]
    · rw [if_neg (fun q => h ((zI_lt ha hB).mp q)), Int.max_eq_left (by omega)]
  rw [e]; exact k
theorem z_min (hx : p.tables.exec = Jvm.exec) (hb : c.code = cc) (hml : c.maxLocals = ls.size) {index : Nat} (hown : s.vm.findClass own = some m.cls) (hlink : (Cond.methodLink own index Lib.Math.min.name).before args s = true) (hstat : (Cond.static Lib.Math.min.name).before args s = true) (hini : (Cond.initialized "java/lang/Math").before args s = true) (hcode : (Cond.code Lib.Math.min.name Lib.Math.min.code 2 (some .int)).before args s = true) (hframes : 1 ≤ R.frames) (hlocals : (rest.map fun v => v.category).sum + 13 ≤ R.locals) (hc : cells ≤ R.cells) (hs : slots ≤ R.slots) {a b : Int} (ha : zB a) (hB : zB b) (hdg : decode cc pc = .ok (.invokestatic index, 3))
    (k : W p l e R s m args below meth c H locs cells slots Q (F0 m (pc + 3) ls (.int (zI (min a b)) :: rest))) : W p l e R s m args below meth c H locs cells slots Q (F0 m pc ls (.int (zI b) :: .int (zI a) :: rest)) := by
  refine va_mmin hx hb hml hown hlink hstat hini hcode hframes hlocals hc hs hdg ?_
  have e : (if zI b < zI a then zI b else zI a) = zI (min a b) := by
    by_cases h : b < a
    · rw [if_pos ((zI_lt hB ha).mpr h), Int.min_eq_right (by omega)]
    · rw [if_neg (fun q => h ((zI_lt hB ha).mp q)), Int.min_eq_left (by omega)]
  first | (rw [e]; exact k) | (rw [← e] at k; simpa using k)
theorem z_maxl (hx : p.tables.exec = Jvm.exec) (hb : c.code = cc) (hml : c.maxLocals = ls.size) {index : Nat} (hown : s.vm.findClass own = some m.cls) (hlink : (Cond.methodLink own index Lib.MathLoose.max_long.x).before args s = true) (hstat : (Cond.static Lib.MathLoose.max_long.x).before args s = true) (hini : (Cond.initialized "java/lang/Math").before args s = true) (hcode : (Cond.code Lib.MathLoose.max_long.x Lib.MathLoose.max_long.code 4 (some .long)).before args s = true) (hframes : 1 ≤ R.frames) (hlocals : (rest.map fun v => v.category).sum + 15 ≤ R.locals) (hc : cells ≤ R.cells) (hs : slots ≤ R.slots) {a b : Int} (ha : zBL a) (hB : zBL b) (hdg : decode cc pc = .ok (.invokestatic index, 3))
    (k : W p l e R s m args below meth c H locs cells slots Q (F0 m (pc + 3) ls (.long (zL (max a b)) :: rest))) : W p l e R s m args below meth c H locs cells slots Q (F0 m pc ls (.long (zL b) :: .long (zL a) :: rest)) := by
  refine va_mmax_long hx hb hml hown hlink hstat hini hcode hframes hlocals hc hs hdg ?_
  have e : (if zL b < zL a then zL a else zL b) = zL (max a b) := by
    by_cases h : b < a
    · rw [if_pos ((zL_lt hB ha).mpr h), Int.max_eq_left (by omega)]
    · rw [if_neg (fun q => h ((zL_lt hB ha).mp q)), Int.max_eq_right (by omega)]
  rw [e]; exact k
theorem z_minl (hx : p.tables.exec = Jvm.exec) (hb : c.code = cc) (hml : c.maxLocals = ls.size) {index : Nat} (hown : s.vm.findClass own = some m.cls) (hlink : (Cond.methodLink own index Lib.MathLoose.min_long.x).before args s = true) (hstat : (Cond.static Lib.MathLoose.min_long.x).before args s = true) (hini : (Cond.initialized "java/lang/Math").before args s = true) (hcode : (Cond.code Lib.MathLoose.min_long.x Lib.MathLoose.min_long.code 4 (some .long)).before args s = true) (hframes : 1 ≤ R.frames) (hlocals : (rest.map fun v => v.category).sum + 15 ≤ R.locals) (hc : cells ≤ R.cells) (hs : slots ≤ R.slots) {a b : Int} (ha : zBL a) (hB : zBL b) (hdg : decode cc pc = .ok (.invokestatic index, 3))
    (k : W p l e R s m args below meth c H locs cells slots Q (F0 m (pc + 3) ls (.long (zL (min a b)) :: rest))) : W p l e R s m args below meth c H locs cells slots Q (F0 m pc ls (.long (zL b) :: .long (zL a) :: rest)) := by
  refine va_mmin_long hx hb hml hown hlink hstat hini hcode hframes hlocals hc hs hdg ?_
  have e : (if zL b < zL a then zL b else zL a) = zL (min a b) := by
    by_cases h : b < a
    · rw [if_pos ((zL_lt hB ha).mpr h), Int.min_eq_right (by omega)]
    · rw [if_neg (fun q => h ((zL_lt hB ha).mp q)), Int.min_eq_left (by omega)]
  rw [e]; exact k
theorem z_copy {a a0 n0 n1 : Nat} {f g0 : Nat → Int32} (sp dp n : Nat) {index : Nat} {xs xd xn : Int} (hx : p.tables.exec = Jvm.exec) (hb : c.code = cc) (hml : c.maxLocals = ls.size) (hown : s.vm.findClass own = some m.cls) (hlink : (Cond.methodLink own index arraycopyName).before args s = true) (hnat : (Cond.native arraycopyName).before args s = true) (hstat : (Cond.static arraycopyName).before args s = true) (hini : (Cond.initialized "java/lang/System").before args s = true)
    (w : zW D A H0 s ws H locs) (q0 q1 : Nat) (ha0 : ws[q0]? = some (a0, .inl (D.2 0, n0, .inl f))) (ha1 : ws[q1]? = some (a, .inl (D.2 0, n1, .inl g0))) (h4 : sp + n ≤ n0) (hsp : xs = (sp : Int)) (hdp : xd = (dp : Int)) (hnn : xn = (n : Int)) (hb0 : n0 < 2147483648) (hb1 : n1 < 2147483648) (h5 : dp + n ≤ n1)
    (hdg : decode cc pc = .ok (.invokestatic index, 3)) (hframes : 1 ≤ R.frames) (hlocals : (rest.map fun v => v.category).sum + (nativeFrameWords "java/lang/System" "arraycopy" 5 + 11) ≤ R.locals) (g : Nat → Int32) (hg : ∀ i, i < n1 → va_cpy f g0 sp dp n i = g i)
    (kk : ∀ (H1 : Heap) (locs1 : List Loc), zW D A H0 s (ws.set q1 (a, .inl (D.2 0, n1, .inl g))) H1 locs1 → W p l e R s m args below meth c H1 locs1 cells slots Q (F0 m (pc + 3) ls rest)) : W p l e R s m args below meth c H locs cells slots Q (F0 m pc ls (.int (zI xn) :: .int (zI xd) :: .ref a :: .int (zI xs) :: .ref a0 :: rest)) := by
  subst hsp
  subst hdp
  subst hnn
  have c1 : (zI (sp : Int)).toNatClampNeg = sp := zI_clamp (by omega)
  have c2 : (zI (dp : Int)).toNatClampNeg = dp := zI_clamp (by omega)
  have c3 : (zI (n : Int)).toNatClampNeg = n := zI_clamp (by omega)
  refine va_copyi (D := D.1) hx hb hml hown hlink hnat hstat hini w.1.1 w.2.1 w.2.2.1 w.2.2.2.1 q0 q1 0 0 ha0 ha1 rfl rfl rfl (zI_nn (by omega) (by omega)) (zI_nn (by omega) (by omega)) (zI_nn (by omega) (by omega)) (by rw [c1, c3]; exact h4) (by rw [c2, c3]; exact h5) (fun _ _ => rfl) hframes hlocals hdg (fun H1 locs1 hP hD hS => ?_)
  rw [c1, c2, c3] at hP hD
  have w1 : zW D A H0 s _ H1 locs1 := ⟨w.1, hP, hD, hS, w.2.2.2.2⟩
  have hl := (List.getElem?_eq_some_iff.mp ha1).1
  have w2 := w1.arr q1 (List.getElem?_set_self hl) (zE_i hg)
  rw [List.set_set] at w2
  exact kk H1 locs1 w2
end ZKX
