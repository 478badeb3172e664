/-! ===== numbers: an Int behind an int, a long ===== -/
def zI (a : Int) : Int32 := Int32.ofInt a
def zL (a : Int) : Int64 := Int64.ofInt a
abbrev zB (a : Int) : Prop := -2147483648 ≤ a ∧ a ≤ 2147483647
abbrev zBL (a : Int) : Prop := -9223372036854775808 ≤ a ∧ a ≤ 9223372036854775807
def zb (P : Prop) [Decidable P] : Int := if P then 1 else 0
theorem zb_t {P : Prop} [Decidable P] (h : P) : zb P = 1 := if_pos h
theorem zb_f {P : Prop} [Decidable P] (h : ¬ P) : zb P = 0 := if_neg h
theorem zb_01 (P : Prop) [Decidable P] : zb P = 0 ∨ zb P = 1 := by unfold zb; split <;> simp
theorem zI_t {a : Int} (h : zB a) : (zI a).toInt = a := Int32.toInt_ofInt_of_le (by omega) (by omega)
theorem zL_t {a : Int} (h : zBL a) : (zL a).toInt = a := Int64.toInt_ofInt_of_le (by omega) (by omega)
theorem zI_lt {a b : Int} (ha : zB a) (hb : zB b) : zI a < zI b ↔ a < b := by rw [Int32.lt_iff_toInt_lt, zI_t ha, zI_t hb]
theorem zI_le {a b : Int} (ha : zB a) (hb : zB b) : zI a ≤ zI b ↔ a ≤ b := by rw [Int32.le_iff_toInt_le, zI_t ha, zI_t hb]
theorem zI_eq {a b : Int} (ha : zB a) (hb : zB b) : zI a = zI b ↔ a = b := by rw [← Int32.toInt_inj, zI_t ha, zI_t hb]
theorem zL_lt {a b : Int} (ha : zBL a) (hb : zBL b) : zL a < zL b ↔ a < b := by rw [Int64.lt_iff_toInt_lt, zL_t ha, zL_t hb]
theorem zL_eq {a b : Int} (ha : zBL a) (hb : zBL b) : zL a = zL b ↔ a = b := by rw [← Int64.toInt_inj, zL_t ha, zL_t hb]
theorem zI_add (a b : Int) : zI (a + b) = zI a + zI b := Int32.ofInt_add a b
theorem zI_sub (a b : Int) : zI (a - b) = zI a - zI b := Int32.ofInt_sub a b
theorem zI_mul (a b : Int) : zI (a * b) = zI a * zI b := Int32.ofInt_mul a b
theorem zI_neg (a : Int) : zI (-a) = -zI a := Int32.ofInt_neg a
theorem zL_add (a b : Int) : zL (a + b) = zL a + zL b := Int64.ofInt_add a b
theorem zL_sub (a b : Int) : zL (a - b) = zL a - zL b := Int64.ofInt_sub a b
theorem zL_mul (a b : Int) : zL (a * b) = zL a * zL b := Int64.ofInt_mul a b
theorem zI_nat (n : Nat) : zI (n : Int) = nI n := by
  unfold zI nI
  exact Int32.ofInt_eq_ofNat
theorem zI_clamp {n : Nat} (h : n < 2147483648) : (zI (n : Int)).toNatClampNeg = n := by rw [zI_nat]; exact nI_clamp h
theorem zI_in {j n : Nat} (h : j < n) (hn : n < 2147483648) : vp_in (zI (j : Int)) n := by rw [zI_nat]; exact vp_in_nI h hn
theorem zI_l {a : Int} (h : zB a) : (zI a).toInt64 = zL a := Int32.toInt64_ofInt (by show (-2147483648 : Int) ≤ a; omega) (by show a ≤ (2147483647 : Int); omega)
theorem zL_i (a : Int) : (zL a).toInt32 = zI a := Int64.toInt32_ofInt
theorem zI_nn {a : Int} (h : 0 ≤ a) (h2 : a ≤ 2147483647) : ¬ zI a < 0 := by
  have e : (0 : Int32) = zI 0 := rfl
  rw [e, zI_lt (by omega) (by omega)]
  omega
theorem zI_div {a b : Int} (ha : 0 ≤ a) (ha2 : a ≤ 2147483647) (hb : 0 < b) (hb2 : b ≤ 2147483647) : zI a / zI b = zI (a / b) := by
  obtain ⟨n, rfl⟩ := Int.eq_ofNat_of_zero_le ha
  obtain ⟨k, rfl⟩ := Int.eq_ofNat_of_zero_le (Int.le_of_lt hb)
  have e : ((n : Int) / (k : Int)) = ((n / k : Nat) : Int) := (Int.natCast_ediv n k).symm
  rw [e, zI_nat, zI_nat, zI_nat]
  exact pk_div (by omega) (by omega) (by omega)
theorem zI_rem {a b : Int} (ha : 0 ≤ a) (ha2 : a ≤ 2147483647) (hb : 0 < b) (hb2 : b ≤ 2147483647) : zI a - zI a / zI b * zI b = zI (a % b) := by
  obtain ⟨n, rfl⟩ := Int.eq_ofNat_of_zero_le ha
  obtain ⟨k, rfl⟩ := Int.eq_ofNat_of_zero_le (Int.le_of_lt hb)
  have e : ((n : Int) % (k : Int)) = ((n % k : Nat) : Int) := (Int.natCast_emod n k).symm
  rw [e, zI_nat, zI_nat, zI_nat]
  exact pk_rem (by omega) (by omega) (by omega)
/-! ===== worlds: one word for all that a walk knows of the heap ===== -/
abbrev zD : Type := va_G × (Nat → ClassId)
def zT (D : zD) : List (ClassId × FieldType) := [(D.2 0, .int), (D.2 1, .long), (D.2 2, .char), (D.2 3, .boolean), (D.2 4, .object "RelaxedSteps$State"), (D.2 5, .array .int)]
def zNs : List (String × Nat × MethodName × String) := [("RelaxedSteps", 9, yX5_init, "RelaxedSteps"), ("RelaxedSteps$State", 20, yX0_init, "RelaxedSteps"), ("RelaxedSteps$History", 24, yX5_init, "RelaxedSteps"), ("RelaxedSteps", 33, yX3_init, "RelaxedSteps"), ("RelaxedSteps", 40, yX4_init, "RelaxedSteps"), ("RelaxedSteps$State", 68, yX6_within, "RelaxedSteps"), ("RelaxedSteps$Packing", 39, yX6_within, "RelaxedSteps"), ("RelaxedSteps$State", 100, yX6_isDimension, "RelaxedSteps"), ("RelaxedSteps$Packing", 51, yX6_isIn, "RelaxedSteps"), ("RelaxedSteps$State", 120, yX6_oneIf, "RelaxedSteps"), ("RelaxedSteps$Search", 22, yX6_isDimension, "RelaxedSteps"), ("RelaxedSteps$Search", 55, yX6_within, "RelaxedSteps"), ("RelaxedSteps$Pad", 93, yX6_within, "RelaxedSteps")]
def zK (D : zD) (U : State) : Prop := va_K D.1 vwCl (zT D) U ∧ ∀ q ∈ zNs, va_Nw (.methodLinkNest q.1 q.2.1 q.2.2.1 q.2.2.2) U
theorem zK.calling {D : zD} {U : State} {g : JFrame} {mk : MethodId} {a : Array Value} (h : zK D U) : zK D (U.calling g mk a) :=
  ⟨va_K.moved (u := U) (U := U.calling g mk a) (Vm.Alike.refl U.vm) h.1, fun q hq => va_Nw.same rfl (rfl : U.vm = (U.calling g mk a).vm) (h.2 q hq)⟩
theorem zK.warm {D : zD} {s U : State} (hW : s.WarmedH U.vm) (h : zK D s) : zK D U := ⟨va_K.moved hW.alike h.1, fun q hq => va_Nw.warmM hW (h.2 q hq)⟩
def zW (D : zD) (A : Nat → Prop) (H0 : Heap) (s : State) (ws : va_W) (H : Heap) (locs : List Loc) : Prop := zK D s ∧ va_P D.1 vwCl ws H ∧ va_D A ws ∧ va_S A H0 H locs ∧ ∀ q, H0.size ≤ q → A q
/-- a world's cells in another order, or fewer -/
theorem zW.sub {D : zD} {A : Nat → Prop} {H0 : Heap} {s : State} {ws ws' : va_W} {H : Heap} {locs : List Loc} (h : zW D A H0 s ws H locs) (is : List Nat) (hn : va_nd is = true) (hs : is.map (fun i => ws[i]?) = ws'.map some) : zW D A H0 s ws' H locs := by
  have e : is.filterMap (fun i => ws[i]?) = ws' := by
    have h1 : (is.map (fun i => ws[i]?)).filterMap id = (ws'.map some).filterMap id := by rw [hs]
    rw [List.filterMap_map, List.filterMap_map] at h1
    simpa using h1
  exact ⟨h.1, h.2.1.sub is e, h.2.2.1.sub is hn hs, h.2.2.2⟩
theorem zW.to {D : zD} {A : Nat → Prop} {H0 : Heap} {s : State} {ws ws' : va_W} {H : Heap} {locs : List Loc} (h : zW D A H0 s ws H locs) (e : ws = ws') : zW D A H0 s ws' H locs := e ▸ h
/-- contents of an array count below its length -/
theorem zE_i {cA : ClassId} {n : Nat} {f g : Nat → Int32} (h : ∀ j, j < n → f j = g j) : vp_cell cA (n, .inl f) = vp_cell cA (n, .inl g) := by
  show arrV cA n (fun j => .int (f j)) = arrV cA n (fun j => .int (g j))
  unfold arrV
  congr 1
  apply Array.ext
  · simp
  · intro i h1 h2
    simp only [Array.size_ofFn] at h1
    simp [h i h1]
theorem zE_l {cA : ClassId} {n : Nat} {f g : Nat → Int64} (h : ∀ j, j < n → f j = g j) : vp_cell cA (n, .inr (.inl f)) = vp_cell cA (n, .inr (.inl g)) := by
  show arrV cA n (fun j => .long (f j)) = arrV cA n (fun j => .long (g j))
  unfold arrV
  congr 1
  apply Array.ext
  · simp
  · intro i h1 h2
    simp only [Array.size_ofFn] at h1
    simp [h i h1]
/-- an array's contents under another name -/
theorem zW.arr {D : zD} {A : Nat → Prop} {H0 : Heap} {s : State} {ws : va_W} {H : Heap} {locs : List Loc} (h : zW D A H0 s ws H locs) (q0 : Nat) {a : Nat} {cA : ClassId} {x y : vp_A} (he : ws[q0]? = some (a, .inl (cA, x))) (hxy : vp_cell cA x = vp_cell cA y) : zW D A H0 s (ws.set q0 (a, .inl (cA, y))) H locs :=
  ⟨h.1, h.2.1.set h.2.2.1 he (by show H[a]? = some (vp_cell cA y); rw [← hxy]; exact h.2.1 q0 _ he) (fun _ _ => rfl), h.2.2.1.set he, h.2.2.2⟩
/-! ===== instructions over numbers and worlds ===== -/
section ZKI
variable {p : Program} {l : Launch} {e : Env} {R : Room} {s : State} {m : MethodId} {args : Array Value} {below : List Frame} {meth : Method} {c : Code} {H : Heap} {locs : List Loc} {cells slots : Nat} {Q : State → Prop}
variable {cc : ByteArray} {pc : Nat} {ls : Array Slot} {rest : List Value} {D : zD} {A : Nat → Prop} {ws : va_W} {H0 : Heap} {nL : Nat} {Ts : List Cond} {own : String}
theorem z_iadd (hx : p.tables.exec = Jvm.exec) (hb : c.code = cc) {a b : Int} (hdg : decode cc pc = .ok (.iadd, 1)) (k : W p l e R s m args below meth c H locs cells slots Q (F0 m (pc + 1) ls (.int (zI (a + b)) :: rest))) : W p l e R s m args below meth c H locs cells slots Q (F0 m pc ls (.int (zI b) :: .int (zI a) :: rest)) := by
  refine lv_iadd hx hb hdg ?_
  rw [← zI_add]; exact k
theorem z_isub (hx : p.tables.exec = Jvm.exec) (hb : c.code = cc) {a b : Int} (hdg : decode cc pc = .ok (.isub, 1)) (k : W p l e R s m args below meth c H locs cells slots Q (F0 m (pc + 1) ls (.int (zI (a - b)) :: rest))) : W p l e R s m args below meth c H locs cells slots Q (F0 m pc ls (.int (zI b) :: .int (zI a) :: rest)) := by
  refine lv_isub hx hb hdg ?_
  rw [← zI_sub]; exact k
theorem z_imul (hx : p.tables.exec = Jvm.exec) (hb : c.code = cc) {a b : Int} (hdg : decode cc pc = .ok (.imul, 1)) (k : W p l e R s m args below meth c H locs cells slots Q (F0 m (pc + 1) ls (.int (zI (a * b)) :: rest))) : W p l e R s m args below meth c H locs cells slots Q (F0 m pc ls (.int (zI b) :: .int (zI a) :: rest)) := by
  refine lv_imul hx hb hdg ?_
  rw [← zI_mul]; exact k
theorem z_idiv (hx : p.tables.exec = Jvm.exec) (hb : c.code = cc) {a b : Int} (hn : (0 ≤ a ∧ a ≤ 2147483647) ∧ 0 < b ∧ b ≤ 2147483647) (hdg : decode cc pc = .ok (.idiv, 1)) (k : W p l e R s m args below meth c H locs cells slots Q (F0 m (pc + 1) ls (.int (zI (a / b)) :: rest))) : W p l e R s m args below meth c H locs cells slots Q (F0 m pc ls (.int (zI b) :: .int (zI a) :: rest)) := by
  refine lv_idiv hx hb hdg (fun h => ?_) ?_
  · rw [show (0 : Int32) = zI 0 from rfl, zI_eq (by omega) (by omega)] at h
    omega
  · rw [zI_div hn.1.1 hn.1.2 hn.2.1 hn.2.2]; exact k
theorem z_irem (hx : p.tables.exec = Jvm.exec) (hb : c.code = cc) {a b : Int} (hn : (0 ≤ a ∧ a ≤ 2147483647) ∧ 0 < b ∧ b ≤ 2147483647) (hdg : decode cc pc = .ok (.irem, 1)) (k : W p l e R s m args below meth c H locs cells slots Q (F0 m (pc + 1) ls (.int (zI (a % b)) :: rest))) : W p l e R s m args below meth c H locs cells slots Q (F0 m pc ls (.int (zI b) :: .int (zI a) :: rest)) := by
  refine lv_irem hx hb hdg (fun h => ?_) ?_
  · rw [show (0 : Int32) = zI 0 from rfl, zI_eq (by omega) (by omega)] at h
    omega
  · rw [zI_rem hn.1.1 hn.1.2 hn.2.1 hn.2.2]; exact k
theorem z_ladd (hx : p.tables.exec = Jvm.exec) (hb : c.code = cc) {a b : Int} (hdg : decode cc pc = .ok (.ladd, 1)) (k : W p l e R s m args below meth c H locs cells slots Q (F0 m (pc + 1) ls (.long (zL (a + b)) :: rest))) : W p l e R s m args below meth c H locs cells slots Q (F0 m pc ls (.long (zL b) :: .long (zL a) :: rest)) := by
  refine lv_ladd hx hb hdg ?_
  rw [← zL_add]; exact k
theorem z_lsub (hx : p.tables.exec = Jvm.exec) (hb : c.code = cc) {a b : Int} (hdg : decode cc pc = .ok (.lsub, 1)) (k : W p l e R s m args below meth c H locs cells slots Q (F0 m (pc + 1) ls (.long (zL (a - b)) :: rest))) : W p l e R s m args below meth c H locs cells slots Q (F0 m pc ls (.long (zL b) :: .long (zL a) :: rest)) := by
  refine lv_lsub hx hb hdg ?_
  rw [← zL_sub]; exact k
theorem z_lmul (hx : p.tables.exec = Jvm.exec) (hb : c.code = cc) {a b : Int} (hdg : decode cc pc = .ok (.lmul, 1)) (k : W p l e R s m args below meth c H locs cells slots Q (F0 m (pc + 1) ls (.long (zL (a * b)) :: rest))) : W p l e R s m args below meth c H locs cells slots Q (F0 m pc ls (.long (zL b) :: .long (zL a) :: rest)) := by
  refine lv_lmul hx hb hdg ?_
  rw [← zL_mul]; exact k
theorem z_i2l (hx : p.tables.exec = Jvm.exec) (hb : c.code = cc) {a : Int} (ha : zB a) (hdg : decode cc pc = .ok (.i2l, 1)) (k : W p l e R s m args below meth c H locs cells slots Q (F0 m (pc + 1) ls (.long (zL a) :: rest))) : W p l e R s m args below meth c H locs cells slots Q (F0 m pc ls (.int (zI a) :: rest)) := lv_i2l hx hb hdg (zI_l ha) k
theorem z_l2i (hx : p.tables.exec = Jvm.exec) (hb : c.code = cc) {a : Int} (hdg : decode cc pc = .ok (.l2i, 1)) (k : W p l e R s m args below meth c H locs cells slots Q (F0 m (pc + 1) ls (.int (zI a) :: rest))) : W p l e R s m args below meth c H locs cells slots Q (F0 m pc ls (.long (zL a) :: rest)) := lv_l2i hx hb hdg (zL_i a) k
theorem z_icmp_eq (hx : p.tables.exec = Jvm.exec) (hb : c.code = cc) {a b : Int} {off : Int} {tgt : Nat} (ha : zB a) (hB : zB b) (hdg : decode cc pc = .ok (.if_icmp .eq off, 3)) (ht : (pc : Int) + off = (tgt : Int)) (kt : a = b → W p l e R s m args below meth c H locs cells slots Q (F0 m tgt ls rest)) (kf : ¬ a = b → W p l e R s m args below meth c H locs cells slots Q (F0 m (pc + 3) ls rest)) : W p l e R s m args below meth c H locs cells slots Q (F0 m pc ls (.int (zI b) :: .int (zI a) :: rest)) :=
  lv_icmp_eq hx hb hdg ht (fun h => kt ((zI_eq ha hB).mp h)) (fun h => kf (by rw [zI_eq ha hB] at h; omega))
theorem z_if_eq (hx : p.tables.exec = Jvm.exec) (hb : c.code = cc) {a : Int} {off : Int} {tgt : Nat} (ha : zB a) (hdg : decode cc pc = .ok (.ifCond .eq off, 3)) (ht : (pc : Int) + off = (tgt : Int)) (kt : a = 0 → W p l e R s m args below meth c H locs cells slots Q (F0 m tgt ls rest)) (kf : ¬ a = 0 → W p l e R s m args below meth c H locs cells slots Q (F0 m (pc + 3) ls rest)) : W p l e R s m args below meth c H locs cells slots Q (F0 m pc ls (.int (zI a) :: rest)) :=
  have hB : zB 0 := by omega
  lv_if_eq hx hb hdg ht (fun h => kt ((zI_eq (b := 0) ha hB).mp h)) (fun h => kf (by rw [show (0 : Int32) = zI 0 from rfl, zI_eq ha hB] at h; omega))
theorem z_icmp_ne (hx : p.tables.exec = Jvm.exec) (hb : c.code = cc) {a b : Int} {off : Int} {tgt : Nat} (ha : zB a) (hB : zB b) (hdg : decode cc pc = .ok (.if_icmp .ne off, 3)) (ht : (pc : Int) + off = (tgt : Int)) (kt : ¬ a = b → W p l e R s m args below meth c H locs cells slots Q (F0 m tgt ls rest)) (kf : a = b → W p l e R s m args below meth c H locs cells slots Q (F0 m (pc + 3) ls rest)) : W p l e R s m args below meth c H locs cells slots Q (F0 m pc ls (.int (zI b) :: .int (zI a) :: rest)) :=
  lv_icmp_ne hx hb hdg ht (fun h => kt (fun q => h ((zI_eq ha hB).mpr q))) (fun h => kf (by rw [zI_eq ha hB] at h; omega))
theorem z_if_ne (hx : p.tables.exec = Jvm.exec) (hb : c.code = cc) {a : Int} {off : Int} {tgt : Nat} (ha : zB a) (hdg : decode cc pc = .ok (.ifCond .ne off, 3)) (ht : (pc : Int) + off = (tgt : Int)) (kt : ¬ a = 0 → W p l e R s m args below meth c H locs cells slots Q (F0 m tgt ls rest)) (kf : a = 0 → W p l e R s m args below meth c H locs cells slots Q (F0 m (pc + 3) ls rest)) : W p l e R s m args below meth c H locs cells slots Q (F0 m pc ls (.int (zI a) :: rest)) :=
  have hB : zB 0 := by omega
  lv_if_ne hx hb hdg ht (fun h => kt (fun q => h ((zI_eq (b := 0) ha hB).mpr q))) (fun h => kf (by rw [show (0 : Int32) = zI 0 from rfl, zI_eq ha hB] at h; omega))
theorem z_icmp_lt (hx : p.tables.exec = Jvm.exec) (hb : c.code = cc) {a b : Int} {off : Int} {tgt : Nat} (ha : zB a) (hB : zB b) (hdg : decode cc pc = .ok (.if_icmp .lt off, 3)) (ht : (pc : Int) + off = (tgt : Int)) (kt : a < b → W p l e R s m args below meth c H locs cells slots Q (F0 m tgt ls rest)) (kf : b ≤ a → W p l e R s m args below meth c H locs cells slots Q (F0 m (pc + 3) ls rest)) : W p l e R s m args below meth c H locs cells slots Q (F0 m pc ls (.int (zI b) :: .int (zI a) :: rest)) :=
  lv_icmp_lt hx hb hdg ht (fun h => kt ((zI_lt ha hB).mp h)) (fun h => kf (by rw [zI_lt ha hB] at h; omega))
theorem z_if_lt (hx : p.tables.exec = Jvm.exec) (hb : c.code = cc) {a : Int} {off : Int} {tgt : Nat} (ha : zB a) (hdg : decode cc pc = .ok (.ifCond .lt off, 3)) (ht : (pc : Int) + off = (tgt : Int)) (kt : a < 0 → W p l e R s m args below meth c H locs cells slots Q (F0 m tgt ls rest)) (kf : 0 ≤ a → W p l e R s m args below meth c H locs cells slots Q (F0 m (pc + 3) ls rest)) : W p l e R s m args below meth c H locs cells slots Q (F0 m pc ls (.int (zI a) :: rest)) :=
  have hB : zB 0 := by omega
  lv_if_lt hx hb hdg ht (fun h => kt ((zI_lt ha hB).mp h)) (fun h => kf (by rw [show (0 : Int32) = zI 0 from rfl, zI_lt ha hB] at h; omega))
theorem z_icmp_ge (hx : p.tables.exec = Jvm.exec) (hb : c.code = cc) {a b : Int} {off : Int} {tgt : Nat} (ha : zB a) (hB : zB b) (hdg : decode cc pc = .ok (.if_icmp .ge off, 3)) (ht : (pc : Int) + off = (tgt : Int)) (kt : b ≤ a → W p l e R s m args below meth c H locs cells slots Q (F0 m tgt ls rest)) (kf : a < b → W p l e R s m args below meth c H locs cells slots Q (F0 m (pc + 3) ls rest)) : W p l e R s m args below meth c H locs cells slots Q (F0 m pc ls (.int (zI b) :: .int (zI a) :: rest)) :=
  lv_icmp_ge hx hb hdg ht (fun h => kt ((zI_le hB ha).mp h)) (fun h => kf (by rw [zI_le hB ha] at h; omega))
theorem z_if_ge (hx : p.tables.exec = Jvm.exec) (hb : c.code = cc) {a : Int} {off : Int} {tgt : Nat} (ha : zB a) (hdg : decode cc pc = .ok (.ifCond .ge off, 3)) (ht : (pc : Int) + off = (tgt : Int)) (kt : 0 ≤ a → W p l e R s m args below meth c H locs cells slots Q (F0 m tgt ls rest)) (kf : a < 0 → W p l e R s m args below meth c H locs cells slots Q (F0 m (pc + 3) ls rest)) : W p l e R s m args below meth c H locs cells slots Q (F0 m pc ls (.int (zI a) :: rest)) :=
  have hB : zB 0 := by omega
  lv_if_ge hx hb hdg ht (fun h => kt ((zI_le hB ha).mp h)) (fun h => kf (by rw [show (0 : Int32) = zI 0 from rfl, zI_le hB ha] at h; omega))
theorem z_icmp_gt (hx : p.tables.exec = Jvm.exec) (hb : c.code = cc) {a b : Int} {off : Int} {tgt : Nat} (ha : zB a) (hB : zB b) (hdg : decode cc pc = .ok (.if_icmp .gt off, 3)) (ht : (pc : Int) + off = (tgt : Int)) (kt : b < a → W p l e R s m args below meth c H locs cells slots Q (F0 m tgt ls rest)) (kf : a ≤ b → W p l e R s m args below meth c H locs cells slots Q (F0 m (pc + 3) ls rest)) : W p l e R s m args below meth c H locs cells slots Q (F0 m pc ls (.int (zI b) :: .int (zI a) :: rest)) :=
  lv_icmp_gt hx hb hdg ht (fun h => kt ((zI_lt hB ha).mp h)) (fun h => kf (by rw [zI_lt hB ha] at h; omega))
theorem z_if_gt (hx : p.tables.exec = Jvm.exec) (hb : c.code = cc) {a : Int} {off : Int} {tgt : Nat} (ha : zB a) (hdg : decode cc pc = .ok (.ifCond .gt off, 3)) (ht : (pc : Int) + off = (tgt : Int)) (kt : 0 < a → W p l e R s m args below meth c H locs cells slots Q (F0 m tgt ls rest)) (kf : a ≤ 0 → W p l e R s m args below meth c H locs cells slots Q (F0 m (pc + 3) ls rest)) : W p l e R s m args below meth c H locs cells slots Q (F0 m pc ls (.int (zI a) :: rest)) :=
  have hB : zB 0 := by omega
  lv_if_gt hx hb hdg ht (fun h => kt ((zI_lt hB ha).mp h)) (fun h => kf (by rw [show (0 : Int32) = zI 0 from rfl, zI_lt hB ha] at h; omega))
theorem z_icmp_le (hx : p.tables.exec = Jvm.exec) (hb : c.code = cc) {a b : Int} {off : Int} {tgt : Nat} (ha : zB a) (hB : zB b) (hdg : decode cc pc = .ok (.if_icmp .le off, 3)) (ht : (pc : Int) + off = (tgt : Int)) (kt : a ≤ b → W p l e R s m args below meth c H locs cells slots Q (F0 m tgt ls rest)) (kf : b < a → W p l e R s m args below meth c H locs cells slots Q (F0 m (pc + 3) ls rest)) : W p l e R s m args below meth c H locs cells slots Q (F0 m pc ls (.int (zI b) :: .int (zI a) :: rest)) :=
  lv_icmp_le hx hb hdg ht (fun h => kt ((zI_le ha hB).mp h)) (fun h => kf (by rw [zI_le ha hB] at h; omega))
theorem z_if_le (hx : p.tables.exec = Jvm.exec) (hb : c.code = cc) {a : Int} {off : Int} {tgt : Nat} (ha : zB a) (hdg : decode cc pc = .ok (.ifCond .le off, 3)) (ht : (pc : Int) + off = (tgt : Int)) (kt : a ≤ 0 → W p l e R s m args below meth c H locs cells slots Q (F0 m tgt ls rest)) (kf : 0 < a → W p l e R s m args below meth c H locs cells slots Q (F0 m (pc + 3) ls rest)) : W p l e R s m args below meth c H locs cells slots Q (F0 m pc ls (.int (zI a) :: rest)) :=
  have hB : zB 0 := by omega
  lv_if_le hx hb hdg ht (fun h => kt ((zI_le ha hB).mp h)) (fun h => kf (by rw [show (0 : Int32) = zI 0 from rfl, zI_le ha hB] at h; omega))
theorem lg_ne {x y : Int64} : (lg_cmp x y = 0 ↔ x = y) ∧ (lg_cmp x y < 0 ↔ x < y) ∧ (0 < lg_cmp x y ↔ y < x) := by
  unfold lg_cmp
  by_cases h1 : y < x
  · simp only [h1, if_true]
    refine ⟨⟨fun h => absurd h (by decide), fun h => ?_⟩, ⟨fun h => absurd h (by decide), fun h => ?_⟩, ⟨fun _ => trivial, fun _ => by decide⟩⟩
    · subst h; exact absurd h1 (by rw [Int64.lt_iff_toInt_lt]; omega)
    · exact absurd h1 (by rw [Int64.lt_iff_toInt_lt] at h ⊢; omega)
  · by_cases h2 : x = y
    · subst h2
      simp [h1]
    · simp only [h1, if_false, h2]
      have h3 : x < y := by
        rw [Int64.lt_iff_toInt_lt] at h1 ⊢
        rw [← Int64.toInt_inj] at h2
        omega
      exact ⟨⟨fun h => absurd h (by decide), fun h => h.elim⟩, ⟨fun _ => h3, fun _ => by decide⟩, ⟨fun h => absurd h (by decide), fun h => h.elim⟩⟩
theorem lg_nl {x : Int32} (h : 0 ≤ x) : ¬ x < 0 := by
  rw [Int32.le_iff_toInt_le] at h
  rw [Int32.lt_iff_toInt_lt]
  omega
theorem lg_nl' {x : Int32} (h : ¬ x < 0) : 0 ≤ x := by
  rw [Int32.lt_iff_toInt_lt] at h
  rw [Int32.le_iff_toInt_le]
  omega
theorem lg_ng {x : Int32} (h : x ≤ 0) : ¬ 0 < x := by
  rw [Int32.le_iff_toInt_le] at h
  rw [Int32.lt_iff_toInt_lt]
  omega
theorem lg_ng' {x : Int32} (h : ¬ 0 < x) : x ≤ 0 := by
  rw [Int32.lt_iff_toInt_lt] at h
  rw [Int32.le_iff_toInt_le]
  omega
theorem z_lcmp_eq (hx : p.tables.exec = Jvm.exec) (hb : c.code = cc) {a b : Int} {off : Int} {tgt : Nat} (ha : zBL a) (hB : zBL b) (hd1 : decode cc pc = .ok (.lcmp, 1)) (hdg : decode cc (pc + 1) = .ok (.ifCond .eq off, 3)) (ht : ((pc + 1 : Nat) : Int) + off = (tgt : Int)) (kt : a = b → W p l e R s m args below meth c H locs cells slots Q (F0 m tgt ls rest)) (kf : ¬ a = b → W p l e R s m args below meth c H locs cells slots Q (F0 m (pc + 1 + 3) ls rest)) : W p l e R s m args below meth c H locs cells slots Q (F0 m pc ls (.long (zL b) :: .long (zL a) :: rest)) := by
  refine W.lcmp hx hb hd1 ?_
  exact lv_if_eq hx hb hdg ht (fun h => kt ((zL_eq ha hB).mp (lg_ne.1.mp h))) (fun h => kf (fun q => h (lg_ne.1.mpr ((zL_eq ha hB).mpr q))))
theorem z_lcmp_ne (hx : p.tables.exec = Jvm.exec) (hb : c.code = cc) {a b : Int} {off : Int} {tgt : Nat} (ha : zBL a) (hB : zBL b) (hd1 : decode cc pc = .ok (.lcmp, 1)) (hdg : decode cc (pc + 1) = .ok (.ifCond .ne off, 3)) (ht : ((pc + 1 : Nat) : Int) + off = (tgt : Int)) (kt : ¬ a = b → W p l e R s m args below meth c H locs cells slots Q (F0 m tgt ls rest)) (kf : a = b → W p l e R s m args below meth c H locs cells slots Q (F0 m (pc + 1 + 3) ls rest)) : W p l e R s m args below meth c H locs cells slots Q (F0 m pc ls (.long (zL b) :: .long (zL a) :: rest)) := by
  refine W.lcmp hx hb hd1 ?_
  exact lv_if_ne hx hb hdg ht (fun h => kt (fun q => h (lg_ne.1.mpr ((zL_eq ha hB).mpr q)))) (fun h => kf ((zL_eq ha hB).mp (lg_ne.1.mp h)))
theorem z_lcmp_lt (hx : p.tables.exec = Jvm.exec) (hb : c.code = cc) {a b : Int} {off : Int} {tgt : Nat} (ha : zBL a) (hB : zBL b) (hd1 : decode cc pc = .ok (.lcmp, 1)) (hdg : decode cc (pc + 1) = .ok (.ifCond .lt off, 3)) (ht : ((pc + 1 : Nat) : Int) + off = (tgt : Int)) (kt : a < b → W p l e R s m args below meth c H locs cells slots Q (F0 m tgt ls rest)) (kf : b ≤ a → W p l e R s m args below meth c H locs cells slots Q (F0 m (pc + 1 + 3) ls rest)) : W p l e R s m args below meth c H locs cells slots Q (F0 m pc ls (.long (zL b) :: .long (zL a) :: rest)) := by
  refine W.lcmp hx hb hd1 ?_
  exact lv_if_lt hx hb hdg ht (fun h => kt ((zL_lt ha hB).mp (lg_ne.2.1.mp h))) (fun h => kf (Int.not_lt.mp (fun q => h (lg_ne.2.1.mpr ((zL_lt ha hB).mpr q)))))
theorem z_lcmp_gt (hx : p.tables.exec = Jvm.exec) (hb : c.code = cc) {a b : Int} {off : Int} {tgt : Nat} (ha : zBL a) (hB : zBL b) (hd1 : decode cc pc = .ok (.lcmp, 1)) (hdg : decode cc (pc + 1) = .ok (.ifCond .gt off, 3)) (ht : ((pc + 1 : Nat) : Int) + off = (tgt : Int)) (kt : b < a → W p l e R s m args below meth c H locs cells slots Q (F0 m tgt ls rest)) (kf : a ≤ b → W p l e R s m args below meth c H locs cells slots Q (F0 m (pc + 1 + 3) ls rest)) : W p l e R s m args below meth c H locs cells slots Q (F0 m pc ls (.long (zL b) :: .long (zL a) :: rest)) := by
  refine W.lcmp hx hb hd1 ?_
  exact lv_if_gt hx hb hdg ht (fun h => kt ((zL_lt hB ha).mp (lg_ne.2.2.mp h))) (fun h => kf (Int.not_lt.mp (fun q => h (lg_ne.2.2.mpr ((zL_lt hB ha).mpr q)))))
theorem z_lcmp_ge (hx : p.tables.exec = Jvm.exec) (hb : c.code = cc) {a b : Int} {off : Int} {tgt : Nat} (ha : zBL a) (hB : zBL b) (hd1 : decode cc pc = .ok (.lcmp, 1)) (hdg : decode cc (pc + 1) = .ok (.ifCond .ge off, 3)) (ht : ((pc + 1 : Nat) : Int) + off = (tgt : Int)) (kt : b ≤ a → W p l e R s m args below meth c H locs cells slots Q (F0 m tgt ls rest)) (kf : a < b → W p l e R s m args below meth c H locs cells slots Q (F0 m (pc + 1 + 3) ls rest)) : W p l e R s m args below meth c H locs cells slots Q (F0 m pc ls (.long (zL b) :: .long (zL a) :: rest)) := by
  refine W.lcmp hx hb hd1 ?_
  exact lv_if_ge hx hb hdg ht (fun h => kt (Int.not_lt.mp (fun q => lg_nl h (lg_ne.2.1.mpr ((zL_lt ha hB).mpr q))))) (fun h => kf (by by_cases q : a < b; exact q; exact absurd (lg_nl' (fun z => q ((zL_lt ha hB).mp (lg_ne.2.1.mp z)))) h))
theorem z_lcmp_le (hx : p.tables.exec = Jvm.exec) (hb : c.code = cc) {a b : Int} {off : Int} {tgt : Nat} (ha : zBL a) (hB : zBL b) (hd1 : decode cc pc = .ok (.lcmp, 1)) (hdg : decode cc (pc + 1) = .ok (.ifCond .le off, 3)) (ht : ((pc + 1 : Nat) : Int) + off = (tgt : Int)) (kt : a ≤ b → W p l e R s m args below meth c H locs cells slots Q (F0 m tgt ls rest)) (kf : b < a → W p l e R s m args below meth c H locs cells slots Q (F0 m (pc + 1 + 3) ls rest)) : W p l e R s m args below meth c H locs cells slots Q (F0 m pc ls (.long (zL b) :: .long (zL a) :: rest)) := by
  refine W.lcmp hx hb hd1 ?_
  exact lv_if_le hx hb hdg ht (fun h => kt (Int.not_lt.mp (fun q => lg_ng h (lg_ne.2.2.mpr ((zL_lt hB ha).mpr q))))) (fun h => kf (by by_cases q : b < a; exact q; exact absurd (lg_ng' (fun z => q ((zL_lt hB ha).mp (lg_ne.2.2.mp z)))) h))
theorem z_if_eq_b (hx : p.tables.exec = Jvm.exec) (hb : c.code = cc) {P : Prop} [Decidable P] {off : Int} {tgt : Nat} (hdg : decode cc pc = .ok (.ifCond .eq off, 3)) (ht : (pc : Int) + off = (tgt : Int))
    (kt : ¬ P → W p l e R s m args below meth c H locs cells slots Q (F0 m tgt ls rest)) (kf : P → W p l e R s m args below meth c H locs cells slots Q (F0 m (pc + 3) ls rest)) : W p l e R s m args below meth c H locs cells slots Q (F0 m pc ls (.int (zI (zb P)) :: rest)) := by
  by_cases h : P
  · rw [zb_t h]
    exact lv_if_eq hx hb hdg ht (fun q => absurd q (by decide)) (fun _ => kf h)
  · rw [zb_f h]
    exact lv_if_eq hx hb hdg ht (fun _ => kt h) (fun q => absurd rfl q)
theorem z_if_ne_b (hx : p.tables.exec = Jvm.exec) (hb : c.code = cc) {P : Prop} [Decidable P] {off : Int} {tgt : Nat} (hdg : decode cc pc = .ok (.ifCond .ne off, 3)) (ht : (pc : Int) + off = (tgt : Int))
    (kt : P → W p l e R s m args below meth c H locs cells slots Q (F0 m tgt ls rest)) (kf : ¬ P → W p l e R s m args below meth c H locs cells slots Q (F0 m (pc + 3) ls rest)) : W p l e R s m args below meth c H locs cells slots Q (F0 m pc ls (.int (zI (zb P)) :: rest)) := by
  by_cases h : P
  · rw [zb_t h]
    exact lv_if_ne hx hb hdg ht (fun _ => kt h) (fun q => absurd q (by decide))
  · rw [zb_f h]
    exact lv_if_ne hx hb hdg ht (fun q => absurd rfl q) (fun _ => kf h)
theorem z_iinc (hx : p.tables.exec = Jvm.exec) (hb : c.code = cc) {i k : Nat} {n x : Int} {lv lv' : List (Nat × Value)} (hdg : decode cc pc = .ok (.iinc i n, 3)) (h : lv_has ls nL lv) (hk : lv[k]? = some (i, .int (zI x))) (hn : i < nL) (hl : (i, Value.int (zI (x + n))) :: lv.filter (fun q => !(q.1 == i) && !(q.1 + 1 == i && q.2.category == 2)) = lv')
    (kk : ∀ l2 : Array Slot, lv_has l2 nL lv' → W p l e R s m args below meth c H locs cells slots Q (F0 m (pc + 3) l2 rest)) : W p l e R s m args below meth c H locs cells slots Q (F0 m pc ls rest) :=
  lv_iinc (v := zI (x + n)) hx hb hdg h hk (zI_add x n).symm hn hl kk
theorem z_get {ref C : String} {T : u_T} {N ci index a : Nat} (hx : p.tables.exec = Jvm.exec) (hb : c.code = cc) (hown : s.vm.findClass own = some m.cls) (hts : ∀ w ∈ Ts, w.before args s = true) (w : zW D A H0 s ws H locs) (hin : ∀ w ∈ u_ws C T N, w ∈ Ts) (q0 k : Nat) {fs : List Value} (he : ws[q0]? = some (a, .inr (ci, fs))) (hc : vwCl[ci]? = some (C, T, N)) (hk : k < N)
    (hlink : (Cond.fieldLink own index ref (T k).2.1 (T k).2.2.1).before args s = true) (href : (T k).1 = ref) {v : Value} (hv : fs[k]? = some v) (hdg : decode cc pc = .ok (.getfield index, 3)) (kk : W p l e R s m args below meth c H locs cells slots Q (F0 m (pc + 3) ls (v :: rest))) : W p l e R s m args below meth c H locs cells slots Q (F0 m pc ls (.ref a :: rest)) :=
  va_get (D := D.1) hx hb hts hin hown w.1.1 w.2.1 q0 he hc k hk hlink (fun _ h => href ▸ h) hv hdg kk
theorem z_put {ref C : String} {T : u_T} {N ci index a : Nat} (hx : p.tables.exec = Jvm.exec) (hb : c.code = cc) (hown : s.vm.findClass own = some m.cls) (hts : ∀ w ∈ Ts, w.before args s = true) (w : zW D A H0 s ws H locs) (hin : ∀ w ∈ u_ws C T N, w ∈ Ts) (ty0 : Nat → FieldType) (hty : ∀ k, k < N → parseFieldDescriptor (T k).2.2.1 = some (ty0 k)) (hnm : ∀ a, a < N → ∀ b, b < N → a ≠ b → (T a).2.1 ≠ (T b).2.1) (q0 k : Nat) {fs : List Value} (he : ws[q0]? = some (a, .inr (ci, fs))) (hc : vwCl[ci]? = some (C, T, N)) (hk : k < N)
    (hlink : (Cond.fieldLink own index ref (T k).2.1 (T k).2.2.1).before args s = true) (href : (T k).1 = ref) (hfin : (T k).2.2.2 = false) {ty : FieldType} {v : Value} (hd : ty0 k = ty) (hn : narrow ty v = v) (hfit : fits ty v = true) (hl : k < fs.length) (hdg : decode cc pc = .ok (.putfield index, 3))
    (kk : ∀ (H1 : Heap) (locs1 : List Loc), zW D A H0 s (ws.set q0 (a, .inr (ci, fs.set k v))) H1 locs1 → W p l e R s m args below meth c H1 locs1 cells slots Q (F0 m (pc + 3) ls rest)) : W p l e R s m args below meth c H locs cells slots Q (F0 m pc ls (v :: .ref a :: rest)) :=
  va_put (D := D.1) hx hb hts hin ty0 hty hnm hown w.1.1 w.2.1 w.2.2.1 w.2.2.2.1 q0 he hc k hk hlink (fun _ h => href ▸ h) hfin (by rw [hty k hk, hd]) hn hfit hl hdg (fun H1 locs1 hP hD hS => kk H1 locs1 ⟨w.1, hP, hD, hS, w.2.2.2.2⟩)
theorem z_iald {a n : Nat} {f : Nat → Int32} (hx : p.tables.exec = Jvm.exec) (hb : c.code = cc) (w : zW D A H0 s ws H locs) (q0 : Nat) (ha : ws[q0]? = some (a, .inl (D.2 0, n, .inl f))) {x : Int} (j : Nat) (hj : j < n) (hn : n < 2147483648) (hxj : x = (j : Int)) {v : Int32} (hv : f j = v) (hdg : decode cc pc = .ok (.iaload, 1))
    (kk : W p l e R s m args below meth c H locs cells slots Q (F0 m (pc + 1) ls (.int v :: rest))) : W p l e R s m args below meth c H locs cells slots Q (F0 m pc ls (.int (zI x) :: .ref a :: rest)) := by
  subst hxj
  refine va_iald (D := D.1) hx hb w.1.1 w.2.1 q0 0 ha rfl (zI_in hj hn) hdg ?_
  rw [zI_clamp (by omega), hv]; exact kk
theorem z_cald {a n : Nat} {f : Nat → Int32} (hx : p.tables.exec = Jvm.exec) (hb : c.code = cc) (w : zW D A H0 s ws H locs) (q0 : Nat) (ha : ws[q0]? = some (a, .inl (D.2 2, n, .inl f))) {x : Int} (j : Nat) (hj : j < n) (hn : n < 2147483648) (hxj : x = (j : Int)) {v : Int32} (hv : f j = v) (hdg : decode cc pc = .ok (.caload, 1))
    (kk : W p l e R s m args below meth c H locs cells slots Q (F0 m (pc + 1) ls (.int v :: rest))) : W p l e R s m args below meth c H locs cells slots Q (F0 m pc ls (.int (zI x) :: .ref a :: rest)) := by
  subst hxj
  refine va_cald (D := D.1) hx hb w.1.1 w.2.1 q0 2 ha rfl (zI_in hj hn) hdg ?_
  rw [zI_clamp (by omega), hv]; exact kk
theorem z_zald {a n : Nat} {f : Nat → Int32} (hx : p.tables.exec = Jvm.exec) (hb : c.code = cc) (w : zW D A H0 s ws H locs) (q0 : Nat) (ha : ws[q0]? = some (a, .inl (D.2 3, n, .inl f))) {x : Int} (j : Nat) (hj : j < n) (hn : n < 2147483648) (hxj : x = (j : Int)) {v : Int32} (hv : f j = v) (hdg : decode cc pc = .ok (.baload, 1))
    (kk : W p l e R s m args below meth c H locs cells slots Q (F0 m (pc + 1) ls (.int v :: rest))) : W p l e R s m args below meth c H locs cells slots Q (F0 m pc ls (.int (zI x) :: .ref a :: rest)) := by
  subst hxj
  refine va_zald (D := D.1) hx hb w.1.1 w.2.1 q0 3 ha rfl (zI_in hj hn) hdg ?_
  rw [zI_clamp (by omega), hv]; exact kk
theorem z_lald {a n : Nat} {f : Nat → Int64} (hx : p.tables.exec = Jvm.exec) (hb : c.code = cc) (w : zW D A H0 s ws H locs) (q0 : Nat) (ha : ws[q0]? = some (a, .inl (D.2 1, n, .inr (.inl f)))) {x : Int} (j : Nat) (hj : j < n) (hn : n < 2147483648) (hxj : x = (j : Int)) {v : Int64} (hv : f j = v) (hdg : decode cc pc = .ok (.laload, 1))
    (kk : W p l e R s m args below meth c H locs cells slots Q (F0 m (pc + 1) ls (.long v :: rest))) : W p l e R s m args below meth c H locs cells slots Q (F0 m pc ls (.int (zI x) :: .ref a :: rest)) := by
  subst hxj
  refine va_lald (D := D.1) hx hb w.1.1 w.2.1 q0 1 ha rfl (zI_in hj hn) hdg ?_
  rw [zI_clamp (by omega), hv]; exact kk
theorem z_aald {a n t0 : Nat} {C : FieldType} {f : Nat → Option Nat} (hx : p.tables.exec = Jvm.exec) (hb : c.code = cc) (w : zW D A H0 s ws H locs) (q0 : Nat) (ht : (zT D)[t0]? = some (D.2 t0, C)) (hC : C.isReference = true) (ha : ws[q0]? = some (a, .inl (D.2 t0, n, .inr (.inr (.inr (.inr f)))))) {x : Int} (j : Nat) (hj : j < n) (hn : n < 2147483648) (hxj : x = (j : Int)) {v : Nat} (hv : f j = some v) (hdg : decode cc pc = .ok (.aaload, 1))
    (kk : W p l e R s m args below meth c H locs cells slots Q (F0 m (pc + 1) ls (.ref v :: rest))) : W p l e R s m args below meth c H locs cells slots Q (F0 m pc ls (.int (zI x) :: .ref a :: rest)) := by
  subst hxj
  have hin := zI_in hj hn
  have hlt : (zI (j : Int)).toNatClampNeg < n := Nat.not_le.mp fun q => hin (Or.inr q)
  exact W.aald (v := .ref v) (ty := C) hx hb (w.2.1 q0 _ ha) ((w.1.1.2 t0 _ ht).1 n (fun j => va_rf (f j))) hC (fun q => by cases q) (by show ¬ ((zI (j : Int)) < 0 ∨ (arrV _ _ _).slots.size ≤ _); rw [arrV_size]; exact hin) (by show (arrV _ _ _).slots[_]? = _; rw [arrV_read _ _ hlt, zI_clamp (by omega), hv]; rfl) rfl rfl hdg kk
theorem z_iast {a n : Nat} {f : Nat → Int32} (hx : p.tables.exec = Jvm.exec) (hb : c.code = cc) (w : zW D A H0 s ws H locs) (q0 : Nat) (ha : ws[q0]? = some (a, .inl (D.2 0, n, .inl f))) {x : Int} {y : Int32} (j : Nat) (hj : j < n) (hn : n < 2147483648) (hxj : x = (j : Int)) (hdg : decode cc pc = .ok (.iastore, 1)) (g : Nat → Int32) (hg : ∀ i, i < n → upd f j y i = g i)
    (kk : ∀ (H1 : Heap) (locs1 : List Loc), zW D A H0 s (ws.set q0 (a, .inl (D.2 0, n, .inl g))) H1 locs1 → W p l e R s m args below meth c H1 locs1 cells slots Q (F0 m (pc + 1) ls rest)) : W p l e R s m args below meth c H locs cells slots Q (F0 m pc ls (.int y :: .int (zI x) :: .ref a :: rest)) := by
  subst hxj
  refine va_iast (D := D.1) hx hb w.1.1 w.2.1 w.2.2.1 w.2.2.2.1 q0 0 ha rfl (zI_in hj hn) hdg (fun H1 locs1 hP hD hS => ?_)
  rw [zI_clamp (by omega)] at hP hD
  have w1 : zW D A H0 s _ H1 locs1 := ⟨w.1, hP, hD, hS, w.2.2.2.2⟩
  have hl := (List.getElem?_eq_some_iff.mp ha).1
  have w2 := w1.arr q0 (List.getElem?_set_self hl) (zE_i hg)
  rw [List.set_set] at w2
  exact kk H1 locs1 w2
theorem z_cast {a n : Nat} {f : Nat → Int32} (hx : p.tables.exec = Jvm.exec) (hb : c.code = cc) (w : zW D A H0 s ws H locs) (q0 : Nat) (ha : ws[q0]? = some (a, .inl (D.2 2, n, .inl f))) {x : Int} {y : Int32} (j : Nat) (hj : j < n) (hn : n < 2147483648) (hxj : x = (j : Int)) (hdg : decode cc pc = .ok (.castore, 1)) (g : Nat → Int32) (hg : ∀ i, i < n → upd f j (vp_nar .char y) i = g i)
    (kk : ∀ (H1 : Heap) (locs1 : List Loc), zW D A H0 s (ws.set q0 (a, .inl (D.2 2, n, .inl g))) H1 locs1 → W p l e R s m args below meth c H1 locs1 cells slots Q (F0 m (pc + 1) ls rest)) : W p l e R s m args below meth c H locs cells slots Q (F0 m pc ls (.int y :: .int (zI x) :: .ref a :: rest)) := by
  subst hxj
  refine va_cast (D := D.1) hx hb w.1.1 w.2.1 w.2.2.1 w.2.2.2.1 q0 2 ha rfl (zI_in hj hn) hdg (fun H1 locs1 hP hD hS => ?_)
  rw [zI_clamp (by omega)] at hP hD
  have w1 : zW D A H0 s _ H1 locs1 := ⟨w.1, hP, hD, hS, w.2.2.2.2⟩
  have hl := (List.getElem?_eq_some_iff.mp ha).1
  have w2 := w1.arr q0 (List.getElem?_set_self hl) (zE_i hg)
  rw [List.set_set] at w2
  exact kk H1 locs1 w2
theorem z_zast {a n : Nat} {f : Nat → Int32} (hx : p.tables.exec = Jvm.exec) (hb : c.code = cc) (w : zW D A H0 s ws H locs) (q0 : Nat) (ha : ws[q0]? = some (a, .inl (D.2 3, n, .inl f))) {x : Int} {y : Int32} (j : Nat) (hj : j < n) (hn : n < 2147483648) (hxj : x = (j : Int)) (hdg : decode cc pc = .ok (.bastore, 1)) (g : Nat → Int32) (hg : ∀ i, i < n → upd f j (vp_nar .boolean y) i = g i)
    (kk : ∀ (H1 : Heap) (locs1 : List Loc), zW D A H0 s (ws.set q0 (a, .inl (D.2 3, n, .inl g))) H1 locs1 → W p l e R s m args below meth c H1 locs1 cells slots Q (F0 m (pc + 1) ls rest)) : W p l e R s m args below meth c H locs cells slots Q (F0 m pc ls (.int y :: .int (zI x) :: .ref a :: rest)) := by
  subst hxj
  refine va_zast (D := D.1) hx hb w.1.1 w.2.1 w.2.2.1 w.2.2.2.1 q0 3 ha rfl (zI_in hj hn) hdg (fun H1 locs1 hP hD hS => ?_)
  rw [zI_clamp (by omega)] at hP hD
  have w1 : zW D A H0 s _ H1 locs1 := ⟨w.1, hP, hD, hS, w.2.2.2.2⟩
  have hl := (List.getElem?_eq_some_iff.mp ha).1
  have w2 := w1.arr q0 (List.getElem?_set_self hl) (zE_i hg)
  rw [List.set_set] at w2
  exact kk H1 locs1 w2
theorem z_last {a n : Nat} {f : Nat → Int64} (hx : p.tables.exec = Jvm.exec) (hb : c.code = cc) (w : zW D A H0 s ws H locs) (q0 : Nat) (ha : ws[q0]? = some (a, .inl (D.2 1, n, .inr (.inl f)))) {x : Int} {y : Int64} (j : Nat) (hj : j < n) (hn : n < 2147483648) (hxj : x = (j : Int)) (hdg : decode cc pc = .ok (.lastore, 1)) (g : Nat → Int64) (hg : ∀ i, i < n → vp_updL f j y i = g i)
    (kk : ∀ (H1 : Heap) (locs1 : List Loc), zW D A H0 s (ws.set q0 (a, .inl (D.2 1, n, .inr (.inl g)))) H1 locs1 → W p l e R s m args below meth c H1 locs1 cells slots Q (F0 m (pc + 1) ls rest)) : W p l e R s m args below meth c H locs cells slots Q (F0 m pc ls (.long y :: .int (zI x) :: .ref a :: rest)) := by
  subst hxj
  refine va_last (D := D.1) hx hb w.1.1 w.2.1 w.2.2.1 w.2.2.2.1 q0 1 ha rfl (zI_in hj hn) hdg (fun H1 locs1 hP hD hS => ?_)
  rw [zI_clamp (by omega)] at hP hD
  have w1 : zW D A H0 s _ H1 locs1 := ⟨w.1, hP, hD, hS, w.2.2.2.2⟩
  have hl := (List.getElem?_eq_some_iff.mp ha).1
  have w2 := w1.arr q0 (List.getElem?_set_self hl) (zE_l hg)
  rw [List.set_set] at w2
  exact kk H1 locs1 w2
end ZKI
/-! ===== contracts, entries, ends, calls ===== -/
def zR (d : Nat) : Room := { frames := d, cells := 0, slots := 0, locals := 40 * d }
def zE0 : State → Prop := fun _ => True
theorem zE0_b : ∀ (U : State) (g : JFrame) (mk : MethodId) (a : Array Value), zE0 U → zE0 (U.calling g mk a) := fun _ _ _ _ _ => trivial
theorem zE0_h {H : Heap} {s : State} : ∀ U : State, U.heap = H → s.WarmedH U.vm → zE0 U := fun _ _ _ => trivial
def zPc (E : State → Prop) (D : zD) (av : List Value) (W0 : va_W) (sz : Nat) : Array Value → State → Prop := va_Pc av (fun U => U.heap.size = sz ∧ va_P D.1 vwCl W0 U.heap ∧ zK D U ∧ va_D (fun _ => True) W0 ∧ E U)
def zB1 (D : zD) (A : Nat → Prop) : va_W → State → Prop := fun W1 t => va_P D.1 vwCl W1 t.heap ∧ va_D A W1
def zM (l : Launch) (y : MethodName) (ws : List Cond) (rm : Room) (E : State → Prop) (D : zD) (av : List Value) (W0 : va_W) (Qf : (Nat → Prop) → Array Value → State → Outcome → State → Prop) : Prop :=
  ∀ sz : Nat, Met l y ws rm (zPc E D av W0 sz) (Qf (va_A W0 sz)) 0 0 (va_A W0 sz)
abbrev zQi (D : zD) (post : Int32 → va_W → Prop) : (Nat → Prop) → Array Value → State → Outcome → State → Prop := fun A => va_Qi post (zB1 D A) A
abbrev zQl (D : zD) (post : Int64 → va_W → Prop) : (Nat → Prop) → Array Value → State → Outcome → State → Prop := fun A => va_Ql post (zB1 D A) A
abbrev zQv (D : zD) (post : va_W → Prop) : (Nat → Prop) → Array Value → State → Outcome → State → Prop := fun A => va_Qv post (zB1 D A) A
theorem zPc_blind {E : State → Prop} (hEb : ∀ (U : State) (g : JFrame) (mk : MethodId) (a : Array Value), E U → E (U.calling g mk a)) {D : zD} {av : List Value} {W0 : va_W} {sz : Nat} : FrameBlind (zPc E D av W0 sz) :=
  fun a U g mk q => by
    obtain ⟨q0, q1, qP, qK, qD, qE⟩ := q
    exact ⟨q0, q1, qP, qK.calling, qD, hEb U g mk a qE⟩
/-- a method's proof begins here -/
theorem zM.of {l : Launch} {y : MethodName} {ws ws' : List Cond} {rm : Room} {E : State → Prop} {D : zD} {av : List Value} {W0 : va_W} {Qf : (Nat → Prop) → Array Value → State → Outcome → State → Prop} {cc : ByteArray} {maxL : Nat} {ret : Option FieldType} (hy : plainName y.cls = true) (hw : ws = Cond.code y cc maxL ret :: ws') (hlen : (lg_sl av).length ≤ maxL)
    (body : ∀ (p : Program) (e : Env) (s : State) (m : MethodId) (below : List Frame) (meth : Method) (c : Code) (A : Nat → Prop), p.tables.exec = Jvm.exec → c.code = cc → c.maxLocals = maxL → s.vm.findClass y.cls = some m.cls → (∀ w ∈ ws, w.before av.toArray s = true) → meth.sig.returnType = ret → meth.locks = false → E s → (meth.name = y.name) → zW D A s.heap s W0 s.heap [] → ∀ ls : Array Slot, lv_has ls maxL (lv_args 0 av) →
      W p l e rm s m av.toArray below meth c s.heap [] 0 0 (MQ below (Qf A) av.toArray s 0 0 A) (F0 m 0 ls [])) : zM l y ws rm E D av W0 Qf := by
  intro sz
  refine Met.ofW (cc := cc) (maxL := maxL) (ret := ret) hy hw ?_
  intro p e s m args below meth c s₁ B hml hv
  obtain ⟨rfl, hsz, hP, hK, hD0, hE⟩ := hv
  subst hsz
  have hl := lv_entry av (n := maxL) hlen
  rw [lg_entry_eq]
  exact body p e s m below meth c _ B.exec B.bytes hml (findClass_of_methodNamed B.named) (atoms_spec (ws := ws) B.pre) B.returns B.notSynchronized hE (name_of_methodNamed B.named B.method).1 ⟨hK, hP, hD0.self, va_S.rf, fun q h => Or.inr h⟩ _ hl
section ZKE
variable {p : Program} {l : Launch} {e : Env} {R : Room} {s : State} {m : MethodId} {args : Array Value} {below : List Frame} {meth : Method} {c : Code} {H : Heap} {locs : List Loc} {cells slots : Nat} {Q : State → Prop}
variable {cc : ByteArray} {pc : Nat} {ls : Array Slot} {rest st0 : List Value} {D : zD} {A : Nat → Prop} {ws Wc Wr W1 : va_W} {H0 : Heap} {nL : Nat} {Ts : List Cond} {own : String}
theorem z_iret {post : Int32 → va_W → Prop} {v : Int32} (hx : p.tables.exec = Jvm.exec) (hb : c.code = cc) (hr : meth.sig.returnType = some .int) (hlocks : meth.locks = false) (w : zW D A s.heap s W1 H locs) (hdg : decode cc pc = .ok (.ireturn, 1)) (hp : post v W1) : W p l e R s m args below meth c H locs cells slots (MQ below (zQi D post A) args s cells slots A) (F0 m pc ls [.int v]) :=
  W.iret hx hb hr (fun t ht hW => ⟨⟨v, W1, rfl, hp, ⟨by rw [ht]; exact w.2.1, w.2.2.1⟩⟩, w.2.2.2.1.F ht⟩) w.2.2.2.1.2.2 hdg hlocks
theorem z_zret {post : Int32 → va_W → Prop} {v : Int} (hx : p.tables.exec = Jvm.exec) (hb : c.code = cc) (hr : meth.sig.returnType = some .boolean) (hlocks : meth.locks = false) (w : zW D A s.heap s W1 H locs) (hdg : decode cc pc = .ok (.ireturn, 1)) (hv : v = 0 ∨ v = 1) (hp : post (zI v) W1) : W p l e R s m args below meth c H locs cells slots (MQ below (zQi D post A) args s cells slots A) (F0 m pc ls [.int (zI v)]) :=
  W.zret hx hb hr (by rcases hv with rfl | rfl <;> decide +kernel) (fun t ht hW => ⟨⟨zI v, W1, rfl, hp, ⟨by rw [ht]; exact w.2.1, w.2.2.1⟩⟩, w.2.2.2.1.F ht⟩) w.2.2.2.1.2.2 hdg hlocks
theorem z_cret {post : Int32 → va_W → Prop} {v : Int32} (hx : p.tables.exec = Jvm.exec) (hb : c.code = cc) (hr : meth.sig.returnType = some .char) (hlocks : meth.locks = false) (w : zW D A s.heap s W1 H locs) (hdg : decode cc pc = .ok (.ireturn, 1)) (hv : narrow .char (.int v) = .int v) (hp : post v W1) : W p l e R s m args below meth c H locs cells slots (MQ below (zQi D post A) args s cells slots A) (F0 m pc ls [.int v]) :=
  W.zret hx hb hr hv (fun t ht hW => ⟨⟨v, W1, rfl, hp, ⟨by rw [ht]; exact w.2.1, w.2.2.1⟩⟩, w.2.2.2.1.F ht⟩) w.2.2.2.1.2.2 hdg hlocks
theorem z_lret {post : Int64 → va_W → Prop} {v : Int64} (hx : p.tables.exec = Jvm.exec) (hb : c.code = cc) (hr : meth.sig.returnType = some .long) (hlocks : meth.locks = false) (w : zW D A s.heap s W1 H locs) (hdg : decode cc pc = .ok (.lreturn, 1)) (hp : post v W1) : W p l e R s m args below meth c H locs cells slots (MQ below (zQl D post A) args s cells slots A) (F0 m pc ls [.long v]) :=
  W.lret hx hb hr (fun t ht hW => ⟨⟨v, W1, rfl, hp, ⟨by rw [ht]; exact w.2.1, w.2.2.1⟩⟩, w.2.2.2.1.F ht⟩) w.2.2.2.1.2.2 hdg hlocks
theorem z_vret {post : va_W → Prop} (hx : p.tables.exec = Jvm.exec) (hb : c.code = cc) (hr : meth.sig.returnType = none) (hlocks : meth.locks = false) (w : zW D A s.heap s W1 H locs) (hdg : decode cc pc = .ok (.return_, 1)) (hp : post W1) : W p l e R s m args below meth c H locs cells slots (MQ below (zQv D post A) args s cells slots A) (F0 m pc ls []) :=
  W.vret hx hb hr (fun t ht hW => ⟨⟨W1, rfl, hp, ⟨by rw [ht]; exact w.2.1, w.2.2.1⟩⟩, w.2.2.2.1.F ht⟩) w.2.2.2.1.2.2 hdg hlocks
variable {y : MethodName} {bytes : ByteArray} {maxL n index : Nat} {ret : Option FieldType} {wsy : List Cond} {rm : Room} {E : State → Prop} {C : String} {b : Nat} {As : List Value} {Qf : (Nat → Prop) → Array Value → State → Outcome → State → Prop}

theorem zRunV (S : CallFix p m c cc nL s args Ts own) (hM : zM l y wsy rm E D (.ref b :: As) Wc Qf) (cw : CallW R s args own C index y bytes maxL ret wsy rm 0 0 n) (w : zW D A H0 s ws H locs) (hEb : ∀ (U : State) (g : JFrame) (mk : MethodId) (a : Array Value), E U → E (U.calling g mk a)) (hE : ∀ U : State, U.heap = H → s.WarmedH U.vm → E U) {q0 ci : Nat} {fs : List Value} {q : vw_C} (hrec : ws[q0]? = some (b, .inr (ci, fs))) (hci : vwCl[ci]? = some q) (hqC : q.1 = C) (isC : List Nat) (hC : isC.map (fun i => ws[i]?) = Wc.map some) (hnC : va_nd isC = true) (hlen : As.length = n) (hsize : ls.size = nL) (hst : st0 = As.reverse ++ .ref b :: rest) (hW : 2 * (F0 m pc ls st0).monitorRoom + (rest.map fun v => v.category).sum ≤ 8) (hdg : decode cc pc = .ok (.invokevirtual index, 3)) (hf : cells ≤ R.cells ∧ slots ≤ R.slots) : va_Run p l e R s m args below meth c H locs cells slots 0 0 (F0 m pc ls st0) rest (Qf (va_A Wc H.size) (.ref b :: As).toArray) (va_A Wc H.size) :=
  va_runV S (hM H.size) cw ⟨zPc_blind hEb, by rw [← hqC]; exact va_recv w.1.1 w.2.1 hci hrec, fun U hU hW => ⟨rfl, by rw [hU], by rw [hU]; exact (w.sub isC hnC hC).2.1, w.1.warm hW, (w.sub isC hnC hC).2.2.1.weaken (fun _ _ _ _ => trivial), hE U hU hW⟩⟩ rfl hlen hsize hst hW hdg hf
theorem zRunVN {host : String} (S : CallFix p m c cc nL s args Ts own) (hM : zM l y wsy rm E D (.ref b :: As) Wc Qf) (cw : (va_CN R s args own index y host bytes maxL ret wsy rm 0 0 n ∧ (Cond.instanceMethod y).before args s = true ∧ (Cond.selects C y y).before args s = true)) (w : zW D A H0 s ws H locs) (hEb : ∀ (U : State) (g : JFrame) (mk : MethodId) (a : Array Value), E U → E (U.calling g mk a)) (hE : ∀ U : State, U.heap = H → s.WarmedH U.vm → E U) {q0 ci : Nat} {fs : List Value} {q : vw_C} (hrec : ws[q0]? = some (b, .inr (ci, fs))) (hci : vwCl[ci]? = some q) (hqC : q.1 = C) (isC : List Nat) (hC : isC.map (fun i => ws[i]?) = Wc.map some) (hnC : va_nd isC = true) (hlen : As.length = n) (hsize : ls.size = nL) (hst : st0 = As.reverse ++ .ref b :: rest) (hW : 2 * (F0 m pc ls st0).monitorRoom + (rest.map fun v => v.category).sum ≤ 8) (hdg : decode cc pc = .ok (.invokevirtual index, 3)) (hf : cells ≤ R.cells ∧ slots ≤ R.slots) : va_Run p l e R s m args below meth c H locs cells slots 0 0 (F0 m pc ls st0) rest (Qf (va_A Wc H.size) (.ref b :: As).toArray) (va_A Wc H.size) :=
  va_runVN S (hM H.size) cw ⟨zPc_blind hEb, by rw [← hqC]; exact va_recv w.1.1 w.2.1 hci hrec, fun U hU hW => ⟨rfl, by rw [hU], by rw [hU]; exact (w.sub isC hnC hC).2.1, w.1.warm hW, (w.sub isC hnC hC).2.2.1.weaken (fun _ _ _ _ => trivial), hE U hU hW⟩⟩ rfl hlen hsize hst hW hdg hf
theorem zRunS (S : CallFix p m c cc nL s args Ts own) (hM : zM l y wsy rm E D (As) Wc Qf) (cw : (CallB R s args own index y bytes maxL ret wsy rm 0 0 n ∧ (Cond.static y).before args s = true)) (w : zW D A H0 s ws H locs) (hEb : ∀ (U : State) (g : JFrame) (mk : MethodId) (a : Array Value), E U → E (U.calling g mk a)) (hE : ∀ U : State, U.heap = H → s.WarmedH U.vm → E U)  (isC : List Nat) (hC : isC.map (fun i => ws[i]?) = Wc.map some) (hnC : va_nd isC = true) (hlen : As.length = n) (hsize : ls.size = nL) (hst : st0 = As.reverse ++ rest) (hW : 2 * (F0 m pc ls st0).monitorRoom + (rest.map fun v => v.category).sum ≤ 8) (hdg : decode cc pc = .ok (.invokestatic index, 3)) (hf : cells ≤ R.cells ∧ slots ≤ R.slots) : va_Run p l e R s m args below meth c H locs cells slots 0 0 (F0 m pc ls st0) rest (Qf (va_A Wc H.size) (As).toArray) (va_A Wc H.size) :=
  va_runS S (hM H.size) cw ⟨zPc_blind hEb, fun U hU hW => ⟨rfl, by rw [hU], by rw [hU]; exact (w.sub isC hnC hC).2.1, w.1.warm hW, (w.sub isC hnC hC).2.2.1.weaken (fun _ _ _ _ => trivial), hE U hU hW⟩⟩ rfl hlen hsize hst hW hdg hf
theorem zRunSN {host : String} (S : CallFix p m c cc nL s args Ts own) (hM : zM l y wsy rm E D (As) Wc Qf) (cw : (va_CN R s args own index y host bytes maxL ret wsy rm 0 0 n ∧ (Cond.static y).before args s = true ∧ True)) (w : zW D A H0 s ws H locs) (hEb : ∀ (U : State) (g : JFrame) (mk : MethodId) (a : Array Value), E U → E (U.calling g mk a)) (hE : ∀ U : State, U.heap = H → s.WarmedH U.vm → E U)  (isC : List Nat) (hC : isC.map (fun i => ws[i]?) = Wc.map some) (hnC : va_nd isC = true) (hlen : As.length = n) (hsize : ls.size = nL) (hst : st0 = As.reverse ++ rest) (hW : 2 * (F0 m pc ls st0).monitorRoom + (rest.map fun v => v.category).sum ≤ 8) (hdg : decode cc pc = .ok (.invokestatic index, 3)) (hf : cells ≤ R.cells ∧ slots ≤ R.slots) : va_Run p l e R s m args below meth c H locs cells slots 0 0 (F0 m pc ls st0) rest (Qf (va_A Wc H.size) (As).toArray) (va_A Wc H.size) :=
  va_runSN S (hM H.size) cw ⟨zPc_blind hEb, fun U hU hW => ⟨rfl, by rw [hU], by rw [hU]; exact (w.sub isC hnC hC).2.1, w.1.warm hW, (w.sub isC hnC hC).2.2.1.weaken (fun _ _ _ _ => trivial), hE U hU hW⟩⟩ rfl hlen hsize hst hW hdg hf
theorem z_fin_i {post : Int32 → va_W → Prop} {a : Array Value} (hr : va_Run p l e R s m args below meth c H locs cells slots 0 0 (F0 m pc ls st0) rest (zQi D post (va_A Wc H.size) a) (va_A Wc H.size)) (w : zW D A H0 s ws H locs) (isC : List Nat) (hC : isC.map (fun i => ws[i]?) = Wc.map some) (isR : List Nat) (hR : isR.map (fun i => ws[i]?) = Wr.map some) (hn : va_nd isR = true) (hdis : ∀ i ∈ isR, i ∉ isC)
    (kk : ∀ (r : Int32) (W1 : va_W) (H1 : Heap) (locs1 : List Loc), post r W1 → zW D A H0 s (Wr ++ W1) H1 locs1 → W p l e R s m args below meth c H1 locs1 cells slots Q (F0 m (pc + 3) ls (.int r :: rest))) : W p l e R s m args below meth c H locs cells slots Q (F0 m pc ls st0) := by
  have hF := va_free w.2.2.1 w.2.2.2.1 w.2.2.2.2 isC hC
  refine va_calli hr w.2.2.2.1 (fun q _ h => hF q h) hF (fun r u t H1 locs1 ht hvm hw hB hz hk hS => ?_)
  have hP1 := hB.1
  rw [ht] at hP1
  have hj := va_join w.2.1 w.2.2.1 isC isR hC hR hn hdis hk hF hP1 hB.2
  exact kk r u H1 locs1 hw ⟨w.1, hj.1, hj.2, hS, w.2.2.2.2⟩
theorem z_fin_l {post : Int64 → va_W → Prop} {a : Array Value} (hr : va_Run p l e R s m args below meth c H locs cells slots 0 0 (F0 m pc ls st0) rest (zQl D post (va_A Wc H.size) a) (va_A Wc H.size)) (w : zW D A H0 s ws H locs) (isC : List Nat) (hC : isC.map (fun i => ws[i]?) = Wc.map some) (isR : List Nat) (hR : isR.map (fun i => ws[i]?) = Wr.map some) (hn : va_nd isR = true) (hdis : ∀ i ∈ isR, i ∉ isC)
    (kk : ∀ (r : Int64) (W1 : va_W) (H1 : Heap) (locs1 : List Loc), post r W1 → zW D A H0 s (Wr ++ W1) H1 locs1 → W p l e R s m args below meth c H1 locs1 cells slots Q (F0 m (pc + 3) ls (.long r :: rest))) : W p l e R s m args below meth c H locs cells slots Q (F0 m pc ls st0) := by
  have hF := va_free w.2.2.1 w.2.2.2.1 w.2.2.2.2 isC hC
  refine va_calll hr w.2.2.2.1 (fun q _ h => hF q h) hF (fun r u t H1 locs1 ht hvm hw hB hz hk hS => ?_)
  have hP1 := hB.1
  rw [ht] at hP1
  have hj := va_join w.2.1 w.2.2.1 isC isR hC hR hn hdis hk hF hP1 hB.2
  exact kk r u H1 locs1 hw ⟨w.1, hj.1, hj.2, hS, w.2.2.2.2⟩
theorem z_fin_v {post : va_W → Prop} {a : Array Value} (hr : va_Run p l e R s m args below meth c H locs cells slots 0 0 (F0 m pc ls st0) rest (zQv D post (va_A Wc H.size) a) (va_A Wc H.size)) (w : zW D A H0 s ws H locs) (isC : List Nat) (hC : isC.map (fun i => ws[i]?) = Wc.map some) (isR : List Nat) (hR : isR.map (fun i => ws[i]?) = Wr.map some) (hn : va_nd isR = true) (hdis : ∀ i ∈ isR, i ∉ isC)
    (kk : ∀ (W1 : va_W) (H1 : Heap) (locs1 : List Loc), post W1 → zW D A H0 s (Wr ++ W1) H1 locs1 → W p l e R s m args below meth c H1 locs1 cells slots Q (F0 m (pc + 3) ls (rest))) : W p l e R s m args below meth c H locs cells slots Q (F0 m pc ls st0) := by
  have hF := va_free w.2.2.1 w.2.2.2.1 w.2.2.2.2 isC hC
  refine va_callv hr w.2.2.2.1 (fun q _ h => hF q h) hF (fun u t H1 locs1 ht hvm hw hB hz hk hS => ?_)
  have hP1 := hB.1
  rw [ht] at hP1
  have hj := va_join w.2.1 w.2.2.1 isC isR hC hR hn hdis hk hF hP1 hB.2
  exact kk u H1 locs1 hw ⟨w.1, hj.1, hj.2, hS, w.2.2.2.2⟩
theorem z_V_i {post : Int32 → va_W → Prop} (S : CallFix p m c cc nL s args Ts own) (hM : zM l y wsy rm zE0 D (.ref b :: As) Wc (zQi D post)) (cw : CallW R s args own C index y bytes maxL ret wsy rm 0 0 n) (w : zW D A H0 s ws H locs) {q0 ci : Nat} {fs : List Value} {q : vw_C} (hrec : ws[q0]? = some (b, .inr (ci, fs))) (hci : vwCl[ci]? = some q) (hqC : q.1 = C) (isC : List Nat) (hC : isC.map (fun i => ws[i]?) = Wc.map some) (hnC : va_nd isC = true) (isR : List Nat) (hR : isR.map (fun i => ws[i]?) = Wr.map some) (hn : va_nd isR = true) (hdis : ∀ i ∈ isR, i ∉ isC) (hlen : As.length = n) (hsize : ls.size = nL) (hst : st0 = As.reverse ++ .ref b :: rest) (hW : 2 * (F0 m pc ls st0).monitorRoom + (rest.map fun v => v.category).sum ≤ 8) (hdg : decode cc pc = .ok (.invokevirtual index, 3)) (hf : cells ≤ R.cells ∧ slots ≤ R.slots)
    (kk : ∀ (r : Int32) (W1 : va_W) (H1 : Heap) (locs1 : List Loc), post r W1 → zW D A H0 s (Wr ++ W1) H1 locs1 → W p l e R s m args below meth c H1 locs1 cells slots Q (F0 m (pc + 3) ls (.int r :: rest))) : W p l e R s m args below meth c H locs cells slots Q (F0 m pc ls st0) :=
  z_fin_i (zRunV S hM cw w zE0_b zE0_h hrec hci hqC isC hC hnC hlen hsize hst hW hdg hf) w isC hC isR hR hn hdis kk
theorem z_V_l {post : Int64 → va_W → Prop} (S : CallFix p m c cc nL s args Ts own) (hM : zM l y wsy rm zE0 D (.ref b :: As) Wc (zQl D post)) (cw : CallW R s args own C index y bytes maxL ret wsy rm 0 0 n) (w : zW D A H0 s ws H locs) {q0 ci : Nat} {fs : List Value} {q : vw_C} (hrec : ws[q0]? = some (b, .inr (ci, fs))) (hci : vwCl[ci]? = some q) (hqC : q.1 = C) (isC : List Nat) (hC : isC.map (fun i => ws[i]?) = Wc.map some) (hnC : va_nd isC = true) (isR : List Nat) (hR : isR.map (fun i => ws[i]?) = Wr.map some) (hn : va_nd isR = true) (hdis : ∀ i ∈ isR, i ∉ isC) (hlen : As.length = n) (hsize : ls.size = nL) (hst : st0 = As.reverse ++ .ref b :: rest) (hW : 2 * (F0 m pc ls st0).monitorRoom + (rest.map fun v => v.category).sum ≤ 8) (hdg : decode cc pc = .ok (.invokevirtual index, 3)) (hf : cells ≤ R.cells ∧ slots ≤ R.slots)
    (kk : ∀ (r : Int64) (W1 : va_W) (H1 : Heap) (locs1 : List Loc), post r W1 → zW D A H0 s (Wr ++ W1) H1 locs1 → W p l e R s m args below meth c H1 locs1 cells slots Q (F0 m (pc + 3) ls (.long r :: rest))) : W p l e R s m args below meth c H locs cells slots Q (F0 m pc ls st0) :=
  z_fin_l (zRunV S hM cw w zE0_b zE0_h hrec hci hqC isC hC hnC hlen hsize hst hW hdg hf) w isC hC isR hR hn hdis kk
theorem z_V_v {post : va_W → Prop} (S : CallFix p m c cc nL s args Ts own) (hM : zM l y wsy rm zE0 D (.ref b :: As) Wc (zQv D post)) (cw : CallW R s args own C index y bytes maxL ret wsy rm 0 0 n) (w : zW D A H0 s ws H locs) {q0 ci : Nat} {fs : List Value} {q : vw_C} (hrec : ws[q0]? = some (b, .inr (ci, fs))) (hci : vwCl[ci]? = some q) (hqC : q.1 = C) (isC : List Nat) (hC : isC.map (fun i => ws[i]?) = Wc.map some) (hnC : va_nd isC = true) (isR : List Nat) (hR : isR.map (fun i => ws[i]?) = Wr.map some) (hn : va_nd isR = true) (hdis : ∀ i ∈ isR, i ∉ isC) (hlen : As.length = n) (hsize : ls.size = nL) (hst : st0 = As.reverse ++ .ref b :: rest) (hW : 2 * (F0 m pc ls st0).monitorRoom + (rest.map fun v => v.category).sum ≤ 8) (hdg : decode cc pc = .ok (.invokevirtual index, 3)) (hf : cells ≤ R.cells ∧ slots ≤ R.slots)
    (kk : ∀ (W1 : va_W) (H1 : Heap) (locs1 : List Loc), post W1 → zW D A H0 s (Wr ++ W1) H1 locs1 → W p l e R s m args below meth c H1 locs1 cells slots Q (F0 m (pc + 3) ls (rest))) : W p l e R s m args below meth c H locs cells slots Q (F0 m pc ls st0) :=
  z_fin_v (zRunV S hM cw w zE0_b zE0_h hrec hci hqC isC hC hnC hlen hsize hst hW hdg hf) w isC hC isR hR hn hdis kk
theorem z_VN_i {host : String} {post : Int32 → va_W → Prop} (S : CallFix p m c cc nL s args Ts own) (hM : zM l y wsy rm zE0 D (.ref b :: As) Wc (zQi D post)) (cw : (va_CN R s args own index y host bytes maxL ret wsy rm 0 0 n ∧ (Cond.instanceMethod y).before args s = true ∧ (Cond.selects C y y).before args s = true)) (w : zW D A H0 s ws H locs) {q0 ci : Nat} {fs : List Value} {q : vw_C} (hrec : ws[q0]? = some (b, .inr (ci, fs))) (hci : vwCl[ci]? = some q) (hqC : q.1 = C) (isC : List Nat) (hC : isC.map (fun i => ws[i]?) = Wc.map some) (hnC : va_nd isC = true) (isR : List Nat) (hR : isR.map (fun i => ws[i]?) = Wr.map some) (hn : va_nd isR = true) (hdis : ∀ i ∈ isR, i ∉ isC) (hlen : As.length = n) (hsize : ls.size = nL) (hst : st0 = As.reverse ++ .ref b :: rest) (hW : 2 * (F0 m pc ls st0).monitorRoom + (rest.map fun v => v.category).sum ≤ 8) (hdg : decode cc pc = .ok (.invokevirtual index, 3)) (hf : cells ≤ R.cells ∧ slots ≤ R.slots)
    (kk : ∀ (r : Int32) (W1 : va_W) (H1 : Heap) (locs1 : List Loc), post r W1 → zW D A H0 s (Wr ++ W1) H1 locs1 → W p l e R s m args below meth c H1 locs1 cells slots Q (F0 m (pc + 3) ls (.int r :: rest))) : W p l e R s m args below meth c H locs cells slots Q (F0 m pc ls st0) :=
  z_fin_i (zRunVN S hM cw w zE0_b zE0_h hrec hci hqC isC hC hnC hlen hsize hst hW hdg hf) w isC hC isR hR hn hdis kk
theorem z_VN_l {host : String} {post : Int64 → va_W → Prop} (S : CallFix p m c cc nL s args Ts own) (hM : zM l y wsy rm zE0 D (.ref b :: As) Wc (zQl D post)) (cw : (va_CN R s args own index y host bytes maxL ret wsy rm 0 0 n ∧ (Cond.instanceMethod y).before args s = true ∧ (Cond.selects C y y).before args s = true)) (w : zW D A H0 s ws H locs) {q0 ci : Nat} {fs : List Value} {q : vw_C} (hrec : ws[q0]? = some (b, .inr (ci, fs))) (hci : vwCl[ci]? = some q) (hqC : q.1 = C) (isC : List Nat) (hC : isC.map (fun i => ws[i]?) = Wc.map some) (hnC : va_nd isC = true) (isR : List Nat) (hR : isR.map (fun i => ws[i]?) = Wr.map some) (hn : va_nd isR = true) (hdis : ∀ i ∈ isR, i ∉ isC) (hlen : As.length = n) (hsize : ls.size = nL) (hst : st0 = As.reverse ++ .ref b :: rest) (hW : 2 * (F0 m pc ls st0).monitorRoom + (rest.map fun v => v.category).sum ≤ 8) (hdg : decode cc pc = .ok (.invokevirtual index, 3)) (hf : cells ≤ R.cells ∧ slots ≤ R.slots)
    (kk : ∀ (r : Int64) (W1 : va_W) (H1 : Heap) (locs1 : List Loc), post r W1 → zW D A H0 s (Wr ++ W1) H1 locs1 → W p l e R s m args below meth c H1 locs1 cells slots Q (F0 m (pc + 3) ls (.long r :: rest))) : W p l e R s m args below meth c H locs cells slots Q (F0 m pc ls st0) :=
  z_fin_l (zRunVN S hM cw w zE0_b zE0_h hrec hci hqC isC hC hnC hlen hsize hst hW hdg hf) w isC hC isR hR hn hdis kk
theorem z_VN_v {host : String} {post : va_W → Prop} (S : CallFix p m c cc nL s args Ts own) (hM : zM l y wsy rm zE0 D (.ref b :: As) Wc (zQv D post)) (cw : (va_CN R s args own index y host bytes maxL ret wsy rm 0 0 n ∧ (Cond.instanceMethod y).before args s = true ∧ (Cond.selects C y y).before args s = true)) (w : zW D A H0 s ws H locs) {q0 ci : Nat} {fs : List Value} {q : vw_C} (hrec : ws[q0]? = some (b, .inr (ci, fs))) (hci : vwCl[ci]? = some q) (hqC : q.1 = C) (isC : List Nat) (hC : isC.map (fun i => ws[i]?) = Wc.map some) (hnC : va_nd isC = true) (isR : List Nat) (hR : isR.map (fun i => ws[i]?) = Wr.map some) (hn : va_nd isR = true) (hdis : ∀ i ∈ isR, i ∉ isC) (hlen : As.length = n) (hsize : ls.size = nL) (hst : st0 = As.reverse ++ .ref b :: rest) (hW : 2 * (F0 m pc ls st0).monitorRoom + (rest.map fun v => v.category).sum ≤ 8) (hdg : decode cc pc = .ok (.invokevirtual index, 3)) (hf : cells ≤ R.cells ∧ slots ≤ R.slots)
    (kk : ∀ (W1 : va_W) (H1 : Heap) (locs1 : List Loc), post W1 → zW D A H0 s (Wr ++ W1) H1 locs1 → W p l e R s m args below meth c H1 locs1 cells slots Q (F0 m (pc + 3) ls (rest))) : W p l e R s m args below meth c H locs cells slots Q (F0 m pc ls st0) :=
  z_fin_v (zRunVN S hM cw w zE0_b zE0_h hrec hci hqC isC hC hnC hlen hsize hst hW hdg hf) w isC hC isR hR hn hdis kk
theorem z_S_i {post : Int32 → va_W → Prop} (S : CallFix p m c cc nL s args Ts own) (hM : zM l y wsy rm zE0 D (As) Wc (zQi D post)) (cw : (CallB R s args own index y bytes maxL ret wsy rm 0 0 n ∧ (Cond.static y).before args s = true)) (w : zW D A H0 s ws H locs)  (isC : List Nat) (hC : isC.map (fun i => ws[i]?) = Wc.map some) (hnC : va_nd isC = true) (isR : List Nat) (hR : isR.map (fun i => ws[i]?) = Wr.map some) (hn : va_nd isR = true) (hdis : ∀ i ∈ isR, i ∉ isC) (hlen : As.length = n) (hsize : ls.size = nL) (hst : st0 = As.reverse ++ rest) (hW : 2 * (F0 m pc ls st0).monitorRoom + (rest.map fun v => v.category).sum ≤ 8) (hdg : decode cc pc = .ok (.invokestatic index, 3)) (hf : cells ≤ R.cells ∧ slots ≤ R.slots)
    (kk : ∀ (r : Int32) (W1 : va_W) (H1 : Heap) (locs1 : List Loc), post r W1 → zW D A H0 s (Wr ++ W1) H1 locs1 → W p l e R s m args below meth c H1 locs1 cells slots Q (F0 m (pc + 3) ls (.int r :: rest))) : W p l e R s m args below meth c H locs cells slots Q (F0 m pc ls st0) :=
  z_fin_i (zRunS S hM cw w zE0_b zE0_h isC hC hnC hlen hsize hst hW hdg hf) w isC hC isR hR hn hdis kk
theorem z_S_l {post : Int64 → va_W → Prop} (S : CallFix p m c cc nL s args Ts own) (hM : zM l y wsy rm zE0 D (As) Wc (zQl D post)) (cw : (CallB R s args own index y bytes maxL ret wsy rm 0 0 n ∧ (Cond.static y).before args s = true)) (w : zW D A H0 s ws H locs)  (isC : List Nat) (hC : isC.map (fun i => ws[i]?) = Wc.map some) (hnC : va_nd isC = true) (isR : List Nat) (hR : isR.map (fun i => ws[i]?) = Wr.map some) (hn : va_nd isR = true) (hdis : ∀ i ∈ isR, i ∉ isC) (hlen : As.length = n) (hsize : ls.size = nL) (hst : st0 = As.reverse ++ rest) (hW : 2 * (F0 m pc ls st0).monitorRoom + (rest.map fun v => v.category).sum ≤ 8) (hdg : decode cc pc = .ok (.invokestatic index, 3)) (hf : cells ≤ R.cells ∧ slots ≤ R.slots)
    (kk : ∀ (r : Int64) (W1 : va_W) (H1 : Heap) (locs1 : List Loc), post r W1 → zW D A H0 s (Wr ++ W1) H1 locs1 → W p l e R s m args below meth c H1 locs1 cells slots Q (F0 m (pc + 3) ls (.long r :: rest))) : W p l e R s m args below meth c H locs cells slots Q (F0 m pc ls st0) :=
  z_fin_l (zRunS S hM cw w zE0_b zE0_h isC hC hnC hlen hsize hst hW hdg hf) w isC hC isR hR hn hdis kk
theorem z_S_v {post : va_W → Prop} (S : CallFix p m c cc nL s args Ts own) (hM : zM l y wsy rm zE0 D (As) Wc (zQv D post)) (cw : (CallB R s args own index y bytes maxL ret wsy rm 0 0 n ∧ (Cond.static y).before args s = true)) (w : zW D A H0 s ws H locs)  (isC : List Nat) (hC : isC.map (fun i => ws[i]?) = Wc.map some) (hnC : va_nd isC = true) (isR : List Nat) (hR : isR.map (fun i => ws[i]?) = Wr.map some) (hn : va_nd isR = true) (hdis : ∀ i ∈ isR, i ∉ isC) (hlen : As.length = n) (hsize : ls.size = nL) (hst : st0 = As.reverse ++ rest) (hW : 2 * (F0 m pc ls st0).monitorRoom + (rest.map fun v => v.category).sum ≤ 8) (hdg : decode cc pc = .ok (.invokestatic index, 3)) (hf : cells ≤ R.cells ∧ slots ≤ R.slots)
    (kk : ∀ (W1 : va_W) (H1 : Heap) (locs1 : List Loc), post W1 → zW D A H0 s (Wr ++ W1) H1 locs1 → W p l e R s m args below meth c H1 locs1 cells slots Q (F0 m (pc + 3) ls (rest))) : W p l e R s m args below meth c H locs cells slots Q (F0 m pc ls st0) :=
  z_fin_v (zRunS S hM cw w zE0_b zE0_h isC hC hnC hlen hsize hst hW hdg hf) w isC hC isR hR hn hdis kk
theorem z_SN_i {host : String} {post : Int32 → va_W → Prop} (S : CallFix p m c cc nL s args Ts own) (hM : zM l y wsy rm zE0 D (As) Wc (zQi D post)) (cw : (va_CN R s args own index y host bytes maxL ret wsy rm 0 0 n ∧ (Cond.static y).before args s = true ∧ True)) (w : zW D A H0 s ws H locs)  (isC : List Nat) (hC : isC.map (fun i => ws[i]?) = Wc.map some) (hnC : va_nd isC = true) (isR : List Nat) (hR : isR.map (fun i => ws[i]?) = Wr.map some) (hn : va_nd isR = true) (hdis : ∀ i ∈ isR, i ∉ isC) (hlen : As.length = n) (hsize : ls.size = nL) (hst : st0 = As.reverse ++ rest) (hW : 2 * (F0 m pc ls st0).monitorRoom + (rest.map fun v => v.category).sum ≤ 8) (hdg : decode cc pc = .ok (.invokestatic index, 3)) (hf : cells ≤ R.cells ∧ slots ≤ R.slots)
    (kk : ∀ (r : Int32) (W1 : va_W) (H1 : Heap) (locs1 : List Loc), post r W1 → zW D A H0 s (Wr ++ W1) H1 locs1 → W p l e R s m args below meth c H1 locs1 cells slots Q (F0 m (pc + 3) ls (.int r :: rest))) : W p l e R s m args below meth c H locs cells slots Q (F0 m pc ls st0) :=
  z_fin_i (zRunSN S hM cw w zE0_b zE0_h isC hC hnC hlen hsize hst hW hdg hf) w isC hC isR hR hn hdis kk
theorem z_SN_l {host : String} {post : Int64 → va_W → Prop} (S : CallFix p m c cc nL s args Ts own) (hM : zM l y wsy rm zE0 D (As) Wc (zQl D post)) (cw : (va_CN R s args own index y host bytes maxL ret wsy rm 0 0 n ∧ (Cond.static y).before args s = true ∧ True)) (w : zW D A H0 s ws H locs)  (isC : List Nat) (hC : isC.map (fun i => ws[i]?) = Wc.map some) (hnC : va_nd isC = true) (isR : List Nat) (hR : isR.map (fun i => ws[i]?) = Wr.map some) (hn : va_nd isR = true) (hdis : ∀ i ∈ isR, i ∉ isC) (hlen : As.length = n) (hsize : ls.size = nL) (hst : st0 = As.reverse ++ rest) (hW : 2 * (F0 m pc ls st0).monitorRoom + (rest.map fun v => v.category).sum ≤ 8) (hdg : decode cc pc = .ok (.invokestatic index, 3)) (hf : cells ≤ R.cells ∧ slots ≤ R.slots)
    (kk : ∀ (r : Int64) (W1 : va_W) (H1 : Heap) (locs1 : List Loc), post r W1 → zW D A H0 s (Wr ++ W1) H1 locs1 → W p l e R s m args below meth c H1 locs1 cells slots Q (F0 m (pc + 3) ls (.long r :: rest))) : W p l e R s m args below meth c H locs cells slots Q (F0 m pc ls st0) :=
  z_fin_l (zRunSN S hM cw w zE0_b zE0_h isC hC hnC hlen hsize hst hW hdg hf) w isC hC isR hR hn hdis kk
theorem z_SN_v {host : String} {post : va_W → Prop} (S : CallFix p m c cc nL s args Ts own) (hM : zM l y wsy rm zE0 D (As) Wc (zQv D post)) (cw : (va_CN R s args own index y host bytes maxL ret wsy rm 0 0 n ∧ (Cond.static y).before args s = true ∧ True)) (w : zW D A H0 s ws H locs)  (isC : List Nat) (hC : isC.map (fun i => ws[i]?) = Wc.map some) (hnC : va_nd isC = true) (isR : List Nat) (hR : isR.map (fun i => ws[i]?) = Wr.map some) (hn : va_nd isR = true) (hdis : ∀ i ∈ isR, i ∉ isC) (hlen : As.length = n) (hsize : ls.size = nL) (hst : st0 = As.reverse ++ rest) (hW : 2 * (F0 m pc ls st0).monitorRoom + (rest.map fun v => v.category).sum ≤ 8) (hdg : decode cc pc = .ok (.invokestatic index, 3)) (hf : cells ≤ R.cells ∧ slots ≤ R.slots)
    (kk : ∀ (W1 : va_W) (H1 : Heap) (locs1 : List Loc), post W1 → zW D A H0 s (Wr ++ W1) H1 locs1 → W p l e R s m args below meth c H1 locs1 cells slots Q (F0 m (pc + 3) ls (rest))) : W p l e R s m args below meth c H locs cells slots Q (F0 m pc ls st0) :=
  z_fin_v (zRunSN S hM cw w zE0_b zE0_h isC hC hnC hlen hsize hst hW hdg hf) w isC hC isR hR hn hdis kk
end ZKE
