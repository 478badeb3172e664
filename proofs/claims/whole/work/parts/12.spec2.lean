/-! ===== changes of the row of numbers ===== -/
def zu (S : Nat → Int) (k : Nat) (v : Int) : Nat → Int := fun j => if j = k then v else S j
theorem zu_s (S : Nat → Int) (k : Nat) (v : Int) : zu S k v k = v := if_pos rfl
theorem zu_n (S : Nat → Int) {k j : Nat} (v : Int) (h : j ≠ k) : zu S k v j = S j := if_neg h
/-- an item comes -/
def sAp (S : Nat → Int) (w a b c : Int) : Nat → Int := zu (zu (zu (zu (zu S (1 + 4 * zn S) w) (2 + 4 * zn S) a) (3 + 4 * zn S) b) (4 + 4 * zn S) c) 0 (S 0 + 1)
/-- item k goes -/
def sRm (S : Nat → Int) (k : Nat) : Nat → Int := fun j => if j = 0 then S 0 - 1 else if 1 + 4 * k ≤ j ∧ j + 4 < 1 + 4 * zn S then S (j + 4) else S j
theorem upd_s (f : Nat → Int32) (k : Nat) (x : Int32) : upd f k x k = x := by simp [upd]
theorem upd_n (f : Nat → Int32) {k j : Nat} (x : Int32) (h : j ≠ k) : upd f k x j = f j := by simp [upd, h]
theorem sC_ap {S : Nat → Int} {w a b c : Int} {what i : Nat} (hw : what ≤ 3) : sC (sAp S w a b c) what i = if i = zn S then (if what = 0 then w else if what = 1 then a else if what = 2 then b else c) else sC S what i := by
  unfold sC sAp zu
  match what, hw with
  | 0, _ => by_cases h : i = zn S <;> simp [h] <;> omega
  | 1, _ => by_cases h : i = zn S <;> simp [h] <;> omega
  | 2, _ => by_cases h : i = zn S <;> simp [h] <;> omega
  | 3, _ => by_cases h : i = zn S <;> simp [h] <;> omega
theorem fC_ap {S : Nat → Int} {w a b c : Int} {what i : Nat} (hw : what ≤ 3) (hi : i < 16) {x : Int} (hx : x = if what = 0 then w else if what = 1 then a else if what = 2 then b else c) : upd (fC S what) (zn S) (zI x) i = fC (sAp S w a b c) what i := by
  have e1 : fC (sAp S w a b c) what i = zI (sC (sAp S w a b c) what i) := if_pos hi
  have e2 : fC S what i = zI (sC S what i) := if_pos hi
  rw [e1, sC_ap hw]
  by_cases h : i = zn S
  · rw [if_pos h, ← hx]; subst h; rw [upd_s]
  · rw [upd_n _ _ h, if_neg h, e2]
theorem sAp_far {S : Nat → Int} {w a b c : Int} (h : zn S < 16) {j : Nat} (hj : 65 ≤ j) : sAp S w a b c j = S j := by
  unfold sAp
  rw [zu_n _ _ (by omega), zu_n _ _ (by omega), zu_n _ _ (by omega), zu_n _ _ (by omega), zu_n _ _ (by omega)]
theorem fLm_ap {S : Nat → Int} {w a b c : Int} (h : zn S < 16) : fLm (sAp S w a b c) = fLm S := by
  funext d
  unfold fLm
  rw [sAp_far h (by omega)]
theorem sC_rm {S : Nat → Int} {k what i : Nat} (hw : what ≤ 3) : sC (sRm S k) what i = if k ≤ i ∧ i + 1 < zn S then sC S what (i + 1) else sC S what i := by
  unfold sC sRm
  have h0 : ¬ (1 + what + 4 * i = 0) := by omega
  rw [if_neg h0]
  by_cases h : k ≤ i ∧ i + 1 < zn S
  · rw [if_pos h, if_pos (by omega)]
    congr 1
  · rw [if_neg h, if_neg (by omega)]
theorem fC_rm {S : Nat → Int} {k what : Nat} (hw : what ≤ 3) (hk : k < zn S) (h16 : zn S ≤ 16) {i : Nat} (hi : i < 16) : va_cpy (fC S what) (fC S what) (k + 1) k (zn S - k - 1) i = fC (sRm S k) what i := by
  have e1 : fC (sRm S k) what i = zI (sC (sRm S k) what i) := if_pos hi
  rw [e1]
  unfold va_cpy
  rw [sC_rm hw]
  by_cases h : k ≤ i ∧ i + 1 < zn S
  · rw [if_pos (by omega), if_pos h]
    have e : k + 1 + (i - k) = i + 1 := by omega
    rw [e]
    exact if_pos (by omega)
  · rw [if_neg (by omega), if_neg h]
    exact if_pos hi
theorem sRm_far {S : Nat → Int} {k : Nat} (h : zn S ≤ 16) {j : Nat} (hj : 65 ≤ j) : sRm S k j = S j := by
  unfold sRm
  rw [if_neg (by omega), if_neg (by omega)]
theorem fLm_rm {S : Nat → Int} {k : Nat} (h : zn S ≤ 16) : fLm (sRm S k) = fLm S := by
  funext d
  unfold fLm
  rw [sRm_far h (by omega)]
theorem sLst_b (S : Nat → Int) (set : Nat) : ∀ n : Nat, -1 ≤ sLst S set n ∧ sLst S set n < n
  | 0 => by simp [sLst]
  | k + 1 => by
    have h := sLst_b S set k
    unfold sLst
    split <;> omega
theorem zclr_lt {a b n : Nat} (ha : a < 2 ^ n) : zclr a b < 2 ^ n := Nat.xor_lt_two_pow ha (Nat.lt_of_le_of_lt Nat.and_le_left ha)
theorem zclr_16 {a b : Nat} (ha : a < 65536) : zclr a b < 65536 := zclr_lt (n := 16) ha
theorem zor_16 {a b : Nat} (ha : a < 65536) (hb : b < 16) : a ||| 2 ^ b < 65536 := zor_lt (n := 16) ha hb
theorem sAdd_lt {S : Nat → Int} {set : Nat} (h : set < 65536) : ∀ n : Nat, n ≤ 16 → sAdd S set n < 65536
  | 0, _ => h
  | k + 1, hk => by
    have h1 := sAdd_lt (S := S) h k (by omega)
    unfold sAdd
    split
    · exact zor_16 h1 (by omega)
    · exact h1
theorem zt_mask (n : Nat) : ((2 ^ n : Nat) : Int) - 1 = ((2 ^ n - 1 : Nat) : Int) := by
  have : 0 < 2 ^ n := Nat.pow_pos (by decide)
  omega
theorem zt_masklt {a n : Nat} (hn : n ≤ 16) : a &&& (2 ^ n - 1) < 65536 := by
  have h : a &&& (2 ^ n - 1) ≤ 2 ^ n - 1 := Nat.and_le_right
  have h2 : 2 ^ n ≤ 2 ^ 16 := Nat.pow_le_pow_right (by decide) hn
  have h3 : 0 < 2 ^ n := Nat.pow_pos (by decide)
  omega
theorem zt_2p {n : Nat} (hn : n ≤ 16) : 2 ^ n ≤ 65536 := Nat.pow_le_pow_right (n := 2) (by decide) hn
/-- what takes a set out of the bundle's first k places; how many are left -/
def sTo (S : Nat → Int) (x : Int) : Nat → Nat × (Nat → Int)
  | 0 => (0, S)
  | k + 1 => if (sTo S x k).2 (78 + k) = x then sTo S x k else ((sTo S x k).1 + 1, zu (sTo S x k).2 (78 + (sTo S x k).1) ((sTo S x k).2 (78 + k)))
def zk (S : Nat → Int) : Nat := (S 77).toNat
def sOut (S : Nat → Int) (x : Int) : Nat → Int := zu (sTo S x (zk S)).2 77 ((sTo S x (zk S)).1 : Int)
def sPut (S : Nat → Int) (x : Int) : Nat → Int := zu (zu S (78 + zk S) x) 77 (S 77 + 1)
/-- the class's way -/
def sBuC (S : Nat → Int) (x : Int) : Nat → Int := if 8 ≤ sOut S x 77 then sPut (sOut (sOut S x) (sOut S x 78)) x else sPut (sOut S x) x
def OkB (S : Nat → Int) : Prop := (0 ≤ S 77 ∧ S 77 ≤ 8) ∧ (∀ k, k < 8 → 0 ≤ S (78 + k) ∧ S (78 + k) ≤ 65535) ∧ ∀ a b, a < b → b < zk S → S (78 + a) ≠ S (78 + b)
theorem zk_eq {S : Nat → Int} (h : OkB S) : S 77 = ((zk S : Nat) : Int) := (Int.toNat_of_nonneg h.1.1).symm
theorem sTo_le (S : Nat → Int) (x : Int) : ∀ k, (sTo S x k).1 ≤ k
  | 0 => Nat.le_refl 0
  | k + 1 => by
    have h := sTo_le S x k
    unfold sTo
    split <;> omega
theorem sTo_far (S : Nat → Int) (x : Int) : ∀ (k j : Nat), (j < 78 ∨ 78 + k ≤ j) → (sTo S x k).2 j = S j
  | 0, _, _ => rfl
  | k + 1, j, hj => by
    have h := sTo_far S x k j (by omega)
    have hl := sTo_le S x k
    unfold sTo
    split
    · exact h
    · show zu _ _ _ j = _
      rw [zu_n _ _ (by omega)]
      exact h
theorem fSt_zu {S : Nat → Int} {k : Nat} {v : Int} {i : Nat} (hi : i < 8) : upd (fSt S) k (zI v) i = fSt (zu S (78 + k) v) i := by
  have e1 : fSt (zu S (78 + k) v) i = zI (zu S (78 + k) v (78 + i)) := if_pos hi
  have e2 : fSt S i = zI (S (78 + i)) := if_pos hi
  rw [e1]
  by_cases h : i = k
  · subst h; rw [upd_s, zu_s]
  · rw [upd_n _ _ h, zu_n _ _ (by omega), e2]
theorem fSt_zu77 {S : Nat → Int} {v : Int} : fSt (zu S 77 v) = fSt S := by
  funext i
  unfold fSt
  rw [zu_n _ _ (by omega)]
def wBu (D : zD) (hbu hs : Nat) (S : Nat → Int) : va_W := [(hbu, .inr (0, [.ref hs, .int (zI (S 77))])), (hs, .inl (D.2 0, 8, .inl (fSt S)))]
section ZKL
variable {p : Program} {l : Launch} {e : Env} {R : Room} {s : State} {m : MethodId} {args : Array Value} {below : List Frame} {meth : Method} {c : Code} {H : Heap} {locs : List Loc} {cells slots : Nat} {Q : State → Prop}
variable {cc : ByteArray} {pc : Nat} {ls : Array Slot} {rest : List Value} {D : zD} {A : Nat → Prop} {ws : va_W} {H0 : Heap} {own : String}
theorem z_alen {a t0 : Nat} {x : vp_A} {ty : FieldType} (hx : p.tables.exec = Jvm.exec) (hb : c.code = cc) (w : zW D A H0 s ws H locs) (q0 : Nat) (ht : (zT D)[t0]? = some (D.2 t0, ty)) (ha : ws[q0]? = some (a, .inl (D.2 t0, x))) {v : Int32} (hv : Int32.ofNat x.1 = v) (hdg : decode cc pc = .ok (.arraylength, 1))
    (kk : W p l e R s m args below meth c H locs cells slots Q (F0 m (pc + 1) ls (.int v :: rest))) : W p l e R s m args below meth c H locs cells slots Q (F0 m pc ls (.ref a :: rest)) :=
  va_alen (D := D.1) hx hb w.1.1 w.2.1 q0 t0 ha ht hv hdg kk
end ZKL
theorem sTake_end {S : Nat → Int} {k n s0 : Nat} (h : sTake S n k = sTake S 16 s0) (hf : n = 0 ∨ sFit S k) : k = sTake S 16 s0 := by
  rw [← h]
  rcases hf with rfl | hf
  · rfl
  · cases n with
    | zero => rfl
    | succ f => unfold sTake; rw [if_pos hf]
theorem zcpy_all {f g : Nat → Int32} {n i : Nat} (h : i < n) : va_cpy f g 0 0 n i = f i := by
  unfold va_cpy
  rw [if_pos (by omega)]
  congr 1
  omega
theorem sLst_s (S : Nat → Int) (set k : Nat) : sLst S set (k + 1) = if (set.testBit k = true ∧ 0 < sSz S k) ∧ (sLst S set k < 0 ∨ sC S 0 k * sSz S (sLst S set k).toNat < sC S 0 (sLst S set k).toNat * sSz S k) then (k : Int) else sLst S set k := rfl
theorem sTo_s (S : Nat → Int) (x : Int) (k : Nat) : sTo S x (k + 1) = if (sTo S x k).2 (78 + k) = x then sTo S x k else ((sTo S x k).1 + 1, zu (sTo S x k).2 (78 + (sTo S x k).1) ((sTo S x k).2 (78 + k))) := rfl
