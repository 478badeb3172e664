/-! ===== the state as one row of numbers: 0 items; 1 + what + 4 i an item's worth, sizes; 65.. limits; 68.. multipliers; 71 rule; 72 STEP; 73 steps since; 74 steps; 75 best bound; 76 best set (-6 none); 77 sets in the bundle; 78.. them ===== -/
def sC (S : Nat → Int) (what i : Nat) : Int := S (1 + what + 4 * i)
def zn (S : Nat → Int) : Nat := (S 0).toNat
def fC (S : Nat → Int) (what : Nat) : Nat → Int32 := fun i => if i < 16 then zI (sC S what i) else 0
def fLm (S : Nat → Int) : Nat → Int32 := fun d => if d < 3 then zI (S (65 + d)) else 0
def fMu (M : Nat → Int) : Nat → Int32 := fun d => if d < 3 then zI (M d) else 0
def fSt (S : Nat → Int) : Nat → Int32 := fun k => if k < 8 then zI (S (78 + k)) else 0
def fNow (S : Nat → Int) : Nat → Int64 := fun k => if k < 86 then zL (S k) else 0
def f3 (h0 h1 h2 : Nat) : Nat → Option Nat := fun d => if d = 0 then some h0 else if d = 1 then some h1 else some h2
def mu (S : Nat → Int) : Nat → Int := fun d => S (68 + d)
def sSum : Nat → (Nat → Int) → Int
  | 0, _ => 0
  | k + 1, f => sSum k f + f k
def sUse (S : Nat → Int) (set what : Nat) : Int := sSum (zn S) (fun i => if set.testBit i = true then sC S what i else 0)
def sPr (S M : Nat → Int) (i : Nat) : Int := 100 * sC S 0 i - M 0 * sC S 1 i - M 1 * sC S 2 i - M 2 * sC S 3 i
def sRelN (S M : Nat → Int) : Nat → Nat
  | 0 => 0
  | k + 1 => if 0 < sPr S M k then sRelN S M k ||| 2 ^ k else sRelN S M k
def sRel (S M : Nat → Int) : Nat := sRelN S M (zn S)
def sBd (S M : Nat → Int) : Int := sSum (zn S) (fun i => max 0 (sPr S M i)) + M 0 * S 65 + M 1 * S 66 + M 2 * S 67
abbrev sFit (S : Nat → Int) (set : Nat) : Prop := (sUse S set 1 ≤ S 65 ∧ sUse S set 2 ≤ S 66) ∧ sUse S set 3 ≤ S 67
def sSz (S : Nat → Int) (i : Nat) : Int := sC S 1 i + sC S 2 i + sC S 3 i
/-- the item that goes first, of the first k ones; -1: none -/
def sLst (S : Nat → Int) (set : Nat) : Nat → Int
  | 0 => -1
  | k + 1 => if (set.testBit k = true ∧ 0 < sSz S k) ∧ (sLst S set k < 0 ∨ sC S 0 k * sSz S (sLst S set k).toNat < sC S 0 (sLst S set k).toNat * sSz S k) then (k : Int) else sLst S set k
def sTake (S : Nat → Int) : Nat → Nat → Nat
  | 0, set => set
  | f + 1, set => if sFit S set then set else sTake S f (zclr set (2 ^ (max 0 (sLst S set (zn S))).toNat))
def sAdd (S : Nat → Int) (set : Nat) : Nat → Nat
  | 0 => set
  | k + 1 => if sFit S (sAdd S set k ||| 2 ^ k) then sAdd S set k ||| 2 ^ k else sAdd S set k
def sMend (S : Nat → Int) (set : Nat) : Nat := sAdd S (sTake S 16 set) (zn S)
/-- what holds of items and limits -/
def OkP (S : Nat → Int) : Prop := (0 ≤ S 0 ∧ S 0 ≤ 16) ∧ (∀ i, i < 16 → (0 ≤ sC S 0 i ∧ sC S 0 i ≤ 999) ∧ (0 ≤ sC S 1 i ∧ sC S 1 i ≤ 99) ∧ (0 ≤ sC S 2 i ∧ sC S 2 i ≤ 99) ∧ 0 ≤ sC S 3 i ∧ sC S 3 i ≤ 99) ∧ (0 ≤ S 65 ∧ S 65 ≤ 999) ∧ (0 ≤ S 66 ∧ S 66 ≤ 999) ∧ 0 ≤ S 67 ∧ S 67 ≤ 999
def OkM (M : Nat → Int) : Prop := (0 ≤ M 0 ∧ M 0 ≤ 999999) ∧ (0 ≤ M 1 ∧ M 1 ≤ 999999) ∧ 0 ≤ M 2 ∧ M 2 ≤ 999999
theorem zn_eq {S : Nat → Int} (h : OkP S) : S 0 = ((zn S : Nat) : Int) := (Int.toNat_of_nonneg h.1.1).symm
theorem zn_le {S : Nat → Int} (h : OkP S) : zn S ≤ 16 := by have := zn_eq h; have := h.1; omega
theorem mul_b {a b A B : Int} (ha : 0 ≤ a ∧ a ≤ A) (hb : 0 ≤ b ∧ b ≤ B) : 0 ≤ a * b ∧ a * b ≤ A * B :=
  ⟨Int.mul_nonneg ha.1 hb.1, Int.mul_le_mul ha.2 hb.2 hb.1 (Int.le_trans ha.1 ha.2)⟩
theorem sSum_b {f : Nat → Int} {b : Int} : ∀ (n : Nat), (∀ i, i < n → 0 ≤ f i ∧ f i ≤ b) → 0 ≤ sSum n f ∧ sSum n f ≤ n * b
  | 0, _ => by simp [sSum]
  | k + 1, h => by
    have h1 := sSum_b k (fun i hi => h i (by omega))
    have h2 := h k (by omega)
    have e : ((k + 1 : Nat) : Int) * b = k * b + b := by rw [Int.natCast_add, Int.add_mul]; simp
    rw [e]
    show 0 ≤ sSum k f + f k ∧ sSum k f + f k ≤ _
    omega
theorem sSum_congr {f g : Nat → Int} : ∀ (n : Nat), (∀ i, i < n → f i = g i) → sSum n f = sSum n g
  | 0, _ => rfl
  | k + 1, h => by
    show sSum k f + f k = sSum k g + g k
    rw [sSum_congr k (fun i hi => h i (by omega)), h k (by omega)]
theorem sC_b {S : Nat → Int} (h : OkP S) {i what : Nat} (hi : i < 16) (hw : what ≤ 3) : 0 ≤ sC S what i ∧ sC S what i ≤ 999 ∧ (1 ≤ what → sC S what i ≤ 99) := by
  have := h.2.1 i hi
  match what, hw with
  | 0, _ => omega
  | 1, _ => omega
  | 2, _ => omega
  | 3, _ => omega
theorem sUse_b {S : Nat → Int} (h : OkP S) (set : Nat) {what : Nat} (hw : what ≤ 3) : 0 ≤ sUse S set what ∧ sUse S set what ≤ 15984 ∧ (1 ≤ what → sUse S set what ≤ 1584) := by
  have h16 := zn_le h
  have a : 0 ≤ sUse S set what ∧ sUse S set what ≤ (zn S : Int) * 999 := sSum_b (b := 999) (zn S) (fun i hi => by
    have := sC_b h (i := i) (by omega) hw
    try dsimp only
    split <;> omega)
  refine ⟨a.1, by omega, fun h1 => ?_⟩
  have b : 0 ≤ sUse S set what ∧ sUse S set what ≤ (zn S : Int) * 99 := sSum_b (b := 99) (zn S) (fun i hi => by
    have := sC_b h (i := i) (by omega) hw
    have := this.2.2 h1
    try dsimp only
    split <;> omega)
  omega
theorem sPr_b {S M : Nat → Int} (h : OkP S) (hM : OkM M) {i : Nat} (hi : i < 16) : -300000000 ≤ sPr S M i ∧ sPr S M i ≤ 99900 := by
  have a := h.2.1 i hi
  have m0 := mul_b hM.1 a.2.1
  have m1 := mul_b hM.2.1 a.2.2.1
  have m2 := mul_b hM.2.2 a.2.2.2
  unfold sPr
  omega
theorem sSz_b {S : Nat → Int} (h : OkP S) {i : Nat} (hi : i < 16) : 0 ≤ sSz S i ∧ sSz S i ≤ 297 := by
  have a := h.2.1 i hi
  unfold sSz
  omega
theorem sBd_b {S M : Nat → Int} (h : OkP S) (hM : OkM M) : 0 ≤ sBd S M ∧ sBd S M ≤ 3000000000 := by
  have h16 := zn_le h
  have a : 0 ≤ sSum (zn S) (fun i => max 0 (sPr S M i)) ∧ sSum (zn S) (fun i => max 0 (sPr S M i)) ≤ (zn S : Int) * 99900 := sSum_b (b := 99900) (zn S) (fun i hi => by
    have := sPr_b h hM (i := i) (by omega)
    try dsimp only
    omega)
  have m0 := mul_b hM.1 h.2.2.1
  have m1 := mul_b hM.2.1 h.2.2.2.1
  have m2 := mul_b hM.2.2 h.2.2.2.2
  unfold sBd
  omega
theorem zt_bit (a b : Nat) : (a >>> b &&& 1) = 1 ↔ a.testBit b = true := by
  unfold Nat.testBit
  rw [Nat.and_comm 1 (a >>> b)]
  have h : a >>> b &&& 1 ≤ 1 := Nat.and_le_right
  constructor
  · intro q; rw [q]; rfl
  · intro q
    have : (a >>> b &&& 1) ≠ 0 := by simpa using q
    omega
theorem zt_le (a b : Nat) : a >>> b &&& 1 ≤ 1 := Nat.and_le_right
theorem zor_lt {a b n : Nat} (ha : a < 2 ^ n) (hb : b < n) : a ||| 2 ^ b < 2 ^ n := Nat.or_lt_two_pow ha (Nat.pow_lt_pow_right (by decide) hb)
theorem sRelN_lt (S M : Nat → Int) : ∀ n, sRelN S M n < 2 ^ n
  | 0 => by simp [sRelN]
  | k + 1 => by
    have h := sRelN_lt S M k
    have h2 : 2 ^ k < 2 ^ (k + 1) := Nat.pow_lt_pow_right (by decide) (by omega)
    unfold sRelN
    split
    · exact zor_lt (by omega) (by omega)
    · omega
/-! cells of the class -/
def wPk (D : zD) (hp hw hz h0 h1 h2 hl : Nat) (S : Nat → Int) : va_W := [(hp, .inr (2, [.ref hw, .ref hz, .ref hl, .int (zI (S 0))])), (hw, .inl (D.2 0, 16, .inl (fC S 0))), (hz, .inl (D.2 5, 3, .inr (.inr (.inr (.inr (f3 h0 h1 h2)))))), (h0, .inl (D.2 0, 16, .inl (fC S 1))), (h1, .inl (D.2 0, 16, .inl (fC S 2))), (h2, .inl (D.2 0, 16, .inl (fC S 3))), (hl, .inl (D.2 0, 3, .inl (fLm S)))]
def wPm (D : zD) (hp hw hz h0 h1 h2 hl hm : Nat) (S M : Nat → Int) : va_W := [(hp, .inr (2, [.ref hw, .ref hz, .ref hl, .int (zI (S 0))])), (hw, .inl (D.2 0, 16, .inl (fC S 0))), (hz, .inl (D.2 5, 3, .inr (.inr (.inr (.inr (f3 h0 h1 h2)))))), (h0, .inl (D.2 0, 16, .inl (fC S 1))), (h1, .inl (D.2 0, 16, .inl (fC S 2))), (h2, .inl (D.2 0, 16, .inl (fC S 3))), (hl, .inl (D.2 0, 3, .inl (fLm S))), (hm, .inl (D.2 0, 3, .inl (fMu M)))]
