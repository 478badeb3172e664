/-! ===== flat rows of states; sets of all items ===== -/
def fFl (n : Nat) (P : Nat → Int) : Nat → Int64 := fun q => if q < n then zL (P q) else 0
def fLy (F G : Nat → Int64) (fa ta k : Nat) : Nat → Int64 := fun q => if ta ≤ q ∧ q < ta + k then F (fa + (q - ta)) else G q
def lay (P : Nat → Int) (o : Nat) (S : Nat → Int) : Nat → Int := fun q => if o ≤ q ∧ q < o + 86 then S (q - o) else P q
def shf (P : Nat → Int) : Nat → Int := fun q => if q < 430 then P (q + 86) else P q
def shk (P : Nat → Int) (m : Nat) : Nat → Int := fun q => if q < m then P (q + 86) else P q
def hP (P : Nat → Int) (c : Nat) (S : Nat → Int) : Nat → Int := lay (if c = 6 then shf P else P) (86 * min c 5) S
theorem fLy_0 (F G : Nat → Int64) (fa ta : Nat) : fLy F G fa ta 0 = G := by
  funext q
  unfold fLy
  rw [if_neg (by omega)]
theorem fLy_s (F G : Nat → Int64) (fa ta k : Nat) : vp_updL (fLy F G fa ta k) (ta + k) (F (fa + k)) = fLy F G fa ta (k + 1) := by
  funext q
  by_cases h : q = ta + k
  · subst h
    rw [updL_s]
    unfold fLy
    rw [if_pos (by omega)]
    congr 1
    omega
  · rw [updL_n _ _ h]
    unfold fLy
    by_cases c : ta ≤ q ∧ q < ta + k
    · rw [if_pos c, if_pos (by omega)]
    · rw [if_neg c, if_neg (by omega)]
theorem fLy_lay {n1 n2 fa ta : Nat} {P Q : Nat → Int} (h1 : fa + 86 ≤ n1) (h2 : ta + 86 ≤ n2) : fLy (fFl n1 P) (fFl n2 Q) fa ta 86 = fFl n2 (lay Q ta (fun k => P (fa + k))) := by
  funext q
  unfold fLy fFl lay
  by_cases c : ta ≤ q ∧ q < ta + 86
  · rw [if_pos c, if_pos (by omega), if_pos (by omega), if_pos c]
  · rw [if_neg c]
    by_cases d : q < n2
    · rw [if_pos d, if_pos d, if_neg c]
    · rw [if_neg d, if_neg d]
theorem fFl_now (S : Nat → Int) : fFl 86 S = fNow S := rfl
theorem fFl_cong {n : Nat} {P Q : Nat → Int} (h : ∀ q, q < n → P q = Q q) : fFl n P = fFl n Q := by
  funext q
  unfold fFl
  by_cases c : q < n
  · rw [if_pos c, if_pos c, h q c]
  · rw [if_neg c, if_neg c]
theorem fFl_s {P : Nat → Int} {m : Nat} {i : Nat} (hi : i < 516) : vp_updL (fFl 516 (shk P m)) m (zL (shk P m (m + 86))) i = fFl 516 (shk P (m + 1)) i := by
  have e1 : fFl 516 (shk P (m + 1)) i = zL (shk P (m + 1) i) := if_pos hi
  have e2 : fFl 516 (shk P m) i = zL (shk P m i) := if_pos hi
  rw [e1]
  by_cases h : i = m
  · subst h
    rw [updL_s]
    unfold shk
    rw [if_neg (by omega), if_pos (by omega)]
  · rw [updL_n _ _ h, e2]
    unfold shk
    by_cases c : i < m
    · rw [if_pos c, if_pos (by omega)]
    · rw [if_neg c, if_neg (by omega)]
theorem shk_0 (P : Nat → Int) : shk P 0 = P := by
  funext q
  unfold shk
  rw [if_neg (by omega)]
theorem shk_e (P : Nat → Int) : shk P 430 = shf P := rfl
/-! items alone, limits up to 2000 -/
def OkI (S : Nat → Int) : Prop := (0 ≤ S 0 ∧ S 0 ≤ 16) ∧ (∀ i, i < 16 → (0 ≤ sC S 0 i ∧ sC S 0 i ≤ 999) ∧ (0 ≤ sC S 1 i ∧ sC S 1 i ≤ 99) ∧ (0 ≤ sC S 2 i ∧ sC S 2 i ≤ 99) ∧ 0 ≤ sC S 3 i ∧ sC S 3 i ≤ 99) ∧ (0 ≤ S 65 ∧ S 65 ≤ 2000) ∧ (0 ≤ S 66 ∧ S 66 ≤ 2000) ∧ 0 ≤ S 67 ∧ S 67 ≤ 2000
theorem OkP.toI {S : Nat → Int} (h : OkP S) : OkI S := ⟨h.1, h.2.1, by have := h.2.2; omega⟩
theorem znI_eq {S : Nat → Int} (h : OkI S) : S 0 = ((zn S : Nat) : Int) := (Int.toNat_of_nonneg h.1.1).symm
theorem znI_le {S : Nat → Int} (h : OkI S) : zn S ≤ 16 := by have := znI_eq h; have := h.1; omega
theorem sUse_bI {S : Nat → Int} (h : OkI S) (set : Nat) {what : Nat} (hw : what ≤ 3) : 0 ≤ sUse S set what ∧ sUse S set what ≤ 15984 := by
  have h16 := znI_le h
  have a : 0 ≤ sUse S set what ∧ sUse S set what ≤ (zn S : Int) * 999 := sSum_b (b := 999) (zn S) (fun i hi => by
    have := h.2.1 i (by omega)
    match what, hw with
    | 0, _ => split <;> omega
    | 1, _ => split <;> omega
    | 2, _ => split <;> omega
    | 3, _ => split <;> omega)
  omega
def sBs (S : Nat → Int) : Nat → Nat × Int
  | 0 => (0, 0)
  | k + 1 => if (sBs S k).2 < sUse S (k + 1) 0 ∧ sFit S (k + 1) then (k + 1, sUse S (k + 1) 0) else sBs S k
theorem sBs_s (S : Nat → Int) (k : Nat) : sBs S (k + 1) = if (sBs S k).2 < sUse S (k + 1) 0 ∧ sFit S (k + 1) then (k + 1, sUse S (k + 1) 0) else sBs S k := rfl
theorem sBs_le (S : Nat → Int) : ∀ k, (sBs S k).1 ≤ k
  | 0 => Nat.le_refl 0
  | k + 1 => by
    have := sBs_le S k
    rw [sBs_s]
    split
    · exact Nat.le_refl _
    · omega
theorem sBs_b {S : Nat → Int} (h : OkI S) : ∀ k, 0 ≤ (sBs S k).2 ∧ (sBs S k).2 ≤ 15984
  | 0 => by show (0 : Int) ≤ 0 ∧ (0 : Int) ≤ 15984; omega
  | k + 1 => by
    have h1 := sBs_b h k
    have h2 := sUse_bI h (k + 1) (what := 0) (by omega)
    rw [sBs_s]
    split
    · exact h2
    · exact h1
def sBst (S : Nat → Int) : Nat := (sBs S (2 ^ zn S - 1)).1
