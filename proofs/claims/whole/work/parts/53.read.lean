/-! ===== reading a text: plain ===== -/
def cA (T : Nat → Nat) (pl a : Nat) : Nat := if a < pl then T a else 0
def dg (T : Nat → Nat) (pl a : Nat) : Int := if 48 ≤ cA T pl a ∧ cA T pl a ≤ 57 then ((cA T pl a : Nat) : Int) - 48 else -1
theorem cA_b {T : Nat → Nat} {pl : Nat} (h : OkT T pl) (a : Nat) : cA T pl a ≤ 126 := by
  unfold cA
  by_cases c : a < pl
  · rw [if_pos c]; exact (h.2 a c).2
  · rw [if_neg c]; omega
theorem cA_lt {T : Nat → Nat} {pl a : Nat} (h : ¬ cA T pl a = 0) : a < pl := by
  by_cases c : a < pl
  · exact c
  · exact absurd (if_neg c) h
theorem cA_in {T : Nat → Nat} {pl a : Nat} (h : a < pl) : cA T pl a = T a := if_pos h
theorem dg_b (T : Nat → Nat) (pl a : Nat) : -1 ≤ dg T pl a ∧ dg T pl a ≤ 9 := by
  unfold dg
  split <;> omega
theorem dg_in {T : Nat → Nat} {pl a : Nat} (h : 0 ≤ dg T pl a) : (48 ≤ cA T pl a ∧ cA T pl a ≤ 57) ∧ dg T pl a = ((cA T pl a : Nat) : Int) - 48 := by
  by_cases c : 48 ≤ cA T pl a ∧ cA T pl a ≤ 57
  · exact ⟨c, if_pos c⟩
  · rw [show dg T pl a = -1 from if_neg c] at h; omega
theorem dg_no {T : Nat → Nat} {pl a : Nat} (h : ¬ (48 ≤ cA T pl a ∧ cA T pl a ≤ 57)) : dg T pl a = -1 := if_neg h
/-- a number of k more digits at most -/
def nIt (T : Nat → Nat) (pl a : Nat) : Nat → Int × Nat
  | 0 => (dg T pl a, a + 1)
  | k + 1 => if 0 < (nIt T pl a k).1 ∧ 0 ≤ dg T pl (nIt T pl a k).2 then (10 * (nIt T pl a k).1 + dg T pl (nIt T pl a k).2, (nIt T pl a k).2 + 1) else nIt T pl a k
theorem nIt_0 (T : Nat → Nat) (pl a : Nat) : nIt T pl a 0 = (dg T pl a, a + 1) := rfl
theorem nIt_s (T : Nat → Nat) (pl a k : Nat) : nIt T pl a (k + 1) = if 0 < (nIt T pl a k).1 ∧ 0 ≤ dg T pl (nIt T pl a k).2 then (10 * (nIt T pl a k).1 + dg T pl (nIt T pl a k).2, (nIt T pl a k).2 + 1) else nIt T pl a k := rfl
theorem nIt_go {T : Nat → Nat} {pl a k : Nat} (h : 0 < (nIt T pl a k).1) (h2 : 0 ≤ dg T pl (nIt T pl a k).2) : nIt T pl a (k + 1) = (10 * (nIt T pl a k).1 + dg T pl (nIt T pl a k).2, (nIt T pl a k).2 + 1) := (nIt_s T pl a k).trans (if_pos ⟨h, h2⟩)
theorem nIt_st {T : Nat → Nat} {pl a k : Nat} (h : ¬ (0 < (nIt T pl a k).1 ∧ 0 ≤ dg T pl (nIt T pl a k).2)) : nIt T pl a (k + 1) = nIt T pl a k := (nIt_s T pl a k).trans (if_neg h)
theorem nIt_end {T : Nat → Nat} {pl a k : Nat} (h : ¬ (0 < (nIt T pl a k).1 ∧ 0 ≤ dg T pl (nIt T pl a k).2)) : ∀ j, nIt T pl a (k + j) = nIt T pl a k
  | 0 => rfl
  | j + 1 => by
    have ih := nIt_end h j
    show nIt T pl a (k + j + 1) = _
    rw [nIt_st (k := k + j) (by rw [ih]; exact h), ih]
theorem nIt_2 {T : Nat → Nat} {pl a k : Nat} (hk : k ≤ 2) (h : k = 2 ∨ ¬ (0 < (nIt T pl a k).1 ∧ 0 ≤ dg T pl (nIt T pl a k).2)) : nIt T pl a 2 = nIt T pl a k := by
  rcases h with h | h
  · rw [h]
  · have := nIt_end h (2 - k)
    rw [show k + (2 - k) = 2 by omega] at this
    exact this
theorem nIt_b {T : Nat → Nat} {pl a : Nat} (h : 0 ≤ dg T pl a) : (0 ≤ (nIt T pl a 0).1 ∧ (nIt T pl a 0).1 ≤ 9) ∧ (0 ≤ (nIt T pl a 1).1 ∧ (nIt T pl a 1).1 ≤ 99) ∧ 0 ≤ (nIt T pl a 2).1 ∧ (nIt T pl a 2).1 ≤ 999 := by
  have d0 := dg_b T pl a
  have d1 := dg_b T pl (nIt T pl a 0).2
  have d2 := dg_b T pl (nIt T pl a 1).2
  have e0 : (nIt T pl a 0).1 = dg T pl a := rfl
  have e1 := nIt_s T pl a 0
  have e2 := nIt_s T pl a 1
  have b1 : 0 ≤ (nIt T pl a 1).1 ∧ (nIt T pl a 1).1 ≤ 99 := by
    rw [e1]
    split
    · show 0 ≤ 10 * (nIt T pl a 0).1 + dg T pl (nIt T pl a 0).2 ∧ 10 * (nIt T pl a 0).1 + dg T pl (nIt T pl a 0).2 ≤ 99
      omega
    · omega
  have b2 : 0 ≤ (nIt T pl a 2).1 ∧ (nIt T pl a 2).1 ≤ 999 := by
    rw [e2]
    split
    · show 0 ≤ 10 * (nIt T pl a 1).1 + dg T pl (nIt T pl a 1).2 ∧ 10 * (nIt T pl a 1).1 + dg T pl (nIt T pl a 1).2 ≤ 999
      omega
    · omega
  exact ⟨by omega, b1, b2⟩
theorem nIt_bk {T : Nat → Nat} {pl a k : Nat} (h : 0 ≤ dg T pl a) (hk : k ≤ 2) : 0 ≤ (nIt T pl a k).1 ∧ (nIt T pl a k).1 ≤ 999 := by
  have := nIt_b h
  rcases (show k = 0 ∨ k = 1 ∨ k = 2 by omega) with rfl | rfl | rfl <;> omega
theorem dg_lt {T : Nat → Nat} {pl a : Nat} (h : 0 ≤ dg T pl a) : a < pl := cA_lt (T := T) (by have := (dg_in h).1; omega)
theorem nIt_at {T : Nat → Nat} {pl a : Nat} (h : 0 ≤ dg T pl a) : ∀ k, a < (nIt T pl a k).2 ∧ (nIt T pl a k).2 ≤ pl
  | 0 => by
    have := dg_lt h
    show a < a + 1 ∧ a + 1 ≤ pl
    omega
  | k + 1 => by
    have ih := nIt_at h k
    by_cases c : 0 < (nIt T pl a k).1 ∧ 0 ≤ dg T pl (nIt T pl a k).2
    · rw [nIt_go c.1 c.2]
      have := dg_lt c.2
      show a < (nIt T pl a k).2 + 1 ∧ (nIt T pl a k).2 + 1 ≤ pl
      omega
    · rw [nIt_st c]; exact ih
def fQ (Q : Nat → Int) : Nat → Int32 := fun k => zI (Q k)
theorem fQ_u {Q : Nat → Int} {k : Nat} {v : Int} {i : Nat} : upd (fQ Q) k (zI v) i = fQ (zu Q k v) i := by
  unfold fQ
  by_cases h : i = k
  · subst h; rw [upd_s, zu_s]
  · rw [upd_n _ _ h, zu_n _ _ h]
theorem nrC {n : Nat} (h : n < 65536) : narrow .char (.int (zI (n : Int))) = .int (zI (n : Int)) := congrArg Value.int (i2c_n h)
