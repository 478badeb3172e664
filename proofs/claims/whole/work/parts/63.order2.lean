theorem rP_N {T : Nat → Nat} {pl c a rd : Nat} {cs : List Nat} {Q : Nat → Int} (h : c = 78) (y : 0 ≤ dg T pl a) : rP T pl (c :: cs) a rd Q = rP T pl cs (nIt T pl a 2).2 (rd + 1) (zu Q rd (nIt T pl a 2).1) := by
  rw [rP, if_pos h, if_pos y]
theorem rP_Nn {T : Nat → Nat} {pl c a rd : Nat} {cs : List Nat} {Q : Nat → Int} (h : c = 78) (y : ¬ 0 ≤ dg T pl a) : rP T pl (c :: cs) a rd Q = (false, a, rd, Q) := by
  rw [rP, if_pos h, if_neg y]
theorem rP_D {T : Nat → Nat} {pl c a rd : Nat} {cs : List Nat} {Q : Nat → Int} (h : c = 68) (y : 48 ≤ cA T pl a ∧ cA T pl a ≤ 50) : rP T pl (c :: cs) a rd Q = rP T pl cs (a + 1) (rd + 1) (zu Q rd (((cA T pl a : Nat) : Int) - 48)) := by
  rw [rP, if_neg (by omega), if_pos h, if_pos y]
theorem rP_Dn {T : Nat → Nat} {pl c a rd : Nat} {cs : List Nat} {Q : Nat → Int} (h : c = 68) (y : ¬ (48 ≤ cA T pl a ∧ cA T pl a ≤ 50)) : rP T pl (c :: cs) a rd Q = (false, a, rd, Q) := by
  rw [rP, if_neg (by omega), if_pos h, if_neg y]
theorem rP_S {T : Nat → Nat} {pl c a rd : Nat} {cs : List Nat} {Q : Nat → Int} (h : ¬ c = 78) (h2 : ¬ c = 68) (y : cA T pl a = c) : rP T pl (c :: cs) a rd Q = rP T pl cs (a + 1) rd Q := by
  rw [rP, if_neg h, if_neg h2, if_pos y]
theorem rP_Sn {T : Nat → Nat} {pl c a rd : Nat} {cs : List Nat} {Q : Nat → Int} (h : ¬ c = 78) (h2 : ¬ c = 68) (y : ¬ cA T pl a = c) : rP T pl (c :: cs) a rd Q = (false, a, rd, Q) := by
  rw [rP, if_neg h, if_neg h2, if_neg y]
theorem rP_0 {T : Nat → Nat} {pl a rd : Nat} {Q : Nat → Int} : rP T pl [] a rd Q = (true, a, rd, Q) := rfl
theorem cN8_y {c : Nat} {cs : List Nat} (h : c = 78 ∨ c = 68) : cN8 (c :: cs) = cN8 cs + 1 := by
  unfold cN8
  rw [List.filter_cons_of_pos (by simpa using h)]
  rfl
theorem cN8_n {c : Nat} {cs : List Nat} (h : ¬ c = 78) (h2 : ¬ c = 68) : cN8 (c :: cs) = cN8 cs := by
  unfold cN8
  rw [List.filter_cons_of_neg (by simp [h, h2])]
theorem kI_lt (ch : Nat) : kI ch < 7 := by
  unfold kI
  (repeat' split) <;> omega
theorem fitC {n : Nat} (h : n < 65536) : fits .char (.int (zI (n : Int))) = true := by
  have e := pk_fc (zI (n : Int))
  rw [i2c_n h] at e
  exact e
