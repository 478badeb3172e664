/-! ===== what the reference does with an order: plain ===== -/
def mDo (S : Nat → Int) (ch : Nat) (a b c d : Int) : Int := if ch = 105 then mCome S a b c d else if ch = 108 then mLim a b else if ch = 115 then (if 1 ≤ a ∧ a ≤ 99 then 0 else -2) else if ch = 45 then (if 0 ≤ a ∧ a ≤ S 0 - 1 then 0 else -1) else 0
theorem mDo_i {S : Nat → Int} {ch : Nat} {a b c d : Int} (h : ch = 105) : mDo S ch a b c d = mCome S a b c d := if_pos h
theorem mDo_l {S : Nat → Int} {ch : Nat} {a b c d : Int} (h : ch = 108) : mDo S ch a b c d = mLim a b := by subst h; rfl
theorem mDo_s {S : Nat → Int} {ch : Nat} {a b c d : Int} (h : ch = 115) : mDo S ch a b c d = if 1 ≤ a ∧ a ≤ 99 then 0 else -2 := by subst h; rfl
theorem mDo_d {S : Nat → Int} {ch : Nat} {a b c d : Int} (h : ch = 45) : mDo S ch a b c d = if 0 ≤ a ∧ a ≤ S 0 - 1 then 0 else -1 := by subst h; rfl
theorem mDo_o {S : Nat → Int} {ch : Nat} {a b c d : Int} (h1 : ¬ ch = 105) (h2 : ¬ ch = 108) (h3 : ¬ ch = 115) (h4 : ¬ ch = 45) : mDo S ch a b c d = 0 := by
  unfold mDo
  rw [if_neg h1, if_neg h2, if_neg h3, if_neg h4]
theorem mDo_b (S : Nat → Int) (ch : Nat) (a b c d : Int) : -4 ≤ mDo S ch a b c d ∧ mDo S ch a b c d ≤ 0 := by
  have h1 := mCome_b S a b c d
  have h2 := mLim_b a b
  unfold mDo
  split
  · omega
  · split
    · omega
    · split
      · split <;> omega
      · split
        · split <;> omega
        · omega
/-- an order that may not be done -/
theorem aOrd_no {B : Int} {S L : Nat → Int} {ch : Nat} (h : OkS B S) (hkk : ch = 105 ∨ ch = 108 ∨ ch = 114 ∨ ch = 115 ∨ ch = 120 ∨ ch = 45) (hm : ¬ mDo S ch (L 0) (L 1) (L 2) (L 3) = 0) : (aOrd ch L S).1 < 0 ∧ (aOrd ch L S).2 = S := by
  have hb := mDo_b S ch (L 0) (L 1) (L 2) (L 3)
  rcases hkk with e | e | e | e | e | e
  · subst e
    have h2 : ¬ mCome S (L 0) (L 1) (L 2) (L 3) = 0 := hm
    have h3 := mCome_b S (L 0) (L 1) (L 2) (L 3)
    rw [aOrd_105, mCome_no h.1 h2]
    exact ⟨by show mCome S (L 0) (L 1) (L 2) (L 3) < 0; omega, rfl⟩
  · subst e
    have h2 : ¬ mLim (L 0) (L 1) = 0 := hm
    have h3 := mLim_b (L 0) (L 1)
    rw [aOrd_108, mLim_no h2]
    exact ⟨by show mLim (L 0) (L 1) < 0; omega, rfl⟩
  · exact absurd (mDo_o (by omega) (by omega) (by omega) (by omega)) hm
  · rw [mDo_s e] at hm
    subst e
    rw [aOrd_115, show aStep S (L 0) = (-2, S) from if_neg (fun q => hm (if_pos q))]
    exact ⟨by show (-2 : Int) < 0; omega, rfl⟩
  · exact absurd (mDo_o (by omega) (by omega) (by omega) (by omega)) hm
  · rw [mDo_d e] at hm
    subst e
    rw [aOrd_45, show aDrop S (L 0) = (-1, S) from if_neg (fun q => hm (if_pos q))]
    exact ⟨by show (-1 : Int) < 0; omega, rfl⟩
theorem aRule_same {S : Nat → Int} {r : Int} (h : 0 ≤ r ∧ r ≤ 2) (h2 : 1 ≤ S 72 ∧ S 72 ≤ 9999) : aRule S r (S 72) = (S 71, zu S 71 r) := by
  unfold aRule
  rw [if_pos ⟨h, h2⟩]
  unfold oRule
  rw [zu_same (zu_n _ _ (by omega))]
/-- a digit is one of 0 to 2 -/
theorem oN_114 {T : Nat → Nat} {pl b : Nat} (hc : cA T pl b = 114) (ho : oOk T pl b) : 0 ≤ oN T pl b 0 ∧ oN T pl b 0 ≤ 2 := by
  have e1 : shL (kI (cA T pl b)) = [114, 68] := by rw [hc]; decide +kernel
  have ho1 := ho.1
  unfold oN
  unfold oQ at ho1 ⊢
  rw [e1, rP_S (c := 114) (by decide) (by decide) hc] at ho1 ⊢
  by_cases y : 48 ≤ cA T pl (b + 1) ∧ cA T pl (b + 1) ≤ 50
  · rw [rP_D (c := 68) rfl y]
    show 0 ≤ zu (fun _ => (0 : Int)) 0 (((cA T pl (b + 1) : Nat) : Int) - 48) 0 ∧ zu (fun _ => (0 : Int)) 0 (((cA T pl (b + 1) : Nat) : Int) - 48) 0 ≤ 2
    rw [zu_s]
    omega
  · rw [rP_Dn (c := 68) rfl y] at ho1
    exact Bool.noConfusion ho1
theorem sts_len {T : Nat → Nat} {pl : Nat} : ∀ n b, b ≤ pl → 2 * (sts T pl n b).length + b ≤ pl + 1
  | 0, b, h => by
    show 2 * 0 + b ≤ pl + 1
    omega
  | n + 1, b, h => by
    by_cases ho : oOk T pl b
    · have hl := oE_lt h ho
      have he := oE_b (T := T) h
      by_cases c : cA T pl (oE T pl b) = 59
      · have hl2 := cA_lt (T := T) (pl := pl) (a := oE T pl b) (by omega)
        rw [sts_go ho c]
        have ih := sts_len (T := T) (pl := pl) n (oE T pl b + 1) hl2
        simp only [List.length_cons]
        omega
      · rw [sts_end ho c]
        simp only [List.length_cons, List.length_nil]
        omega
    · rw [sts_no ho]
      simp only [List.length_nil]
      omega
theorem drop_g {l : List Nat} {n : Nat} (h : n < l.length) : l.drop n = l.getD n 0 :: l.drop (n + 1) := by
  rw [List.drop_eq_getElem_cons h]
  congr 1
  rw [List.getD_eq_getElem?_getD, List.getElem?_eq_getElem h]
  rfl
