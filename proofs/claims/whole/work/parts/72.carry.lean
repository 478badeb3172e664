/-! ===== carrying orders out: plain ===== -/
theorem aOrd_cong {ch : Nat} {L M S : Nat → Int} (h : ∀ j, j < cN8 (shL (kI ch)) → L j = M j) : aOrd ch L S = aOrd ch M S := by
  by_cases h1 : ch = 105
  · subst h1
    have e : cN8 (shL (kI 105)) = 4 := by decide +kernel
    rw [e] at h
    show aItem S (L 0) (L 1) (L 2) (L 3) = aItem S (M 0) (M 1) (M 2) (M 3)
    rw [h 0 (by omega), h 1 (by omega), h 2 (by omega), h 3 (by omega)]
  by_cases h2 : ch = 108
  · subst h2
    have e : cN8 (shL (kI 108)) = 2 := by decide +kernel
    rw [e] at h
    show aLimit S (L 0) (L 1) = aLimit S (M 0) (M 1)
    rw [h 0 (by omega), h 1 (by omega)]
  by_cases h3 : ch = 114
  · subst h3
    have e : cN8 (shL (kI 114)) = 1 := by decide +kernel
    rw [e] at h
    show aRule S (L 0) (S 72) = aRule S (M 0) (S 72)
    rw [h 0 (by omega)]
  by_cases h4 : ch = 115
  · subst h4
    have e : cN8 (shL (kI 115)) = 1 := by decide +kernel
    rw [e] at h
    show aStep S (L 0) = aStep S (M 0)
    rw [h 0 (by omega)]
  by_cases h5 : ch = 120
  · subst h5
    rfl
  by_cases h6 : ch = 45
  · subst h6
    have e : cN8 (shL (kI 45)) = 1 := by decide +kernel
    rw [e] at h
    show aDrop S (L 0) = aDrop S (M 0)
    rw [h 0 (by omega)]
  unfold aOrd
  rw [if_neg h1, if_neg h2, if_neg h3, if_neg h4, if_neg h5, if_neg h6, if_neg h1, if_neg h2, if_neg h3, if_neg h4, if_neg h5, if_neg h6]
theorem aOrd_105 (L S : Nat → Int) : aOrd 105 L S = aItem S (L 0) (L 1) (L 2) (L 3) := rfl
theorem aOrd_108 (L S : Nat → Int) : aOrd 108 L S = aLimit S (L 0) (L 1) := rfl
theorem aOrd_114 (L S : Nat → Int) : aOrd 114 L S = aRule S (L 0) (S 72) := rfl
theorem aOrd_115 (L S : Nat → Int) : aOrd 115 L S = aStep S (L 0) := rfl
theorem aOrd_120 (L S : Nat → Int) : aOrd 120 L S = aRep S := rfl
theorem aOrd_45 (L S : Nat → Int) : aOrd 45 L S = aDrop S (L 0) := rfl
theorem aOrd_b {B : Int} {S : Nat → Int} (h : OkS B S) (ch : Nat) (L : Nat → Int) : -5 ≤ (aOrd ch L S).1 ∧ (aOrd ch L S).1 ≤ 15984 := by
  have b1 := aItem_b h.1 (L 0) (L 1) (L 2) (L 3)
  have b2 := aLimit_b h.1 (L 0) (L 1)
  have b3 := aRule_b h.2.2.2.1.1 (L 0) (S 72)
  have b4 := aStep_b S (L 0)
  have b5 := aRep_b h.1
  have b6 := aDrop_b h.1 (L 0)
  unfold aOrd
  split
  · omega
  · split
    · omega
    · split
      · omega
      · split
        · omega
        · split
          · omega
          · split
            · omega
            · exact ⟨by show (-5 : Int) ≤ -3; omega, by show (-3 : Int) ≤ 15984; omega⟩
/-- a text that is one, from an order on -/
theorem tP_ok {T : Nat → Nat} {pl n b : Nat} (hb : b ≤ pl) (h : tP T pl (n + 1) b = (true, pl)) : oOk T pl b ∧ ((oE T pl b < pl ∧ cA T pl (oE T pl b) = 59 ∧ tP T pl n (oE T pl b + 1) = (true, pl) ∧ sts T pl (n + 1) b = b :: sts T pl n (oE T pl b + 1)) ∨ (oE T pl b = pl ∧ sts T pl (n + 1) b = [b])) := by
  by_cases ho : oOk T pl b
  · refine ⟨ho, ?_⟩
    by_cases c : cA T pl (oE T pl b) = 59
    · have hl := cA_lt (T := T) (pl := pl) (a := oE T pl b) (by omega)
      rw [tP_go ho c] at h
      exact Or.inl ⟨hl, c, h, sts_go ho c⟩
    · rw [tP_end ho c] at h
      exact Or.inr ⟨of_decide_eq_true (congrArg Prod.fst h), sts_end ho c⟩
  · rw [tP_no ho] at h
    exact absurd (congrArg Prod.fst h) (fun q => Bool.noConfusion q)
theorem tP_pl {T : Nat → Nat} {pl : Nat} : ∀ n b, (tP T pl n b).1 = true → tP T pl n b = (true, pl)
  | 0, b, h => absurd (show false = true from h) (fun q => Bool.noConfusion q)
  | n + 1, b, h => by
    by_cases ho : oOk T pl b
    · by_cases c : cA T pl (oE T pl b) = 59
      · rw [tP_go ho c] at h ⊢; exact tP_pl n _ h
      · rw [tP_end ho c] at h ⊢
        have e : oE T pl b = pl := of_decide_eq_true h
        rw [e, decide_eq_true rfl]
    · rw [tP_no ho] at h
      exact absurd (show false = true from h) (fun q => Bool.noConfusion q)
theorem tF_is {T : Nat → Nat} {pl : Nat} (h : tF T pl = -6) : tP T pl (pl + 1) 0 = (true, pl) := by
  unfold tF at h
  by_cases c : (tP T pl (pl + 1) 0).1 = true
  · exact tP_pl _ _ c
  · rw [if_neg c] at h; omega
theorem tF_b {T : Nat → Nat} {pl : Nat} (h : pl ≤ 80) : -6 ≤ tF T pl ∧ tF T pl ≤ 80 := by
  have hb := tP_b (T := T) (pl := pl) (pl + 1) 0 (Nat.zero_le _)
  unfold tF
  split
  · omega
  · omega
