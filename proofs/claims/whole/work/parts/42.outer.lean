/-! ===== the outer object ===== -/
theorem aItem_b {S : Nat → Int} (h : OkP S) (w a b c : Int) : -4 ≤ (aItem S w a b c).1 ∧ (aItem S w a b c).1 ≤ 16 := by
  have := h.1
  unfold aItem
  split
  · split
    · exact ⟨by dsimp only; omega, by dsimp only; omega⟩
    · exact ⟨by omega, by omega⟩
  · exact ⟨by dsimp only; omega, by dsimp only; omega⟩
theorem aDrop_b {S : Nat → Int} (h : OkP S) (k : Int) : -1 ≤ (aDrop S k).1 ∧ (aDrop S k).1 ≤ 16 := by
  have := h.1
  unfold aDrop
  split
  · exact ⟨by show -1 ≤ S 0 - 1; omega, by show S 0 - 1 ≤ 16; omega⟩
  · exact ⟨by dsimp only; omega, by dsimp only; omega⟩
theorem aLimit_b {S : Nat → Int} (h : OkP S) (d v : Int) : -2 ≤ (aLimit S d v).1 ∧ (aLimit S d v).1 ≤ 999 := by
  unfold aLimit
  split
  · rename_i hd
    split
    · exact ⟨by have := (lim_nn2 h hd).1; show -2 ≤ S (65 + d.toNat); omega, (lim_nn2 h hd).2⟩
    · exact ⟨by dsimp only; omega, by dsimp only; omega⟩
  · exact ⟨by dsimp only; omega, by dsimp only; omega⟩
theorem aMult_b {S : Nat → Int} (h : OkM (mu S)) (d v : Int) : -2 ≤ (aMult S d v).1 ∧ (aMult S d v).1 ≤ 999999 := by
  have hb : ∀ d : Int, 0 ≤ d ∧ d ≤ 2 → 0 ≤ S (68 + d.toNat) ∧ S (68 + d.toNat) ≤ 999999 := by
    intro d hd
    rcases (show d = 0 ∨ d = 1 ∨ d = 2 by omega) with rfl | rfl | rfl
    · exact h.1
    · exact h.2.1
    · exact h.2.2
  unfold aMult
  split
  · rename_i hd
    split
    · exact ⟨by have := (hb d hd).1; show -2 ≤ S (68 + d.toNat); omega, (hb d hd).2⟩
    · exact ⟨by dsimp only; omega, by dsimp only; omega⟩
  · exact ⟨by dsimp only; omega, by dsimp only; omega⟩
theorem aRule_b {S : Nat → Int} (h : 0 ≤ S 71 ∧ S 71 ≤ 2) (r t : Int) : -2 ≤ (aRule S r t).1 ∧ (aRule S r t).1 ≤ 2 := by
  unfold aRule
  split
  · exact ⟨by show -2 ≤ S 71; omega, h.2⟩
  · exact ⟨by dsimp only; omega, by dsimp only; omega⟩
theorem aStep_b (S : Nat → Int) (n : Int) : -2 ≤ (aStep S n).1 ∧ (aStep S n).1 ≤ 99 := by
  have hb := sBet_b S n.toNat
  unfold aStep
  split
  · exact ⟨by show -2 ≤ sBet S n.toNat; omega, by show sBet S n.toNat ≤ 99; omega⟩
  · exact ⟨by dsimp only; omega, by dsimp only; omega⟩
theorem aRep_b {S : Nat → Int} (h : OkP S) : 0 ≤ (aRep S).1 ∧ (aRep S).1 ≤ 15984 := by
  have := sUse_b h (sRp S) (what := 0) (by omega)
  exact ⟨this.1, this.2.1⟩
theorem fSol_is {S : Nat → Int} (h : ¬ S 76 = -6) : fSol S = S 76 := if_neg h
theorem fSw_is {S : Nat → Int} (h : ¬ S 76 = -6) : fSw S = sBw S := by unfold fSw sBw; rw [if_neg h, if_neg h]
