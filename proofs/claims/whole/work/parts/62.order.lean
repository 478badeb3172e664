/-! ===== an order's parts: plain ===== -/
def rP (T : Nat → Nat) (pl : Nat) : List Nat → Nat → Nat → (Nat → Int) → Bool × Nat × Nat × (Nat → Int)
  | [], a, rd, Q => (true, a, rd, Q)
  | c :: cs, a, rd, Q =>
    if c = 78 then (if 0 ≤ dg T pl a then rP T pl cs (nIt T pl a 2).2 (rd + 1) (zu Q rd (nIt T pl a 2).1) else (false, a, rd, Q))
    else if c = 68 then (if 48 ≤ cA T pl a ∧ cA T pl a ≤ 50 then rP T pl cs (a + 1) (rd + 1) (zu Q rd (((cA T pl a : Nat) : Int) - 48)) else (false, a, rd, Q))
    else if cA T pl a = c then rP T pl cs (a + 1) rd Q else (false, a, rd, Q)
def shL (i : Nat) : List Nat := (List.range (sLe8.getD i 0)).map (sChr i)
def cN8 (l : List Nat) : Nat := (l.filter (fun c => c = 78 ∨ c = 68)).length
theorem shL_d : ∀ i, i < 7 → ∀ k, k < sLe8.getD i 0 → (shL i).drop k = sChr i k :: (shL i).drop (k + 1) := by decide +kernel
theorem shL_n : ∀ i, i < 7 → cN8 (shL i) ≤ 4 ∧ (shL i).drop (sLe8.getD i 0) = [] := by decide +kernel
theorem sChr_pos : ∀ i, i < 7 → ∀ k, k < sLe8.getD i 0 → 0 < sChr i k ∧ sChr i k < 128 := by decide +kernel
