theorem ch_5 {x : Int64} {k : Nat} (hk : k ≤ 8) (hin : ∀ j, j < k → 33 ≤ by8 x j ∧ by8 x j ≤ 126) (hz : ∀ i, k ≤ i → i < 8 → by8 x i = 0) : pCh x = k := by
  by_cases h : 1 ≤ k
  · exact pCh_ok h hk ⟨hin, hz⟩
  · have e : k = 0 := by omega
    subst e
    exact pCh_no (fun m a b c => by
      have h1 := c.1 0 (by omega)
      have h2 := hz 0 (by omega) (by omega)
      omega)
theorem ch_3 {x : Int64} {k : Nat} (hk : k < 8) (hbad : ¬ (33 ≤ by8 x k ∧ by8 x k ≤ 126)) (hn : ¬ ∀ j, k ≤ j → j < 8 → by8 x j = 0) : pCh x = 0 := pCh_no (fun m a b c => by
  by_cases l : k < m
  · exact hbad (c.1 k l)
  · exact hn (fun j h1 h2 => c.2 j (by omega) h2))
theorem ch_4 {x : Int64} {k j : Nat} (hkj : k ≤ j) (hj : j < 8) (h0 : by8 x k = 0) (hn : ¬ by8 x j = 0) : pCh x = 0 := pCh_no (fun m a b c => by
  by_cases l : j < m
  · have := c.1 k (by omega)
    omega
  · exact hn (c.2 j (by omega) hj))
