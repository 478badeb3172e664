/-! ===== the best and the worth of one more: both sides ===== -/
theorem sLim_at (S : Nat → Int) (d : Nat) (u : Int) (j : Nat) : sLim S d u j = lmu S d u (65 + j) := by
  unfold sLim lmu
  by_cases e : j = d
  · subst e; rw [if_pos rfl, zu_s]
  · rw [if_neg e, zu_n _ _ (by omega)]
theorem lmu_0 (S : Nat → Int) (d : Nat) : lmu S d 0 = S := zu_same (by omega)
theorem atL_lim (S : Nat → Int) (d : Nat) (u : Int) : atL S (sLim S d u) (lmu S d u) := ⟨fun j hj => zu_n _ _ (by omega), sLim_at S d u 0, sLim_at S d u 1, sLim_at S d u 2⟩
theorem nnL_lim {S : Nat → Int} (h : OkP S) (d : Nat) {u : Int} (hu : 0 ≤ u) : nnL (sLim S d u) := by
  have hl := h.2.2
  unfold nnL sLim
  have e0 : S (65 + 0) = S 65 := rfl
  have e1 : S (65 + 1) = S 66 := rfl
  have e2 : S (65 + 2) = S 67 := rfl
  rw [e0, e1, e2]
  refine ⟨⟨?_, ?_⟩, ?_⟩ <;> (split <;> omega)
theorem best_at {S : Nat → Int} (h : OkP S) (d : Nat) : sGr S (zn S) (sLim S d 0) 0 0 = sUse S (sBst S) 0 := by
  have a := atL_lim S d 0
  rw [lmu_0] at a
  exact (best_eq a h.toI h.toI (nnL_lim h d (by omega))).1
theorem best_c {S : Nat → Int} (h : OkP S) (w9 : Int) : (if w9 = 0 then sGr S (zn S) (sLim S 0 0) 0 0 else if w9 = 1 then sLe S (zn S) (sLim S 0 0) (sGr S (zn S) (sLim S 0 0) 0 0) 0 else -2) = qBest S w9 := by
  have a := atL_lim S 0 0
  rw [lmu_0] at a
  have e1 := least_eq a h.toI h.toI (nnL_lim h 0 (by omega))
  have e0 := best_at h 0
  unfold qBest
  by_cases c : w9 = 0
  · rw [if_pos c, if_pos (by omega), if_pos c, e0]
  · rw [if_neg c]
    by_cases d : w9 = 1
    · rw [if_pos d, if_pos (by omega), if_neg c, e1]
    · rw [if_neg d, if_neg (by omega)]
theorem wor_c {S : Nat → Int} (h : OkP S) {d : Nat} (hd : d < 3) (u : Int) : (if 1 ≤ u ∧ u ≤ 99 then sGr S (zn S) (sLim S d u) 0 0 - sGr S (zn S) (sLim S d 0) 0 0 else -2) = qWor S ((d : Nat) : Int) u := by
  unfold qWor
  rw [if_pos (show 0 ≤ ((d : Nat) : Int) ∧ ((d : Nat) : Int) ≤ 2 by omega), Int.toNat_natCast]
  by_cases c : 1 ≤ u ∧ u ≤ 99
  · rw [if_pos c, if_pos c, best_at h d, (best_eq (atL_lim S d u) h.toI (OkI_lmu h hd (by omega)) (nnL_lim h d (by omega))).1]
  · rw [if_neg c, if_neg c]
theorem wor_n {S : Nat → Int} {d u : Int} (h : ¬ (0 ≤ d ∧ d ≤ 2)) : qWor S d u = -1 := if_neg h
