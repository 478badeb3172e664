/-! ===== the orders as the reference keeps them: plain ===== -/
theorem oR_y {T : Nat → Nat} {pl a rd e r2 : Nat} {Q Q2 : Nat → Int} {R9 : Bool × Nat × Nat × (Nat → Int)} (h0 : R9 = rP T pl (shL (kI (cA T pl a))) a rd Q) (h : R9 = (true, e, r2, Q2)) (hl : ¬ sLe8.getD (kI (cA T pl a)) 0 = 0) : oOk T pl a ∧ oE T pl a = e ∧ (rP T pl (shL (kI (cA T pl a))) a rd Q).2.2.2 = Q2 := by
  have h1 := oQ_at (T := T) (pl := pl) (b := a) (rd := rd) (Q := Q)
  rw [← h0, h] at h1
  exact ⟨⟨h1.1.symm, hl⟩, h1.2.symm, by rw [← h0, h]⟩
theorem oR_n {T : Nat → Nat} {pl a rd e r2 : Nat} {Q Q2 : Nat → Int} {R9 : Bool × Nat × Nat × (Nat → Int)} (h0 : R9 = rP T pl (shL (kI (cA T pl a))) a rd Q) (h : R9 = (false, e, r2, Q2)) : ¬ oOk T pl a ∧ oE T pl a = e ∧ (rP T pl (shL (kI (cA T pl a))) a rd Q).2.2.2 = Q2 := by
  have h1 := oQ_at (T := T) (pl := pl) (b := a) (rd := rd) (Q := Q)
  rw [← h0, h] at h1
  refine ⟨fun q => ?_, h1.2.symm, by rw [← h0, h]⟩
  have h2 : false = true := h1.1.trans q.1
  exact Bool.noConfusion h2
theorem oR_z {T : Nat → Nat} {pl a rd : Nat} {Q : Nat → Int} (hk : kI (cA T pl a) = 6) : ¬ oOk T pl a ∧ oE T pl a = a ∧ (rP T pl (shL (kI (cA T pl a))) a rd Q).2.2.2 = Q := by
  have e0 : shL (kI (cA T pl a)) = [] := by rw [hk]; decide +kernel
  refine ⟨fun q => q.2 (by rw [hk]; rfl), ?_, by rw [e0]; rfl⟩
  unfold oE oQ
  rw [e0]
  rfl
theorem kI_6 {ch : Nat} (h1 : ¬ ch = 105) (h2 : ¬ ch = 108) (h3 : ¬ ch = 114) (h4 : ¬ ch = 115) (h5 : ¬ ch = 120) (h6 : ¬ ch = 45) : kI ch = 6 := by
  unfold kI
  rw [if_neg h1, if_neg h2, if_neg h3, if_neg h4, if_neg h5, if_neg h6]
theorem kI_n6 {ch : Nat} (h : ¬ sLe8.getD (kI ch) 0 = 0) : ch = 105 ∨ ch = 108 ∨ ch = 114 ∨ ch = 115 ∨ ch = 120 ∨ ch = 45 := by
  by_cases h1 : ch = 105
  · exact Or.inl h1
  by_cases h2 : ch = 108
  · exact Or.inr (Or.inl h2)
  by_cases h3 : ch = 114
  · exact Or.inr (Or.inr (Or.inl h3))
  by_cases h4 : ch = 115
  · exact Or.inr (Or.inr (Or.inr (Or.inl h4)))
  by_cases h5 : ch = 120
  · exact Or.inr (Or.inr (Or.inr (Or.inr (Or.inl h5))))
  by_cases h6 : ch = 45
  · exact Or.inr (Or.inr (Or.inr (Or.inr (Or.inr h6))))
  exact absurd (by rw [kI_6 h1 h2 h3 h4 h5 h6]; rfl) h
/-- the k-th five cells hold the order at b -/
def oAt (T : Nat → Nat) (pl : Nat) (Q : Nat → Int) (k b : Nat) : Prop := Q (5 * k) = ((cA T pl b : Nat) : Int) ∧ (∀ j, j < oC T pl b → Q (5 * k + 1 + j) = oN T pl b j) ∧ oOk T pl b
def rQ5 (T : Nat → Nat) (pl b od : Nat) (Q : Nat → Int) : Nat → Int := (rP T pl (shL (kI (cA T pl b))) b (5 * od + 1) (zu Q (5 * od) ((cA T pl b : Nat) : Int))).2.2.2
theorem oAt_new {T : Nat → Nat} {pl b od : Nat} {Q : Nat → Int} (ho : oOk T pl b) : oAt T pl (rQ5 T pl b od Q) od b :=
  ⟨(rP_out _ _ _ _ _ (Nat.lt_succ_self _)).trans (zu_s _ _ _), fun j hj => oN_at ho hj, ho⟩
theorem oAt_old {T : Nat → Nat} {pl b od k c : Nat} {Q : Nat → Int} (h : oAt T pl Q k c) (hk : k < od) : oAt T pl (rQ5 T pl b od Q) k c := by
  have h4 := oC_4 T pl c
  refine ⟨?_, fun j hj => ?_, h.2.2⟩
  · exact ((rP_out _ _ _ _ _ (by omega)).trans (zu_n _ _ (by omega))).trans h.1
  · exact ((rP_out _ _ _ _ _ (by omega)).trans (zu_n _ _ (by omega))).trans (h.2.1 j hj)
theorem oAt_all {T : Nat → Nat} {pl b od : Nat} {Q : Nat → Int} {l : List Nat} (h : ∀ k, k < od → oAt T pl Q k (l.getD k 0)) (ho : oOk T pl b) (hb : l.getD od 0 = b) : ∀ k, k < od + 1 → oAt T pl (rQ5 T pl b od Q) k (l.getD k 0) := by
  intro k hk
  by_cases e : k = od
  · subst e; rw [hb]; exact oAt_new ho
  · exact oAt_old (h k (by omega)) (by omega)
theorem QB_r {T : Nat → Nat} {pl b od : Nat} {Q : Nat → Int} (h : QB Q) (hT : OkT T pl) : QB (rQ5 T pl b od Q) := by
  have hc := cA_b hT b
  exact fun i => rP_val _ _ _ _ (QB_zu h (5 * od) (by omega)) i
theorem drop_c {l r : List Nat} {n b : Nat} (h : b :: r = l.drop n) : l.getD n 0 = b ∧ l.drop (n + 1) = r ∧ l.length = n + (r.length + 1) := by
  have e1 : (l.drop n).drop 1 = r := by rw [← h]; rfl
  have e2 : (l.drop n)[0]? = some b := by rw [← h]; rfl
  have e3 := congrArg List.length h
  rw [List.length_drop] at e3
  rw [List.getElem?_drop] at e2
  rw [List.drop_drop] at e1
  refine ⟨?_, e1, ?_⟩
  · rw [List.getD_eq_getElem?_getD, show n = n + 0 from rfl, e2]; rfl
  · simp only [List.length_cons] at e3
    omega
theorem drop_n {l : List Nat} {n : Nat} (h : [] = l.drop n) : l.length ≤ n := by
  have e3 := congrArg List.length h
  rw [List.length_drop] at e3
  simp only [List.length_nil] at e3
  omega
