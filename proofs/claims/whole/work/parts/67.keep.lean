/-! ===== every change keeps a state good: plain ===== -/
theorem OkS_le {B C : Int} {S : Nat → Int} (h : OkS B S) (hBC : B ≤ C) : OkS C S := by
  obtain ⟨h1, h2, h3, h4, h5⟩ := h
  exact ⟨h1, h2, h3, ⟨h4.1, h4.2.1, by omega, by omega, h4.2.2.2.2⟩, h5⟩
theorem OkS_B {B : Int} {S : Nat → Int} (h : OkS B S) : 0 ≤ B := by
  have := h.2.2.2.1.2.2.1
  omega
theorem OkB_0 {S T : Nat → Int} (h : ∀ j, 78 ≤ j → S j = T j) (hb : OkB T) (h0 : S 77 = 0) : OkB S := by
  have ek : zk S = 0 := by unfold zk; rw [h0]; rfl
  refine ⟨by omega, fun k hk => by rw [h _ (by omega)]; exact hb.2.1 k hk, fun a b hab hbk => ?_⟩
  rw [ek] at hbk
  omega
theorem OkS_fg {B : Int} {S X : Nat → Int} (h : OkS B S) (hP : OkP X) (hX : OkB X) (hx : ∀ j, 68 ≤ j → j ≤ 74 → X j = S j) : OkS B (sFg X) := by
  have hB := OkS_B h
  obtain ⟨h1, h2, h3, h4, h5⟩ := h
  have hM : OkM (mu X) := OkM_cong (fun d hd => hx (68 + d) (by omega) (by omega)) h2
  have hb := sBd_b hP hM
  have e73 : sFg X 73 = 0 := by unfold sFg; rw [zu_n _ _ (by omega), zu_n _ _ (by omega), zu_s]
  have e75 : sFg X 75 = sBd X (mu X) := by unfold sFg; rw [zu_s]
  have e76 : sFg X 76 = -6 := by unfold sFg; rw [zu_n _ _ (by omega), zu_s]
  refine ⟨Ag_OkP (sFg_Ag X) hP, OkM_cong (fun d hd => sFg_o (S := X) (j := 68 + d) (by omega) (by omega) (by omega)) hM, OkB_cong (fun j hj => sFg_o (by omega) (by omega) (by omega)) hX, ?_, Or.inl e76⟩
  rw [e73, e75, sFg_o (by omega) (by omega) (by omega), sFg_o (by omega) (by omega) (by omega), sFg_o (by omega) (by omega) (by omega), hx 71 (by omega) (by omega), hx 72 (by omega) (by omega), hx 74 (by omega) (by omega)]
  exact ⟨h4.1, h4.2.1, ⟨by omega, hB⟩, h4.2.2.2.1, hb⟩
theorem OkS_item {B : Int} {S : Nat → Int} (h : OkS B S) (w a b c : Int) : OkS B (aItem S w a b c).2 := by
  unfold aItem
  split
  · rename_i hr
    split
    · exact h
    · rename_i h16
      have hn := zn_eq h.1
      have hlt : zn S < 16 := by omega
      refine OkS_fg h (OkP_77 (OkP_ap h.1 hlt hr)) (OkB_0 (T := S) (fun j hj => by rw [zu_n _ _ (by omega), sAp_far hlt (by omega)]) h.2.2.1 (zu_s _ _ _)) (fun j hj hk => by rw [zu_n _ _ (by omega), sAp_far hlt (by omega)])
  · exact h
theorem OkS_drop {B : Int} {S : Nat → Int} (h : OkS B S) (k : Int) : OkS B (aDrop S k).2 := by
  unfold aDrop
  split
  · rename_i hk
    have hn := zn_eq h.1
    have h16 := zn_le h.1
    refine OkS_fg h (OkP_77 (OkP_rm h.1 (k := k.toNat) (by omega))) (OkB_0 (T := S) (fun j hj => by rw [zu_n _ _ (by omega), sRm_far h16 (by omega)]) h.2.2.1 (zu_s _ _ _)) (fun j hj hk => by rw [zu_n _ _ (by omega), sRm_far h16 (by omega)])
  · exact h
theorem OkS_limit {B : Int} {S : Nat → Int} (h : OkS B S) (d v : Int) : OkS B (aLimit S d v).2 := by
  unfold aLimit
  split
  · split
    · rename_i hd hv
      exact OkS_fg h (OkP_lim h.1 (d := d.toNat) (by omega) hv) (OkB_cong (fun j hj => zu_n _ _ (by omega)) h.2.2.1) (fun j hj hk => zu_n _ _ (by omega))
    · exact h
  · exact h
theorem OkS_mult {B : Int} {S : Nat → Int} (h : OkS B S) (d v : Int) : OkS B (aMult S d v).2 := by
  unfold aMult
  split
  · split
    · rename_i hd hv
      refine OkS_ls ?_
      obtain ⟨h1, h2, h3, h4, h5⟩ := h
      refine ⟨Ag_OkP (zu_Ag (by omega)) h1, OkM_mul h2 (d := d.toNat) (by omega) hv, OkB_cong (fun j hj => zu_n _ _ (by omega)) h3, ?_, by rw [zu_n _ _ (by omega)]; exact h5⟩
      rw [zu_n _ _ (by omega), zu_n _ _ (by omega), zu_n _ _ (by omega), zu_n _ _ (by omega), zu_n _ _ (by omega)]
      exact h4
    · exact h
  · exact h
theorem OkS_rule {B : Int} {S : Nat → Int} (h : OkS B S) (r t : Int) : OkS B (aRule S r t).2 := by
  unfold aRule
  split
  · rename_i hr
    obtain ⟨h1, h2, h3, h4, h5⟩ := h
    have e : ∀ j, j ≠ 71 → j ≠ 72 → oRule S r t j = S j := fun j a b => by unfold oRule; rw [zu_n _ _ b, zu_n _ _ a]
    have e71 : oRule S r t 71 = r := by unfold oRule; rw [zu_n _ _ (by omega), zu_s]
    have e72 : oRule S r t 72 = t := by unfold oRule; rw [zu_s]
    refine ⟨Ag_OkP (fun j hj => e j (by omega) (by omega)) h1, OkM_cong (fun d hd => e (68 + d) (by omega) (by omega)) h2, OkB_cong (fun j hj => e j (by omega) (by omega)) h3, ?_, ?_⟩
    · show (0 ≤ oRule S r t 71 ∧ oRule S r t 71 ≤ 2) ∧ (1 ≤ oRule S r t 72 ∧ oRule S r t 72 ≤ 9999) ∧ (0 ≤ oRule S r t 73 ∧ oRule S r t 73 ≤ B) ∧ (0 ≤ oRule S r t 74 ∧ oRule S r t 74 ≤ B) ∧ 0 ≤ oRule S r t 75 ∧ oRule S r t 75 ≤ 3000000000
      rw [e71, e72, e 73 (by omega) (by omega), e 74 (by omega) (by omega), e 75 (by omega) (by omega)]
      exact ⟨hr.1, hr.2, h4.2.2⟩
    · show oRule S r t 76 = -6 ∨ 0 ≤ oRule S r t 76 ∧ oRule S r t 76 ≤ 65535
      rw [e 76 (by omega) (by omega)]
      exact h5
  · exact h
theorem OkS_step {B : Int} {S : Nat → Int} (h : OkS B S) (n : Int) : OkS (B + 99) (aStep S n).2 := by
  unfold aStep
  split
  · rename_i hn
    exact OkS_le (OkS_stN h n.toNat) (by omega)
  · exact OkS_le h (by omega)
theorem OkS_rep {B : Int} {S : Nat → Int} (h : OkS B S) : OkS B (aRep S).2 := by
  show OkS B (oRep S)
  have hr := sRp_lt h.1
  obtain ⟨h1, h2, h3, h4, h5⟩ := h
  refine ⟨Ag_OkP (zu_Ag (by omega)) h1, OkM_cong (fun d hd => zu_n _ _ (by omega)) h2, OkB_cong (fun j hj => zu_n _ _ (by omega)) h3, ?_, ?_⟩
  · show (0 ≤ oRep S 71 ∧ oRep S 71 ≤ 2) ∧ (1 ≤ oRep S 72 ∧ oRep S 72 ≤ 9999) ∧ (0 ≤ oRep S 73 ∧ oRep S 73 ≤ B) ∧ (0 ≤ oRep S 74 ∧ oRep S 74 ≤ B) ∧ 0 ≤ oRep S 75 ∧ oRep S 75 ≤ 3000000000
    unfold oRep
    rw [zu_n _ _ (by omega), zu_n _ _ (by omega), zu_n _ _ (by omega), zu_n _ _ (by omega), zu_n _ _ (by omega)]
    exact h4
  · show oRep S 76 = -6 ∨ 0 ≤ oRep S 76 ∧ oRep S 76 ≤ 65535
    unfold oRep
    rw [zu_s]
    split
    · exact Or.inr ⟨by omega, by omega⟩
    · exact h5
/-- what an order does -/
def aOrd (ch : Nat) (L : Nat → Int) (S : Nat → Int) : Int × (Nat → Int) :=
  if ch = 105 then aItem S (L 0) (L 1) (L 2) (L 3) else if ch = 108 then aLimit S (L 0) (L 1) else if ch = 114 then aRule S (L 0) (S 72) else if ch = 115 then aStep S (L 0) else if ch = 120 then aRep S else if ch = 45 then aDrop S (L 0) else (-3, S)
theorem OkS_ord {B : Int} {S : Nat → Int} (h : OkS B S) (ch : Nat) (L : Nat → Int) : OkS (B + 99) (aOrd ch L S).2 := by
  unfold aOrd
  split
  · exact OkS_le (OkS_item h _ _ _ _) (by omega)
  · split
    · exact OkS_le (OkS_limit h _ _) (by omega)
    · split
      · exact OkS_le (OkS_rule h _ _) (by omega)
      · split
        · exact OkS_step h _
        · split
          · exact OkS_le (OkS_rep h) (by omega)
          · split
            · exact OkS_le (OkS_drop h _) (by omega)
            · exact OkS_le h (by omega)
/-- orders one after another, up to one that answers an error: how many went, and what is then -/
def cO (T : Nat → Nat) (pl : Nat) : List Nat → (Nat → Int) → Nat × (Nat → Int)
  | [], S => (0, S)
  | b :: l, S => if (aOrd (cA T pl b) (oN T pl b) S).1 < 0 then (0, (aOrd (cA T pl b) (oN T pl b) S).2) else ((cO T pl l (aOrd (cA T pl b) (oN T pl b) S).2).1 + 1, (cO T pl l (aOrd (cA T pl b) (oN T pl b) S).2).2)
theorem cO_no {T : Nat → Nat} {pl b : Nat} {l : List Nat} {S : Nat → Int} (h : (aOrd (cA T pl b) (oN T pl b) S).1 < 0) : cO T pl (b :: l) S = (0, (aOrd (cA T pl b) (oN T pl b) S).2) := if_pos h
theorem cO_go {T : Nat → Nat} {pl b : Nat} {l : List Nat} {S : Nat → Int} (h : ¬ (aOrd (cA T pl b) (oN T pl b) S).1 < 0) : cO T pl (b :: l) S = ((cO T pl l (aOrd (cA T pl b) (oN T pl b) S).2).1 + 1, (cO T pl l (aOrd (cA T pl b) (oN T pl b) S).2).2) := if_neg h
theorem cO_b {T : Nat → Nat} {pl : Nat} : ∀ (l : List Nat) (S : Nat → Int) (B : Int), OkS B S → (cO T pl l S).1 ≤ l.length ∧ OkS (B + 99 * (l.length : Int)) (cO T pl l S).2
  | [], S, B, h => ⟨Nat.le_refl _, OkS_le h (by show B ≤ B + 99 * ((0 : Nat) : Int); omega)⟩
  | b :: l, S, B, h => by
    have h1 := OkS_ord h (cA T pl b) (oN T pl b)
    by_cases c : (aOrd (cA T pl b) (oN T pl b) S).1 < 0
    · rw [cO_no c]
      exact ⟨Nat.zero_le _, OkS_le h1 (by simp only [List.length_cons]; omega)⟩
    · rw [cO_go c]
      have ih := cO_b (T := T) (pl := pl) l _ _ h1
      exact ⟨by simp only [List.length_cons]; omega, OkS_le ih.2 (by simp only [List.length_cons]; omega)⟩
