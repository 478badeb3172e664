/-! ===== the orders of a text: plain ===== -/
theorem rP_any {T : Nat → Nat} {pl : Nat} : ∀ (cs : List Nat) (a rd rd' : Nat) (Q Q' : Nat → Int), (rP T pl cs a rd Q).1 = (rP T pl cs a rd' Q').1 ∧ (rP T pl cs a rd Q).2.1 = (rP T pl cs a rd' Q').2.1
  | [], _, _, _, _, _ => ⟨rfl, rfl⟩
  | c :: cs, a, rd, rd', Q, Q' => by
    by_cases h : c = 78
    · by_cases y : 0 ≤ dg T pl a
      · rw [rP_N h y, rP_N h y]; exact rP_any cs _ _ _ _ _
      · rw [rP_Nn h y, rP_Nn h y]; exact ⟨rfl, rfl⟩
    · by_cases h2 : c = 68
      · by_cases y : 48 ≤ cA T pl a ∧ cA T pl a ≤ 50
        · rw [rP_D h2 y, rP_D h2 y]; exact rP_any cs _ _ _ _ _
        · rw [rP_Dn h2 y, rP_Dn h2 y]; exact ⟨rfl, rfl⟩
      · by_cases y : cA T pl a = c
        · rw [rP_S h h2 y, rP_S h h2 y]; exact rP_any cs _ _ _ _ _
        · rw [rP_Sn h h2 y, rP_Sn h h2 y]; exact ⟨rfl, rfl⟩
theorem rP_b {T : Nat → Nat} {pl : Nat} : ∀ (cs : List Nat) (a rd : Nat) (Q : Nat → Int), (∀ c ∈ cs, 0 < c) → a ≤ pl → (a ≤ (rP T pl cs a rd Q).2.1 ∧ (rP T pl cs a rd Q).2.1 ≤ pl) ∧ ((rP T pl cs a rd Q).1 = true → a + cs.length ≤ (rP T pl cs a rd Q).2.1)
  | [], a, rd, Q, _, ha => ⟨⟨Nat.le_refl _, ha⟩, fun _ => Nat.le_refl _⟩
  | c :: cs, a, rd, Q, hc, ha => by
    have hc0 := hc c (List.mem_cons_self ..)
    have hcs : ∀ x ∈ cs, 0 < x := fun x hx => hc x (List.mem_cons_of_mem _ hx)
    by_cases h : c = 78
    · by_cases y : 0 ≤ dg T pl a
      · rw [rP_N h y]
        have hn := nIt_at y 2
        have ih := rP_b (T := T) cs (nIt T pl a 2).2 (rd + 1) (zu Q rd (nIt T pl a 2).1) hcs hn.2
        refine ⟨⟨by omega, ih.1.2⟩, fun q => ?_⟩
        have := ih.2 q
        simp only [List.length_cons]
        omega
      · rw [rP_Nn h y]; exact ⟨⟨Nat.le_refl _, ha⟩, fun q => Bool.noConfusion q⟩
    · by_cases h2 : c = 68
      · by_cases y : 48 ≤ cA T pl a ∧ cA T pl a ≤ 50
        · rw [rP_D h2 y]
          have hal := cA_lt (T := T) (pl := pl) (a := a) (by omega)
          have ih := rP_b (T := T) cs (a + 1) (rd + 1) (zu Q rd (((cA T pl a : Nat) : Int) - 48)) hcs hal
          refine ⟨⟨by omega, ih.1.2⟩, fun q => ?_⟩
          have := ih.2 q
          simp only [List.length_cons]
          omega
        · rw [rP_Dn h2 y]; exact ⟨⟨Nat.le_refl _, ha⟩, fun q => Bool.noConfusion q⟩
      · by_cases y : cA T pl a = c
        · rw [rP_S h h2 y]
          have hal := cA_lt (T := T) (pl := pl) (a := a) (by omega)
          have ih := rP_b (T := T) cs (a + 1) rd Q hcs hal
          refine ⟨⟨by omega, ih.1.2⟩, fun q => ?_⟩
          have := ih.2 q
          simp only [List.length_cons]
          omega
        · rw [rP_Sn h h2 y]; exact ⟨⟨Nat.le_refl _, ha⟩, fun q => Bool.noConfusion q⟩
/-- where nothing is put -/
theorem rP_out {T : Nat → Nat} {pl : Nat} : ∀ (cs : List Nat) (a rd : Nat) (Q : Nat → Int) (i : Nat), i < rd → (rP T pl cs a rd Q).2.2.2 i = Q i
  | [], _, _, _, _, _ => rfl
  | c :: cs, a, rd, Q, i, hi => by
    by_cases h : c = 78
    · by_cases y : 0 ≤ dg T pl a
      · rw [rP_N h y, rP_out cs _ _ _ i (by omega)]; exact zu_n _ _ (by omega)
      · rw [rP_Nn h y]
    · by_cases h2 : c = 68
      · by_cases y : 48 ≤ cA T pl a ∧ cA T pl a ≤ 50
        · rw [rP_D h2 y, rP_out cs _ _ _ i (by omega)]; exact zu_n _ _ (by omega)
        · rw [rP_Dn h2 y]
      · by_cases y : cA T pl a = c
        · rw [rP_S h h2 y]; exact rP_out cs _ _ _ i hi
        · rw [rP_Sn h h2 y]
theorem rP_num {T : Nat → Nat} {pl : Nat} : ∀ (cs : List Nat) (a rd rd' : Nat) (Q Q' : Nat → Int), (rP T pl cs a rd Q).1 = true → ∀ j, j < cN8 cs → (rP T pl cs a rd Q).2.2.2 (rd + j) = (rP T pl cs a rd' Q').2.2.2 (rd' + j)
  | [], _, _, _, _, _, _, j, hj => absurd hj (Nat.not_lt_zero _)
  | c :: cs, a, rd, rd', Q, Q', hok, j, hj => by
    by_cases h : c = 78
    · by_cases y : 0 ≤ dg T pl a
      · rw [rP_N h y] at hok
        rw [rP_N h y, rP_N h y]
        rw [cN8_y (Or.inl h)] at hj
        match j, hj with
        | 0, _ => rw [rP_out cs _ _ _ (rd + 0) (by omega), rP_out cs _ _ _ (rd' + 0) (by omega)]; exact (zu_s _ _ _).trans (zu_s _ _ _).symm
        | j + 1, hj =>
          have := rP_num cs (nIt T pl a 2).2 (rd + 1) (rd' + 1) (zu Q rd (nIt T pl a 2).1) (zu Q' rd' (nIt T pl a 2).1) hok j (by omega)
          rw [show rd + (j + 1) = rd + 1 + j by omega, show rd' + (j + 1) = rd' + 1 + j by omega]
          exact this
      · rw [rP_Nn h y] at hok; exact Bool.noConfusion hok
    · by_cases h2 : c = 68
      · by_cases y : 48 ≤ cA T pl a ∧ cA T pl a ≤ 50
        · rw [rP_D h2 y] at hok
          rw [rP_D h2 y, rP_D h2 y]
          rw [cN8_y (Or.inr h2)] at hj
          match j, hj with
          | 0, _ => rw [rP_out cs _ _ _ (rd + 0) (by omega), rP_out cs _ _ _ (rd' + 0) (by omega)]; exact (zu_s _ _ _).trans (zu_s _ _ _).symm
          | j + 1, hj =>
            have := rP_num cs (a + 1) (rd + 1) (rd' + 1) (zu Q rd (((cA T pl a : Nat) : Int) - 48)) (zu Q' rd' (((cA T pl a : Nat) : Int) - 48)) hok j (by omega)
            rw [show rd + (j + 1) = rd + 1 + j by omega, show rd' + (j + 1) = rd' + 1 + j by omega]
            exact this
        · rw [rP_Dn h2 y] at hok; exact Bool.noConfusion hok
      · by_cases y : cA T pl a = c
        · rw [rP_S h h2 y] at hok
          rw [rP_S h h2 y, rP_S h h2 y]
          rw [cN8_n h h2] at hj
          exact rP_num cs (a + 1) rd rd' Q Q' hok j hj
        · rw [rP_Sn h h2 y] at hok; exact Bool.noConfusion hok
/-- every number is one of 0 to 999 -/
theorem rP_val {T : Nat → Nat} {pl : Nat} : ∀ (cs : List Nat) (a rd : Nat) (Q : Nat → Int), (∀ i, 0 ≤ Q i ∧ Q i ≤ 999) → ∀ i, 0 ≤ (rP T pl cs a rd Q).2.2.2 i ∧ (rP T pl cs a rd Q).2.2.2 i ≤ 999
  | [], _, _, _, hQ, i => hQ i
  | c :: cs, a, rd, Q, hQ, i => by
    have hz : ∀ (v : Int), 0 ≤ v ∧ v ≤ 999 → ∀ i, 0 ≤ zu Q rd v i ∧ zu Q rd v i ≤ 999 := by
      intro v hv i
      by_cases e : i = rd
      · subst e; rw [zu_s]; exact hv
      · rw [zu_n _ _ e]; exact hQ i
    by_cases h : c = 78
    · by_cases y : 0 ≤ dg T pl a
      · rw [rP_N h y]; exact rP_val cs _ _ _ (hz _ (nIt_bk y (by omega))) i
      · rw [rP_Nn h y]; exact hQ i
    · by_cases h2 : c = 68
      · by_cases y : 48 ≤ cA T pl a ∧ cA T pl a ≤ 50
        · rw [rP_D h2 y]; exact rP_val cs _ _ _ (hz _ (by omega)) i
        · rw [rP_Dn h2 y]; exact hQ i
      · by_cases y : cA T pl a = c
        · rw [rP_S h h2 y]; exact rP_val cs _ _ _ hQ i
        · rw [rP_Sn h h2 y]; exact hQ i
theorem shL_pos : ∀ i, i < 7 → ∀ c ∈ shL i, 0 < c := by decide +kernel
theorem shL_len : ∀ i, i < 7 → (shL i).length = sLe8.getD i 0 := by decide +kernel
def oQ (T : Nat → Nat) (pl b : Nat) : Bool × Nat × Nat × (Nat → Int) := rP T pl (shL (kI (cA T pl b))) b 0 (fun _ => 0)
abbrev oOk (T : Nat → Nat) (pl b : Nat) : Prop := (oQ T pl b).1 = true ∧ ¬ sLe8.getD (kI (cA T pl b)) 0 = 0
def oE (T : Nat → Nat) (pl b : Nat) : Nat := (oQ T pl b).2.1
def oN (T : Nat → Nat) (pl b j : Nat) : Int := (oQ T pl b).2.2.2 j
def oC (T : Nat → Nat) (pl b : Nat) : Nat := cN8 (shL (kI (cA T pl b)))
theorem oE_b {T : Nat → Nat} {pl b : Nat} (h : b ≤ pl) : b ≤ oE T pl b ∧ oE T pl b ≤ pl := (rP_b _ b 0 (fun _ => 0) (shL_pos _ (kI_lt _)) h).1
theorem oE_lt {T : Nat → Nat} {pl b : Nat} (h : b ≤ pl) (ho : oOk T pl b) : b < oE T pl b := by
  have h1 := (rP_b _ b 0 (fun _ => 0) (shL_pos _ (kI_lt (cA T pl b))) h).2 ho.1
  have h2 := ho.2
  rw [shL_len _ (kI_lt _)] at h1
  show b < (oQ T pl b).2.1
  have e : oQ T pl b = rP T pl (shL (kI (cA T pl b))) b 0 (fun _ => 0) := rfl
  rw [e]
  omega
theorem oC_4 (T : Nat → Nat) (pl b : Nat) : oC T pl b ≤ 4 := (shL_n _ (kI_lt _)).1
theorem oN_b (T : Nat → Nat) (pl b j : Nat) : 0 ≤ oN T pl b j ∧ oN T pl b j ≤ 999 := rP_val _ _ _ _ (fun _ => ⟨Int.le_refl _, by decide⟩) j
/-- an order read anywhere -/
theorem oQ_at {T : Nat → Nat} {pl b rd : Nat} {Q : Nat → Int} : (rP T pl (shL (kI (cA T pl b))) b rd Q).1 = (oQ T pl b).1 ∧ (rP T pl (shL (kI (cA T pl b))) b rd Q).2.1 = oE T pl b := rP_any _ _ _ _ _ _
theorem oN_at {T : Nat → Nat} {pl b rd : Nat} {Q : Nat → Int} (ho : oOk T pl b) {j : Nat} (hj : j < oC T pl b) : (rP T pl (shL (kI (cA T pl b))) b rd Q).2.2.2 (rd + j) = oN T pl b j := by
  have h := rP_num (shL (kI (cA T pl b))) b rd 0 Q (fun _ => 0) (oQ_at.1.trans ho.1) j hj
  rw [h, Nat.zero_add]
  rfl
/-- the text from an order on: whether it is one, and where it ends or fails -/
def tP (T : Nat → Nat) (pl : Nat) : Nat → Nat → Bool × Nat
  | 0, b => (false, b)
  | n + 1, b => if oOk T pl b then (if cA T pl (oE T pl b) = 59 then tP T pl n (oE T pl b + 1) else (decide (oE T pl b = pl), oE T pl b)) else (false, oE T pl b)
def sts (T : Nat → Nat) (pl : Nat) : Nat → Nat → List Nat
  | 0, _ => []
  | n + 1, b => if oOk T pl b then b :: (if cA T pl (oE T pl b) = 59 then sts T pl n (oE T pl b + 1) else []) else []
theorem tP_no {T : Nat → Nat} {pl n b : Nat} (h : ¬ oOk T pl b) : tP T pl (n + 1) b = (false, oE T pl b) := if_neg h
theorem tP_go {T : Nat → Nat} {pl n b : Nat} (h : oOk T pl b) (h2 : cA T pl (oE T pl b) = 59) : tP T pl (n + 1) b = tP T pl n (oE T pl b + 1) := (if_pos h).trans (if_pos h2)
theorem tP_end {T : Nat → Nat} {pl n b : Nat} (h : oOk T pl b) (h2 : ¬ cA T pl (oE T pl b) = 59) : tP T pl (n + 1) b = (decide (oE T pl b = pl), oE T pl b) := (if_pos h).trans (if_neg h2)
theorem sts_no {T : Nat → Nat} {pl n b : Nat} (h : ¬ oOk T pl b) : sts T pl (n + 1) b = [] := if_neg h
theorem sts_go {T : Nat → Nat} {pl n b : Nat} (h : oOk T pl b) (h2 : cA T pl (oE T pl b) = 59) : sts T pl (n + 1) b = b :: sts T pl n (oE T pl b + 1) := (if_pos h).trans (congrArg _ (if_pos h2))
theorem sts_end {T : Nat → Nat} {pl n b : Nat} (h : oOk T pl b) (h2 : ¬ cA T pl (oE T pl b) = 59) : sts T pl (n + 1) b = [b] := (if_pos h).trans (congrArg _ (if_neg h2))
theorem tP_b {T : Nat → Nat} {pl : Nat} : ∀ n b, b ≤ pl → b ≤ (tP T pl n b).2 ∧ (tP T pl n b).2 ≤ pl
  | 0, b, h => ⟨Nat.le_refl _, h⟩
  | n + 1, b, h => by
    have he := oE_b (T := T) h
    by_cases ho : oOk T pl b
    · by_cases c : cA T pl (oE T pl b) = 59
      · rw [tP_go ho c]
        have := cA_lt (T := T) (pl := pl) (a := oE T pl b) (by omega)
        have ih := tP_b (T := T) (pl := pl) n (oE T pl b + 1) (by omega)
        omega
      · rw [tP_end ho c]; exact he
    · rw [tP_no ho]; exact he
/-- what a text says of itself -/
def tF (T : Nat → Nat) (pl : Nat) : Int := if (tP T pl (pl + 1) 0).1 = true then -6 else (((tP T pl (pl + 1) 0).2 : Nat) : Int)
/-- the text as the class goes on with it from a place -/
def cF (T : Nat → Nat) (pl n a : Nat) : Bool × Nat := if a = 0 then tP T pl n a else if cA T pl a = 59 then tP T pl n (a + 1) else (false, a)
theorem cF_0 {T : Nat → Nat} {pl n a : Nat} (h : a = 0) : cF T pl n a = tP T pl n a := if_pos h
theorem cF_s {T : Nat → Nat} {pl n a : Nat} (h : ¬ a = 0) (h2 : cA T pl a = 59) : cF T pl n a = tP T pl n (a + 1) := (if_neg h).trans (if_pos h2)
theorem cF_n {T : Nat → Nat} {pl n a : Nat} (h : ¬ a = 0) (h2 : ¬ cA T pl a = 59) : cF T pl n a = (false, a) := (if_neg h).trans (if_neg h2)
theorem cF_go {T : Nat → Nat} {pl n b : Nat} (h : b ≤ pl) (ho : oOk T pl b) (hlt : oE T pl b < pl) : cF T pl n (oE T pl b) = tP T pl (n + 1) b := by
  have hl := oE_lt h ho
  by_cases c : cA T pl (oE T pl b) = 59
  · rw [cF_s (by omega) c, tP_go ho c]
  · rw [cF_n (by omega) c, tP_end ho c, decide_eq_false (by omega)]
theorem tF_f {T : Nat → Nat} {pl x : Nat} (h : (false, x) = tP T pl (pl + 1) 0) : tF T pl = ((x : Nat) : Int) := by
  unfold tF
  rw [← h]
  rfl
theorem tF_t {T : Nat → Nat} {pl : Nat} (h : (tP T pl (pl + 1) 0).1 = true) : tF T pl = -6 := if_pos h
theorem tF_end {T : Nat → Nat} {pl n b : Nat} (hF : tP T pl (n + 1) b = tP T pl (pl + 1) 0) (ho : oOk T pl b) (he : oE T pl b = pl) : tF T pl = -6 := by
  refine tF_t ?_
  have hc : ¬ cA T pl (oE T pl b) = 59 := by
    rw [he]
    have : cA T pl pl = 0 := if_neg (by omega)
    omega
  rw [← hF, tP_end ho hc, decide_eq_true he]
def QB (Q : Nat → Int) : Prop := ∀ i, 0 ≤ Q i ∧ Q i ≤ 999
theorem QB_zu {Q : Nat → Int} (h : QB Q) (k : Nat) {v : Int} (hv : 0 ≤ v ∧ v ≤ 999) : QB (zu Q k v) := by
  intro i
  by_cases e : i = k
  · subst e; rw [zu_s]; exact hv
  · rw [zu_n _ _ e]; exact h i
