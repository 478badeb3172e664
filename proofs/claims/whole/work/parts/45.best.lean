/-! ===== the search finds what trying all sets finds ===== -/
def useK (S : Nat → Int) (k T what : Nat) : Int := sSum k (fun i => if T.testBit i = true then sC S what i else 0)
def fitK (S L : Nat → Int) (k T : Nat) : Prop := (useK S k T 1 ≤ L 0 ∧ useK S k T 2 ≤ L 1) ∧ useK S k T 3 ≤ L 2
theorem useK_lt {S : Nat → Int} {k T what : Nat} (h : T < 2 ^ k) : useK S (k + 1) T what = useK S k T what := by
  show sSum k _ + (if T.testBit k = true then sC S what k else 0) = sSum k _
  rw [Nat.testBit_lt_two_pow h]
  simp
theorem useK_or {S : Nat → Int} {k T what : Nat} (h : T < 2 ^ k) : useK S (k + 1) (T ||| 2 ^ k) what = useK S k T what + sC S what k := by
  show sSum k _ + (if (T ||| 2 ^ k).testBit k = true then sC S what k else 0) = sSum k _ + sC S what k
  rw [Nat.testBit_or, Nat.testBit_two_pow]
  simp only [decide_true, Bool.or_true, if_true]
  congr 1
  refine sSum_congr k (fun i hi => ?_)
  rw [Nat.testBit_or, Nat.testBit_two_pow, decide_eq_false (show ¬ k = i by omega), Bool.or_false]
theorem useK_0 (S : Nat → Int) (what : Nat) : ∀ k, useK S k 0 what = 0
  | 0 => rfl
  | k + 1 => by rw [useK_lt (Nat.pow_pos (by decide)), useK_0 S what k]
theorem useK_b {S : Nat → Int} (h : OkI S) {k T what : Nat} (hk : k ≤ 16) (hw : what ≤ 3) : 0 ≤ useK S k T what := (sSum_b (b := 999) k (fun i hi => by
    have := h.2.1 i (by omega)
    match what, hw with
    | 0, _ => split <;> omega
    | 1, _ => split <;> omega
    | 2, _ => split <;> omega
    | 3, _ => split <;> omega)).1
theorem useK_pre {S : Nat → Int} (h : OkI S) (T : Nat) : ∀ k, k ≤ 16 → useK S k T 0 ≤ sPre S k
  | 0, _ => Int.le_refl 0
  | k + 1, hk => by
    have ih := useK_pre h T k (by omega)
    have := h.2.1 k (by omega)
    show sSum k _ + (if T.testBit k = true then sC S 0 k else 0) ≤ sSum k (fun i => sC S 0 i) + sC S 0 k
    have e1 : useK S k T 0 = sSum k (fun i => if T.testBit i = true then sC S 0 i else 0) := rfl
    have e2 : sPre S k = sSum k (fun i => sC S 0 i) := rfl
    split <;> omega
theorem set_split {k T : Nat} (h : T < 2 ^ (k + 1)) : T < 2 ^ k ∨ ∃ U, U < 2 ^ k ∧ T = U ||| 2 ^ k ∧ T = U + 2 ^ k := by
  by_cases c : T < 2 ^ k
  · exact Or.inl c
  · right
    have e : 2 ^ (k + 1) = 2 ^ k + 2 ^ k := by rw [Nat.pow_succ]; omega
    have hu : T - 2 ^ k < 2 ^ k := by omega
    have h1 := Nat.two_pow_add_eq_or_of_lt hu 1
    rw [Nat.mul_one] at h1
    refine ⟨T - 2 ^ k, hu, ?_, by omega⟩
    rw [Nat.or_comm, ← h1]
    omega
theorem or_add {k U : Nat} (hu : U < 2 ^ k) : U ||| 2 ^ k = U + 2 ^ k := by
  have h1 := Nat.two_pow_add_eq_or_of_lt hu 1
  rw [Nat.mul_one] at h1
  rw [Nat.or_comm, ← h1]
  omega
def bst (S : Nat → Int) : Nat → (Nat → Int) → Int
  | 0, _ => 0
  | k + 1, L => if sRoom S L k then max (bst S k L) (sC S 0 k + bst S k (sLv S L k (-1))) else bst S k L
theorem bst_s (S : Nat → Int) (k : Nat) (L : Nat → Int) : bst S (k + 1) L = if sRoom S L k then max (bst S k L) (sC S 0 k + bst S k (sLv S L k (-1))) else bst S k L := rfl
theorem sPre_s (S : Nat → Int) (k : Nat) : sPre S (k + 1) = sPre S k + sC S 0 k := rfl
theorem bst_b {S : Nat → Int} (h : OkI S) : ∀ (k : Nat) (L : Nat → Int), k ≤ 16 → 0 ≤ bst S k L ∧ bst S k L ≤ sPre S k
  | 0, _, _ => by show (0 : Int) ≤ 0 ∧ (0 : Int) ≤ 0; omega
  | k + 1, L, hk => by
    have a := bst_b h k L (by omega)
    have b := bst_b h k (sLv S L k (-1)) (by omega)
    have := h.2.1 k (by omega)
    rw [bst_s, sPre_s]
    split <;> omega
theorem sGr_eq {S : Nat → Int} (h : OkI S) : ∀ (k : Nat) (L : Nat → Int) (w kn : Int), k ≤ 16 → sGr S k L w kn = max kn (w + bst S k L)
  | 0, L, w, kn, _ => by show max kn w = max kn (w + 0); omega
  | k + 1, L, w, kn, hk => by
    have a := bst_b h k L (by omega)
    have b := bst_b h k (sLv S L k (-1)) (by omega)
    have := h.2.1 k (by omega)
    rw [sGr_s, bst_s, sPre_s]
    by_cases hr : sRoom S L k
    · rw [if_pos hr, if_pos hr, sGr_eq h k L _ _ (by omega), sGr_eq h k (sLv S L k (-1)) _ _ (by omega)]
      split <;> omega
    · rw [if_neg hr, if_neg hr, sGr_eq h k L _ _ (by omega)]
      split <;> omega
theorem fitK_or {S L : Nat → Int} (h : OkI S) {k U : Nat} (hk : k < 16) (hu : U < 2 ^ k) : fitK S L (k + 1) (U ||| 2 ^ k) ↔ sRoom S L k ∧ fitK S (sLv S L k (-1)) k U := by
  have b1 := useK_b h (k := k) (T := U) (what := 1) (by omega) (by omega)
  have b2 := useK_b h (k := k) (T := U) (what := 2) (by omega) (by omega)
  have b3 := useK_b h (k := k) (T := U) (what := 3) (by omega) (by omega)
  unfold fitK sLv
  rw [useK_or hu, useK_or hu, useK_or hu]
  have e1 : (1 + 0 : Nat) = 1 := rfl
  have e2 : (1 + 1 : Nat) = 2 := rfl
  have e3 : (1 + 2 : Nat) = 3 := rfl
  rw [e1, e2, e3]
  unfold sRoom
  omega
theorem fitK_lt {S L : Nat → Int} {k T : Nat} (h : T < 2 ^ k) : fitK S L (k + 1) T ↔ fitK S L k T := by
  unfold fitK
  rw [useK_lt h, useK_lt h, useK_lt h]
def nnL (L : Nat → Int) : Prop := (0 ≤ L 0 ∧ 0 ≤ L 1) ∧ 0 ≤ L 2
theorem nnL_lv {S L : Nat → Int} {k : Nat} (hr : sRoom S L k) : nnL (sLv S L k (-1)) := by
  unfold nnL sLv
  have e1 : (1 + 0 : Nat) = 1 := rfl
  have e2 : (1 + 1 : Nat) = 2 := rfl
  have e3 : (1 + 2 : Nat) = 3 := rfl
  rw [e1, e2, e3]
  omega
theorem bst_ub {S : Nat → Int} (h : OkI S) : ∀ (k : Nat) (L : Nat → Int) (T : Nat), k ≤ 16 → T < 2 ^ k → fitK S L k T → useK S k T 0 ≤ bst S k L
  | 0, _, _, _, _, _ => Int.le_refl 0
  | k + 1, L, T, hk, hT, hf => by
    rw [bst_s]
    rcases set_split hT with c | ⟨U, hu, e, -⟩
    · have ih := bst_ub h k L T (by omega) c ((fitK_lt c).mp hf)
      rw [useK_lt c]
      split <;> omega
    · subst e
      obtain ⟨hr, hf2⟩ := (fitK_or h (by omega) hu).mp hf
      have ih := bst_ub h k (sLv S L k (-1)) U (by omega) hu hf2
      rw [useK_or hu, if_pos hr]
      omega
theorem bst_ex {S : Nat → Int} (h : OkI S) : ∀ (k : Nat) (L : Nat → Int), k ≤ 16 → nnL L → ∃ T, T < 2 ^ k ∧ fitK S L k T ∧ useK S k T 0 = bst S k L
  | 0, L, _, hL => ⟨0, by decide, by unfold fitK; unfold nnL at hL; show ((0 : Int) ≤ L 0 ∧ (0 : Int) ≤ L 1) ∧ (0 : Int) ≤ L 2; exact hL, rfl⟩
  | k + 1, L, hk, hL => by
    obtain ⟨T, h1, h2, h3⟩ := bst_ex h k L (by omega) hL
    have e : 2 ^ (k + 1) = 2 ^ k + 2 ^ k := by rw [Nat.pow_succ]; omega
    rw [bst_s]
    by_cases hr : sRoom S L k
    · obtain ⟨U, g1, g2, g3⟩ := bst_ex h k (sLv S L k (-1)) (by omega) (nnL_lv hr)
      rw [if_pos hr]
      by_cases c : bst S k L ≤ sC S 0 k + bst S k (sLv S L k (-1))
      · refine ⟨U ||| 2 ^ k, by rw [or_add g1]; omega, (fitK_or h (by omega) g1).mpr ⟨hr, g2⟩, ?_⟩
        rw [useK_or g1]
        omega
      · refine ⟨T, by omega, (fitK_lt h1).mpr h2, ?_⟩
        rw [useK_lt h1]
        omega
    · rw [if_neg hr]
      exact ⟨T, by omega, (fitK_lt h1).mpr h2, by rw [useK_lt h1]; exact h3⟩
/-- trying all sets -/
theorem sBs_all {S : Nat → Int} (h : OkI S) : ∀ m, (∀ T, T ≤ m → sFit S T → sUse S T 0 ≤ (sBs S m).2) ∧ (sFit S (sBs S m).1 ∧ sUse S (sBs S m).1 0 = (sBs S m).2) ∧ ∀ T, T < (sBs S m).1 → sFit S T → sUse S T 0 < (sBs S m).2
  | 0 => by
    have hz : ∀ what, sUse S 0 what = 0 := fun what => useK_0 S what (zn S)
    have hl := h.2.2
    refine ⟨fun T hT _ => ?_, ⟨?_, hz 0⟩, fun T hT => absurd hT (Nat.not_lt_zero _)⟩
    · have e : T = 0 := by omega
      subst e
      rw [hz 0]
      exact Int.le_refl 0
    · show sFit S 0
      unfold sFit
      rw [hz 1, hz 2, hz 3]
      omega
  | m + 1 => by
    obtain ⟨a, b, c⟩ := sBs_all h m
    rw [sBs_s]
    by_cases q : (sBs S m).2 < sUse S (m + 1) 0 ∧ sFit S (m + 1)
    · rw [if_pos q]
      refine ⟨fun T hT hf => ?_, ⟨q.2, rfl⟩, fun T hT hf => ?_⟩
      · by_cases e : T = m + 1
        · subst e; exact Int.le_refl _
        · have := a T (by omega) hf
          show sUse S T 0 ≤ sUse S (m + 1) 0
          omega
      · have hT2 : T < m + 1 := hT
        have := a T (by omega) hf
        show sUse S T 0 < sUse S (m + 1) 0
        omega
    · rw [if_neg q]
      refine ⟨fun T hT hf => ?_, b, c⟩
      by_cases e : T = m + 1
      · subst e
        by_cases l : (sBs S m).2 < sUse S (m + 1) 0
        · exact absurd ⟨l, hf⟩ q
        · omega
      · exact a T (by omega) hf
/-- S with its limits put at L -/
def atL (S L : Nat → Int) (S2 : Nat → Int) : Prop := (∀ j, j < 65 → S2 j = S j) ∧ L 0 = S2 65 ∧ L 1 = S2 66 ∧ L 2 = S2 67
theorem atL_zn {S L S2 : Nat → Int} (h : atL S L S2) : zn S2 = zn S := by unfold zn; rw [h.1 0 (by omega)]
theorem atL_use {S L S2 : Nat → Int} (h : atL S L S2) (h16 : zn S ≤ 16) (T : Nat) {what : Nat} (hw : what ≤ 3) : sUse S2 T what = useK S (zn S) T what := by
  unfold sUse useK
  rw [atL_zn h]
  exact sSum_congr _ (fun i hi => by
    have : sC S2 what i = sC S what i := h.1 _ (by omega)
    rw [this])
theorem atL_fit {S L S2 : Nat → Int} (h : atL S L S2) (h16 : zn S ≤ 16) (T : Nat) : sFit S2 T ↔ fitK S L (zn S) T := by
  unfold sFit fitK
  rw [atL_use h h16 T (by omega), atL_use h h16 T (by omega), atL_use h h16 T (by omega), h.2.1, h.2.2.1, h.2.2.2]
theorem best_eq {S L S2 : Nat → Int} (h : atL S L S2) (hS : OkI S) (h2 : OkI S2) (hL : nnL L) : sGr S (zn S) L 0 0 = sUse S2 (sBst S2) 0 ∧ bst S (zn S) L = sUse S2 (sBst S2) 0 := by
  have h16 := znI_le hS
  obtain ⟨a, b, c⟩ := sBs_all h2 (2 ^ zn S2 - 1)
  have hp : 0 < 2 ^ zn S := Nat.pow_pos (by decide)
  have hle := sBs_le S2 (2 ^ zn S2 - 1)
  rw [atL_zn h] at a b c hle
  have eb : sBst S2 = (sBs S2 (2 ^ zn S - 1)).1 := by unfold sBst; rw [atL_zn h]
  rw [eb, b.2, sGr_eq hS _ _ _ _ h16]
  have h0 := bst_b hS (zn S) L h16
  have hu : bst S (zn S) L = (sBs S2 (2 ^ zn S - 1)).2 := by
    obtain ⟨T, t1, t2, t3⟩ := bst_ex hS (zn S) L h16 hL
    have u1 := a T (by omega) ((atL_fit h h16 T).mpr t2)
    rw [atL_use h h16 T (by omega)] at u1
    have u2 := bst_ub hS (zn S) L (sBs S2 (2 ^ zn S - 1)).1 h16 (by omega) ((atL_fit h h16 _).mp b.1)
    have u3 := b.2
    rw [atL_use h h16 _ (by omega)] at u3
    omega
  omega
def Qk (S L : Nat → Int) (k : Nat) (m : Int) (T : Nat) : Prop := T < 2 ^ k ∧ fitK S L k T ∧ m ≤ useK S k T 0
theorem sLe_spec {S : Nat → Int} (h : OkI S) : ∀ (k : Nat) (L : Nat → Int) (m : Int) (set : Nat), k ≤ 16 → nnL L →
    (∃ T, Qk S L k m T ∧ (∀ U, U < T → ¬ Qk S L k m U) ∧ sLe S k L m set = ((set ||| T : Nat) : Int)) ∨ ((∀ T, ¬ Qk S L k m T) ∧ sLe S k L m set = -1)
  | 0, L, m, set, _, hL => by
    rw [sLe_0]
    have hf : fitK S L 0 0 := hL
    by_cases hm : m ≤ 0
    · rw [if_pos hm]
      exact Or.inl ⟨0, ⟨by decide, hf, hm⟩, fun U hU => absurd hU (Nat.not_lt_zero _), by rw [Nat.or_zero]⟩
    · rw [if_neg hm]
      exact Or.inr ⟨fun T hT => hm hT.2.2, rfl⟩
  | k + 1, L, m, set, hk, hL => by
    rw [sLe_s]
    by_cases hm : m ≤ 0
    · rw [if_pos hm]
      refine Or.inl ⟨0, ⟨Nat.pow_pos (by decide), ?_, by rw [useK_0]; exact hm⟩, fun U hU => absurd hU (Nat.not_lt_zero _), by rw [Nat.or_zero]⟩
      unfold fitK
      rw [useK_0, useK_0, useK_0]
      exact hL
    · rw [if_neg hm]
      by_cases hp : sPre S (k + 1) < m
      · rw [if_pos hp]
        refine Or.inr ⟨fun T hT => ?_, rfl⟩
        have := useK_pre h T (k + 1) hk
        have := hT.2.2
        omega
      · rw [if_neg hp]
        have up : ∀ T, Qk S L k m T → Qk S L (k + 1) m T := fun T hT => by
          have e : 2 ^ (k + 1) = 2 ^ k + 2 ^ k := by rw [Nat.pow_succ]; omega
          exact ⟨by have := hT.1; omega, (fitK_lt hT.1).mpr hT.2.1, by rw [useK_lt hT.1]; exact hT.2.2⟩
        have dn : ∀ T, T < 2 ^ k → Qk S L (k + 1) m T → Qk S L k m T := fun T hl hT => ⟨hl, (fitK_lt hl).mp hT.2.1, by have := hT.2.2; rw [useK_lt hl] at this; exact this⟩
        rcases sLe_spec h k L m set (by omega) hL with ⟨T, q1, q2, q3⟩ | ⟨q1, q2⟩
        · rw [if_neg (by rw [q3]; omega)]
          refine Or.inl ⟨T, up T q1, fun U hU hQ => q2 U hU (dn U (by have := q1.1; omega) hQ), q3⟩
        · by_cases hr : sRoom S L k
          · rw [if_pos ⟨q2, hr⟩]
            have e : 2 ^ (k + 1) = 2 ^ k + 2 ^ k := by rw [Nat.pow_succ]; omega
            have dn2 : ∀ U, U < 2 ^ k → Qk S L (k + 1) m (U ||| 2 ^ k) → Qk S (sLv S L k (-1)) k (m - sC S 0 k) U := fun U hu hQ => by
              refine ⟨hu, ((fitK_or h (by omega) hu).mp hQ.2.1).2, ?_⟩
              have := hQ.2.2
              rw [useK_or hu] at this
              omega
            rcases sLe_spec h k (sLv S L k (-1)) (m - sC S 0 k) (set ||| 2 ^ k) (by omega) (nnL_lv hr) with ⟨T, r1, r2, r3⟩ | ⟨r1, r2⟩
            · refine Or.inl ⟨T ||| 2 ^ k, ⟨by rw [or_add r1.1]; have := r1.1; omega, (fitK_or h (by omega) r1.1).mpr ⟨hr, r1.2.1⟩, by rw [useK_or r1.1]; have := r1.2.2; omega⟩, fun U hU hQ => ?_, ?_⟩
              · rcases set_split hQ.1 with c | ⟨V, hv, e1, e2⟩
                · exact q1 U (dn U c hQ)
                · rw [or_add r1.1] at hU
                  rw [e1] at hQ
                  exact r2 V (by omega) (dn2 V hv hQ)
              · rw [r3, Nat.or_assoc, Nat.or_comm (2 ^ k) T]
            · refine Or.inr ⟨fun T hQ => ?_, r2⟩
              rcases set_split hQ.1 with c | ⟨V, hv, e1, -⟩
              · exact q1 T (dn T c hQ)
              · rw [e1] at hQ
                exact r1 V (dn2 V hv hQ)
          · rw [if_neg (fun q => hr q.2)]
            refine Or.inr ⟨fun T hQ => ?_, q2⟩
            rcases set_split hQ.1 with c | ⟨V, hv, e1, -⟩
            · exact q1 T (dn T c hQ)
            · rw [e1] at hQ
              exact hr ((fitK_or h (by omega) hv).mp hQ.2.1).1
theorem least_eq {S L S2 : Nat → Int} (h : atL S L S2) (hS : OkI S) (h2 : OkI S2) (hL : nnL L) : sLe S (zn S) L (sGr S (zn S) L 0 0) 0 = ((sBst S2 : Nat) : Int) := by
  have h16 := znI_le hS
  have hb := (best_eq h hS h2 hL).1
  rw [hb]
  obtain ⟨a, b, c⟩ := sBs_all h2 (2 ^ zn S2 - 1)
  have hp : 0 < 2 ^ zn S := Nat.pow_pos (by decide)
  have hle := sBs_le S2 (2 ^ zn S2 - 1)
  rw [atL_zn h] at a b c hle
  have eb : sBst S2 = (sBs S2 (2 ^ zn S - 1)).1 := by unfold sBst; rw [atL_zn h]
  rw [eb]
  generalize hF : (sBs S2 (2 ^ zn S - 1)).1 = F at *
  have hQ : Qk S L (zn S) (sUse S2 F 0) F := ⟨by omega, (atL_fit h h16 F).mp b.1, by rw [atL_use h h16 F (by omega)]; exact Int.le_refl _⟩
  rcases sLe_spec hS (zn S) L (sUse S2 F 0) 0 h16 hL with ⟨T, q1, q2, q3⟩ | ⟨q1, -⟩
  · rw [q3, Nat.zero_or]
    have t1 : T ≤ F := by
      by_cases l : F < T
      · exact absurd hQ (q2 F l)
      · omega
    by_cases e : T = F
    · rw [e]
    · have := c T (by omega) ((atL_fit h h16 T).mpr q1.2.1)
      have u := q1.2.2
      rw [← atL_use h h16 T (by omega)] at u
      rw [b.2] at u
      omega
  · exact absurd hQ (q1 F)
