/-! ===== a State's cells behind each change ===== -/
theorem fC_cong {S T : Nat → Int} (h : ∀ j, 1 ≤ j → j ≤ 64 → S j = T j) {what : Nat} (hw : what ≤ 3) : fC S what = fC T what := by
  funext i
  unfold fC
  by_cases hi : i < 16
  · rw [if_pos hi, if_pos hi]
    unfold sC
    rw [h _ (by omega) (by omega)]
  · rw [if_neg hi, if_neg hi]
theorem fLm_cong {S T : Nat → Int} (h : ∀ d, d < 3 → S (65 + d) = T (65 + d)) : fLm S = fLm T := by
  funext d
  unfold fLm
  by_cases hd : d < 3
  · rw [if_pos hd, if_pos hd, h d hd]
  · rw [if_neg hd, if_neg hd]
theorem fMu_cong {M N : Nat → Int} (h : ∀ d, d < 3 → M d = N d) : fMu M = fMu N := by
  funext d
  unfold fMu
  by_cases hd : d < 3
  · rw [if_pos hd, if_pos hd, h d hd]
  · rw [if_neg hd, if_neg hd]
theorem fSt_cong {S T : Nat → Int} (h : ∀ k, k < 8 → S (78 + k) = T (78 + k)) : fSt S = fSt T := by
  funext k
  unfold fSt
  by_cases hk : k < 8
  · rw [if_pos hk, if_pos hk, h k hk]
  · rw [if_neg hk, if_neg hk]
theorem c3 {P : Nat → Prop} (h0 : P 0) (h1 : P 1) (h2 : P 2) : ∀ d, d < 3 → P d := fun d hd => by
  match d, hd with
  | 0, _ => exact h0
  | 1, _ => exact h1
  | 2, _ => exact h2
theorem sPr_M {S M N : Nat → Int} (h : ∀ d, d < 3 → M d = N d) (i : Nat) : sPr S M i = sPr S N i := by
  unfold sPr
  rw [h 0 (by omega), h 1 (by omega), h 2 (by omega)]
theorem sBd_M {S M N : Nat → Int} (h : ∀ d, d < 3 → M d = N d) : sBd S M = sBd S N := by
  unfold sBd
  rw [h 0 (by omega), h 1 (by omega), h 2 (by omega), sSum_congr _ (fun i _ => by rw [sPr_M h])]
theorem sRel_M {S M N : Nat → Int} (h : ∀ d, d < 3 → M d = N d) : sRel S M = sRel S N := by
  have : ∀ n, sRelN S M n = sRelN S N n := by
    intro n
    induction n with
    | zero => rfl
    | succ k ih => unfold sRelN; rw [ih, sPr_M h]
  exact this _
theorem wSt_mk {D : zD} {ho hm hg hbu hs hp hw hz h0 h1 h2 hl : Nat} {S : Nat → Int} {G : Nat → Int32} {i0 ru sp so sw si al bb k77 : Int} {fm a0 a1 a2 a3 lm st : Nat → Int32}
    (e71 : ru = S 71) (e72 : sp = S 72) (eso : so = fSol S) (esw : sw = fSw S) (e73 : si = S 73) (e74 : al = S 74) (e75 : bb = S 75) (em : fm = fMu (mu S)) (e77 : k77 = S 77) (est : st = fSt S) (e0 : i0 = S 0) (ea0 : a0 = fC S 0) (ea1 : a1 = fC S 1) (ea2 : a2 = fC S 2) (ea3 : a3 = fC S 3) (elm : lm = fLm S) :
    ([(ho, .inr (5, [.ref hp, .ref hbu, .ref hm, .ref hg, .int (zI ru), .int (zI sp), .int (zI so), .int (zI sw), .int (zI si), .int (zI al), .long (zL bb)])), (hm, .inl (D.2 0, 3, .inl fm)), (hg, .inl (D.2 0, 3, .inl G)), (hbu, .inr (0, [.ref hs, .int (zI k77)])), (hs, .inl (D.2 0, 8, .inl st)), (hp, .inr (2, [.ref hw, .ref hz, .ref hl, .int (zI i0)])), (hw, .inl (D.2 0, 16, .inl a0)), (hz, .inl (D.2 5, 3, .inr (.inr (.inr (.inr (f3 h0 h1 h2)))))), (h0, .inl (D.2 0, 16, .inl a1)), (h1, .inl (D.2 0, 16, .inl a2)), (h2, .inl (D.2 0, 16, .inl a3)), (hl, .inl (D.2 0, 3, .inl lm))] : va_W) = wSt D ho hm hg hbu hs hp hw hz h0 h1 h2 hl S G := by
  subst e71; subst e72; subst eso; subst esw; subst e73; subst e74; subst e75; subst em; subst e77; subst est; subst e0; subst ea0; subst ea1; subst ea2; subst ea3; subst elm
  rfl
theorem fSol_none {S : Nat → Int} (h : S 76 = -6) : (0 : Int) = fSol S := (if_pos h).symm
theorem fSw_none {S : Nat → Int} (h : S 76 = -6) : (-6 : Int) = fSw S := (if_pos h).symm
theorem fSol_cong {S T : Nat → Int} (h : S 76 = T 76) : fSol S = fSol T := by unfold fSol; rw [h]
theorem fSw_cong {S T : Nat → Int} (h : S 76 = T 76) (ha : Ag S T) (hn : zn T ≤ 16) : fSw S = fSw T := by
  unfold fSw
  rw [h, Ag_sUse ha hn _ (by omega)]
theorem fSw_b {B : Int} {S : Nat → Int} (h : OkS B S) : -6 ≤ fSw S ∧ fSw S ≤ 15984 ∧ (fSw S = -6 ∨ 0 ≤ fSw S) ∧ (fSw S = -6 ↔ S 76 = -6) := by
  have u := sUse_b h.1 (S 76).toNat (what := 0) (by omega)
  unfold fSw
  by_cases e : S 76 = -6
  · rw [if_pos e]; omega
  · rw [if_neg e]; omega
theorem fSol_b {B : Int} {S : Nat → Int} (h : OkS B S) : 0 ≤ fSol S ∧ fSol S ≤ 65535 := by
  have := h.2.2.2.2
  unfold fSol
  split <;> omega
theorem sHu_b {B : Int} {S : Nat → Int} (h : OkS B S) : 0 ≤ sHu (fSw S) ∧ sHu (fSw S) ≤ 1598400 := by
  have := fSw_b h
  unfold sHu
  split <;> omega
theorem zu_Ag {S : Nat → Int} {k : Nat} {v : Int} (hk : 68 ≤ k) : Ag (zu S k v) S := fun j hj => zu_n _ _ (by omega)
theorem Ag_tr {S T U : Nat → Int} (h1 : Ag S T) (h2 : Ag T U) : Ag S U := fun j hj => (h1 j hj).trans (h2 j hj)
theorem sFg_Ag (S : Nat → Int) : Ag (sFg S) S := fun j hj => by unfold sFg; rw [zu_n _ _ (by omega), zu_n _ _ (by omega), zu_n _ _ (by omega)]
theorem sLs_Ag (S : Nat → Int) : Ag (sLs S) S := fun j hj => by unfold sLs; rw [zu_n _ _ (by omega)]
theorem sFg_o {S : Nat → Int} {j : Nat} (h3 : j ≠ 73) (h5 : j ≠ 75) (h6 : j ≠ 76) : sFg S j = S j := by unfold sFg; rw [zu_n _ _ h5, zu_n _ _ h6, zu_n _ _ h3]
theorem sLs_o {S : Nat → Int} {j : Nat} (h5 : j ≠ 75) : sLs S j = S j := by unfold sLs; rw [zu_n _ _ h5]
/-! the answers and the changes, errors first -/
def aRule (S : Nat → Int) (r t : Int) : Int × (Nat → Int) := if (0 ≤ r ∧ r ≤ 2) ∧ 1 ≤ t ∧ t ≤ 9999 then (S 71, oRule S r t) else (-2, S)
def aLimit (S : Nat → Int) (d v : Int) : Int × (Nat → Int) := if 0 ≤ d ∧ d ≤ 2 then (if 0 ≤ v ∧ v ≤ 999 then (S (65 + d.toNat), oLimit S d.toNat v) else (-2, S)) else (-1, S)
def aMult (S : Nat → Int) (d v : Int) : Int × (Nat → Int) := if 0 ≤ d ∧ d ≤ 2 then (if 0 ≤ v ∧ v ≤ 999999 then (S (68 + d.toNat), oMult S d.toNat v) else (-2, S)) else (-1, S)
def aItem (S : Nat → Int) (w a b c : Int) : Int × (Nat → Int) := if ((0 ≤ w ∧ w ≤ 999) ∧ (0 ≤ a ∧ a ≤ 99)) ∧ (0 ≤ b ∧ b ≤ 99) ∧ 0 ≤ c ∧ c ≤ 99 then (if 16 ≤ S 0 then (-4, S) else (S 0, oItem S w a b c)) else (-2, S)
def aDrop (S : Nat → Int) (k : Int) : Int × (Nat → Int) := if 0 ≤ k ∧ k ≤ S 0 - 1 then (S 0 - 1, oDrop S k.toNat) else (-1, S)
def aStep (S : Nat → Int) (n : Int) : Int × (Nat → Int) := if 1 ≤ n ∧ n ≤ 99 then (sBet S n.toNat, sStN S n.toNat) else (-2, S)
def aRep (S : Nat → Int) : Int × (Nat → Int) := (sUse S (sRp S) 0, oRep S)
theorem fLm_zu {S : Nat → Int} {d : Nat} (hd : d < 3) {v : Int} {i : Nat} (hi : i < 3) : upd (fLm S) d (zI v) i = fLm (zu S (65 + d) v) i := by
  have e1 : fLm (zu S (65 + d) v) i = zI (zu S (65 + d) v (65 + i)) := if_pos hi
  have e2 : fLm S i = zI (S (65 + i)) := if_pos hi
  rw [e1]
  by_cases h : i = d
  · subst h; rw [upd_s, zu_s]
  · rw [upd_n _ _ h, zu_n _ _ (by omega), e2]
theorem fMu_zu {S : Nat → Int} {d : Nat} (hd : d < 3) {v : Int} {i : Nat} (hi : i < 3) : upd (fMu (mu S)) d (zI v) i = fMu (mu (zu S (68 + d) v)) i := by
  have e1 : fMu (mu (zu S (68 + d) v)) i = zI (zu S (68 + d) v (68 + i)) := if_pos hi
  have e2 : fMu (mu S) i = zI (S (68 + i)) := if_pos hi
  rw [e1]
  by_cases h : i = d
  · subst h; rw [upd_s, zu_s]
  · rw [upd_n _ _ h, zu_n _ _ (by omega), e2]
theorem fC_far {S : Nat → Int} {k : Nat} {v : Int} (hk : 65 ≤ k) {what : Nat} (hw : what ≤ 3) : fC (zu S k v) what = fC S what := fC_cong (fun j _ _ => zu_n _ _ (by omega)) hw
theorem OkP_lim {S : Nat → Int} (h : OkP S) {d : Nat} (hd : d < 3) {v : Int} (hv : 0 ≤ v ∧ v ≤ 999) : OkP (zu S (65 + d) v) := by
  have e : ∀ what i, i < 16 → what ≤ 3 → sC (zu S (65 + d) v) what i = sC S what i := fun what i hi hw => zu_n _ _ (by omega)
  have hl := h.2.2
  refine ⟨by rw [zu_n _ _ (by omega)]; exact h.1, fun i hi => ?_, ?_⟩
  · rw [e 0 i hi (by omega), e 1 i hi (by omega), e 2 i hi (by omega), e 3 i hi (by omega)]
    exact h.2.1 i hi
  · match d, hd with
    | 0, _ => exact ⟨hv, hl.2⟩
    | 1, _ => exact ⟨hl.1, hv, hl.2.2⟩
    | 2, _ => exact ⟨hl.1, hl.2.1, hv⟩
theorem OkM_mul {S : Nat → Int} (h : OkM (mu S)) {d : Nat} (hd : d < 3) {v : Int} (hv : 0 ≤ v ∧ v ≤ 999999) : OkM (mu (zu S (68 + d) v)) := by
  match d, hd with
  | 0, _ => exact ⟨hv, h.2⟩
  | 1, _ => exact ⟨h.1, hv, h.2.2⟩
  | 2, _ => exact ⟨h.1, h.2.1, hv⟩
theorem OkP_ap {S : Nat → Int} (h : OkP S) (hlt : zn S < 16) {w a b c : Int} (hr : ((0 ≤ w ∧ w ≤ 999) ∧ (0 ≤ a ∧ a ≤ 99)) ∧ (0 ≤ b ∧ b ≤ 99) ∧ 0 ≤ c ∧ c ≤ 99) : OkP (sAp S w a b c) := by
  have hn := zn_eq h
  have hl := h.2.2
  have e0 : sAp S w a b c 0 = S 0 + 1 := zu_s _ _ _
  refine ⟨by rw [e0]; omega, fun i hi => ?_, ?_⟩
  · rw [sC_ap (by omega), sC_ap (by omega), sC_ap (by omega), sC_ap (by omega)]
    by_cases e : i = zn S
    · simp only [if_pos e]
      simp
      omega
    · simp only [if_neg e]
      exact h.2.1 i hi
  · rw [sAp_far hlt (by omega), sAp_far hlt (by omega), sAp_far hlt (by omega)]
    exact hl
theorem OkP_rm {S : Nat → Int} (h : OkP S) {k : Nat} (hk : k < zn S) : OkP (sRm S k) := by
  have hn := zn_eq h
  have h16 := zn_le h
  have hl := h.2.2
  have e0 : sRm S k 0 = S 0 - 1 := if_pos rfl
  refine ⟨by rw [e0]; have := h.1; omega, fun i hi => ?_, ?_⟩
  · rw [sC_rm (by omega), sC_rm (by omega), sC_rm (by omega), sC_rm (by omega)]
    by_cases e : k ≤ i ∧ i + 1 < zn S
    · simp only [if_pos e]
      exact h.2.1 (i + 1) (by omega)
    · simp only [if_neg e]
      exact h.2.1 i hi
  · rw [sRm_far h16 (by omega), sRm_far h16 (by omega), sRm_far h16 (by omega)]
    exact hl
section ZKW
variable {D : zD} {ho hm hg hbu hs hp hw hz h0 h1 h2 hl : Nat} {S : Nat → Int} {G : Nat → Int32}
theorem wSt_rule (h16 : zn S ≤ 16) {r t : Int} : ([(ho, .inr (5, [.ref hp, .ref hbu, .ref hm, .ref hg, .int (zI r), .int (zI t), .int (zI (fSol S)), .int (zI (fSw S)), .int (zI (S 73)), .int (zI (S 74)), .long (zL (S 75))])), (hm, .inl (D.2 0, 3, .inl (fMu (mu S)))), (hg, .inl (D.2 0, 3, .inl G)), (hbu, .inr (0, [.ref hs, .int (zI (S 77))])), (hs, .inl (D.2 0, 8, .inl (fSt S))), (hp, .inr (2, [.ref hw, .ref hz, .ref hl, .int (zI (S 0))])), (hw, .inl (D.2 0, 16, .inl (fC S 0))), (hz, .inl (D.2 5, 3, .inr (.inr (.inr (.inr (f3 h0 h1 h2)))))), (h0, .inl (D.2 0, 16, .inl (fC S 1))), (h1, .inl (D.2 0, 16, .inl (fC S 2))), (h2, .inl (D.2 0, 16, .inl (fC S 3))), (hl, .inl (D.2 0, 3, .inl (fLm S)))] : va_W) = wSt D ho hm hg hbu hs hp hw hz h0 h1 h2 hl (oRule S r t) G := by
  have ha : Ag (oRule S r t) S := Ag_tr (zu_Ag (by omega)) (zu_Ag (by omega))
  exact wSt_mk rfl rfl (fSol_cong (T := oRule S r t) rfl) (fSw_cong (S := oRule S r t) (T := S) rfl ha h16).symm rfl rfl rfl (fMu_cong (c3 rfl rfl rfl)) rfl (fSt_cong (fun k _ => (by unfold oRule; rw [zu_n _ _ (by omega), zu_n _ _ (by omega)]))) rfl (Ag_fC ha (by omega)).symm (Ag_fC ha (by omega)).symm (Ag_fC ha (by omega)).symm (Ag_fC ha (by omega)).symm (Ag_fLm ha).symm
theorem wSt_lim {d : Nat} (hd : d < 3) (h16 : zn S ≤ 16) {v : Int} : ([(ho, .inr (5, [.ref hp, .ref hbu, .ref hm, .ref hg, .int (zI (S 71)), .int (zI (S 72)), .int (zI 0), .int (zI (-6)), .int (zI 0), .int (zI (S 74)), .long (zL (sBd (zu S (65 + d) v) (mu S)))])), (hm, .inl (D.2 0, 3, .inl (fMu (mu S)))), (hg, .inl (D.2 0, 3, .inl G)), (hbu, .inr (0, [.ref hs, .int (zI (S 77))])), (hs, .inl (D.2 0, 8, .inl (fSt S))), (hp, .inr (2, [.ref hw, .ref hz, .ref hl, .int (zI (zu S (65 + d) v 0))])), (hw, .inl (D.2 0, 16, .inl (fC (zu S (65 + d) v) 0))), (hz, .inl (D.2 5, 3, .inr (.inr (.inr (.inr (f3 h0 h1 h2)))))), (h0, .inl (D.2 0, 16, .inl (fC (zu S (65 + d) v) 1))), (h1, .inl (D.2 0, 16, .inl (fC (zu S (65 + d) v) 2))), (h2, .inl (D.2 0, 16, .inl (fC (zu S (65 + d) v) 3))), (hl, .inl (D.2 0, 3, .inl (fLm (zu S (65 + d) v))))] : va_W) = wSt D ho hm hg hbu hs hp hw hz h0 h1 h2 hl (oLimit S d v) G := by
  have ha : Ag (oLimit S d v) (zu S (65 + d) v) := sFg_Ag _
  have o : ∀ j, 68 ≤ j → j ≠ 73 → j ≠ 75 → j ≠ 76 → S j = oLimit S d v j := fun j h1 h2 h3 h4 => by
    unfold oLimit
    rw [sFg_o h2 h3 h4, zu_n _ _ (by omega)]
  exact wSt_mk (o 71 (by omega) (by omega) (by omega) (by omega)) (o 72 (by omega) (by omega) (by omega) (by omega)) (fSol_none rfl) (fSw_none rfl) rfl (o 74 (by omega) (by omega) (by omega) (by omega)) (show sBd (zu S (65 + d) v) (mu S) = sBd (zu S (65 + d) v) (mu (zu S (65 + d) v)) from sBd_M (fun k hk => (zu_n S v (by omega)).symm)) (fMu_cong (fun k hk => o (68 + k) (by omega) (by omega) (by omega) (by omega))) (o 77 (by omega) (by omega) (by omega) (by omega)) (fSt_cong (fun k hk => o (78 + k) (by omega) (by omega) (by omega) (by omega))) (ha 0 (by omega)).symm (Ag_fC ha (by omega)).symm (Ag_fC ha (by omega)).symm (Ag_fC ha (by omega)).symm (Ag_fC ha (by omega)).symm (Ag_fLm ha).symm
theorem wSt_mul {d : Nat} (hd : d < 3) (h16 : zn S ≤ 16) {v : Int} : ([(ho, .inr (5, [.ref hp, .ref hbu, .ref hm, .ref hg, .int (zI (S 71)), .int (zI (S 72)), .int (zI (fSol S)), .int (zI (fSw S)), .int (zI (S 73)), .int (zI (S 74)), .long (zL (if sBd S (mu (zu S (68 + d) v)) < S 75 then sBd S (mu (zu S (68 + d) v)) else S 75))])), (hm, .inl (D.2 0, 3, .inl (fMu (mu (zu S (68 + d) v))))), (hg, .inl (D.2 0, 3, .inl G)), (hbu, .inr (0, [.ref hs, .int (zI (S 77))])), (hs, .inl (D.2 0, 8, .inl (fSt S))), (hp, .inr (2, [.ref hw, .ref hz, .ref hl, .int (zI (S 0))])), (hw, .inl (D.2 0, 16, .inl (fC S 0))), (hz, .inl (D.2 5, 3, .inr (.inr (.inr (.inr (f3 h0 h1 h2)))))), (h0, .inl (D.2 0, 16, .inl (fC S 1))), (h1, .inl (D.2 0, 16, .inl (fC S 2))), (h2, .inl (D.2 0, 16, .inl (fC S 3))), (hl, .inl (D.2 0, 3, .inl (fLm S)))] : va_W) = wSt D ho hm hg hbu hs hp hw hz h0 h1 h2 hl (oMult S d v) G := by
  have ha0 : Ag (zu S (68 + d) v) S := zu_Ag (by omega)
  have ha : Ag (oMult S d v) S := Ag_tr (sLs_Ag _) ha0
  have o : ∀ j, 71 ≤ j → j ≠ 75 → S j = oMult S d v j := fun j h1 h2 => by
    unfold oMult
    rw [sLs_o h2, zu_n _ _ (by omega)]
  have e75 : (if sBd S (mu (zu S (68 + d) v)) < S 75 then sBd S (mu (zu S (68 + d) v)) else S 75) = oMult S d v 75 := by
    show _ = (if sBd (zu S (68 + d) v) (mu (zu S (68 + d) v)) < zu S (68 + d) v 75 then sBd (zu S (68 + d) v) (mu (zu S (68 + d) v)) else zu S (68 + d) v 75)
    rw [zu_n S v (show 75 ≠ 68 + d by omega), Ag_sBd ha0 h16]
  exact wSt_mk (o 71 (by omega) (by omega)) (o 72 (by omega) (by omega)) (fSol_cong (o 76 (by omega) (by omega))) (fSw_cong (S := oMult S d v) (T := S) (o 76 (by omega) (by omega)).symm ha h16).symm (o 73 (by omega) (by omega)) (o 74 (by omega) (by omega)) e75 (fMu_cong (fun k hk => (sLs_o (S := zu S (68 + d) v) (show 68 + k ≠ 75 by omega)).symm)) (o 77 (by omega) (by omega)) (fSt_cong (fun k hk => o (78 + k) (by omega) (by omega))) (ha 0 (by omega)).symm (Ag_fC ha (by omega)).symm (Ag_fC ha (by omega)).symm (Ag_fC ha (by omega)).symm (Ag_fC ha (by omega)).symm (Ag_fLm ha).symm
theorem wSt_item {w a b c : Int} (hlt : zn S < 16) : ([(ho, .inr (5, [.ref hp, .ref hbu, .ref hm, .ref hg, .int (zI (S 71)), .int (zI (S 72)), .int (zI 0), .int (zI (-6)), .int (zI 0), .int (zI (S 74)), .long (zL (sBd (sAp S w a b c) (mu S)))])), (hm, .inl (D.2 0, 3, .inl (fMu (mu S)))), (hg, .inl (D.2 0, 3, .inl G)), (hbu, .inr (0, [.ref hs, .int (zI 0)])), (hs, .inl (D.2 0, 8, .inl (fSt S))), (hp, .inr (2, [.ref hw, .ref hz, .ref hl, .int (zI (sAp S w a b c 0))])), (hw, .inl (D.2 0, 16, .inl (fC (sAp S w a b c) 0))), (hz, .inl (D.2 5, 3, .inr (.inr (.inr (.inr (f3 h0 h1 h2)))))), (h0, .inl (D.2 0, 16, .inl (fC (sAp S w a b c) 1))), (h1, .inl (D.2 0, 16, .inl (fC (sAp S w a b c) 2))), (h2, .inl (D.2 0, 16, .inl (fC (sAp S w a b c) 3))), (hl, .inl (D.2 0, 3, .inl (fLm (sAp S w a b c))))] : va_W) = wSt D ho hm hg hbu hs hp hw hz h0 h1 h2 hl (oItem S w a b c) G := by
  have ha0 : Ag (zu (sAp S w a b c) 77 0) (sAp S w a b c) := zu_Ag (by omega)
  have ha : Ag (oItem S w a b c) (sAp S w a b c) := Ag_tr (sFg_Ag _) ha0
  have hn : zn (sAp S w a b c) ≤ 16 := by
    show (sAp S w a b c 0).toNat ≤ 16
    rw [show sAp S w a b c 0 = S 0 + 1 from zu_s _ _ _]
    unfold zn at hlt
    omega
  have o : ∀ j, 68 ≤ j → j ≠ 73 → j ≠ 75 → j ≠ 76 → j ≠ 77 → S j = oItem S w a b c j := fun j h1 h2 h3 h4 h5 => by
    unfold oItem
    rw [sFg_o h2 h3 h4, zu_n _ _ h5, sAp_far hlt (by omega)]
  have e75 : sBd (sAp S w a b c) (mu S) = sBd (zu (sAp S w a b c) 77 0) (mu (zu (sAp S w a b c) 77 0)) := by
    rw [Ag_sBd ha0 hn]
    exact sBd_M (fun k hk => by show S (68 + k) = zu (sAp S w a b c) 77 0 (68 + k); rw [zu_n _ _ (by omega), sAp_far hlt (by omega)])
  exact wSt_mk (o 71 (by omega) (by omega) (by omega) (by omega) (by omega)) (o 72 (by omega) (by omega) (by omega) (by omega) (by omega)) (fSol_none rfl) (fSw_none rfl) rfl (o 74 (by omega) (by omega) (by omega) (by omega) (by omega)) e75 (fMu_cong (fun k hk => o (68 + k) (by omega) (by omega) (by omega) (by omega) (by omega))) rfl (fSt_cong (fun k hk => o (78 + k) (by omega) (by omega) (by omega) (by omega) (by omega))) (ha 0 (by omega)).symm (Ag_fC ha (by omega)).symm (Ag_fC ha (by omega)).symm (Ag_fC ha (by omega)).symm (Ag_fC ha (by omega)).symm (Ag_fLm ha).symm
theorem wSt_drop {k : Nat} (h16 : zn S ≤ 16) : ([(ho, .inr (5, [.ref hp, .ref hbu, .ref hm, .ref hg, .int (zI (S 71)), .int (zI (S 72)), .int (zI 0), .int (zI (-6)), .int (zI 0), .int (zI (S 74)), .long (zL (sBd (sRm S k) (mu S)))])), (hm, .inl (D.2 0, 3, .inl (fMu (mu S)))), (hg, .inl (D.2 0, 3, .inl G)), (hbu, .inr (0, [.ref hs, .int (zI 0)])), (hs, .inl (D.2 0, 8, .inl (fSt S))), (hp, .inr (2, [.ref hw, .ref hz, .ref hl, .int (zI (sRm S k 0))])), (hw, .inl (D.2 0, 16, .inl (fC (sRm S k) 0))), (hz, .inl (D.2 5, 3, .inr (.inr (.inr (.inr (f3 h0 h1 h2)))))), (h0, .inl (D.2 0, 16, .inl (fC (sRm S k) 1))), (h1, .inl (D.2 0, 16, .inl (fC (sRm S k) 2))), (h2, .inl (D.2 0, 16, .inl (fC (sRm S k) 3))), (hl, .inl (D.2 0, 3, .inl (fLm (sRm S k))))] : va_W) = wSt D ho hm hg hbu hs hp hw hz h0 h1 h2 hl (oDrop S k) G := by
  have ha0 : Ag (zu (sRm S k) 77 0) (sRm S k) := zu_Ag (by omega)
  have ha : Ag (oDrop S k) (sRm S k) := Ag_tr (sFg_Ag _) ha0
  have hn : zn (sRm S k) ≤ 16 := by
    show (sRm S k 0).toNat ≤ 16
    rw [show sRm S k 0 = S 0 - 1 from if_pos rfl]
    unfold zn at h16
    omega
  have o : ∀ j, 68 ≤ j → j ≠ 73 → j ≠ 75 → j ≠ 76 → j ≠ 77 → S j = oDrop S k j := fun j h1 h2 h3 h4 h5 => by
    unfold oDrop
    rw [sFg_o h2 h3 h4, zu_n _ _ h5, sRm_far h16 (by omega)]
  have e75 : sBd (sRm S k) (mu S) = sBd (zu (sRm S k) 77 0) (mu (zu (sRm S k) 77 0)) := by
    rw [Ag_sBd ha0 hn]
    exact sBd_M (fun d hd => by show S (68 + d) = zu (sRm S k) 77 0 (68 + d); rw [zu_n _ _ (by omega), sRm_far h16 (by omega)])
  exact wSt_mk (o 71 (by omega) (by omega) (by omega) (by omega) (by omega)) (o 72 (by omega) (by omega) (by omega) (by omega) (by omega)) (fSol_none rfl) (fSw_none rfl) rfl (o 74 (by omega) (by omega) (by omega) (by omega) (by omega)) e75 (fMu_cong (fun d hd => o (68 + d) (by omega) (by omega) (by omega) (by omega) (by omega))) rfl (fSt_cong (fun d hd => o (78 + d) (by omega) (by omega) (by omega) (by omega) (by omega))) (ha 0 (by omega)).symm (Ag_fC ha (by omega)).symm (Ag_fC ha (by omega)).symm (Ag_fC ha (by omega)).symm (Ag_fC ha (by omega)).symm (Ag_fLm ha).symm
end ZKW
/-! ===== steps and repairs of the whole state ===== -/
theorem sBuM_far (S : Nat → Int) (x : Int) {j : Nat} (hj : j < 77) : sBuM S x j = S j := by
  have hl := sTo_le S x (zk S)
  have hf : (sTo S x (zk S)).2 j = S j := sTo_far S x _ _ (Or.inl (by omega))
  unfold sBuM
  split
  · rw [zu_n _ _ (by omega), zu_n _ _ (by omega)]
    unfold sSh
    rw [if_neg (by omega)]
    exact hf
  · rw [zu_n _ _ (by omega), zu_n _ _ (by omega)]
    exact hf
theorem sSt0_o (S : Nat → Int) {j : Nat} (h0 : j ≠ 68) (h1 : j ≠ 69) (h2 : j ≠ 70) (h3 : j ≠ 73) (h4 : j ≠ 74) : sSt0 S j = sBuM S ((sRel S (mu S) : Nat) : Int) j := by
  unfold sSt0
  rw [if_neg h0, if_neg h1, if_neg h2, if_neg h3, if_neg h4]
theorem sSt0_s (S : Nat → Int) {j : Nat} (h0 : j ≠ 68) (h1 : j ≠ 69) (h2 : j ≠ 70) (h3 : j ≠ 73) (h4 : j ≠ 74) (hj : j < 77) : sSt0 S j = S j := by
  rw [sSt0_o S h0 h1 h2 h3 h4, sBuM_far _ _ hj]
theorem sSt0_Ag (S : Nat → Int) : Ag (sSt0 S) S := fun j hj => sSt0_s S (by omega) (by omega) (by omega) (by omega) (by omega) (by omega)
theorem sSt_Ag (S : Nat → Int) : Ag (sSt S) S := Ag_tr (sLs_Ag _) (sSt0_Ag S)
theorem mu_st0 (S : Nat → Int) : ∀ d, d < 3 → mu (sSt0 S) d = sMv S d := c3 rfl rfl rfl
theorem sBd_st0 {S : Nat → Int} (h16 : zn S ≤ 16) : sBd (sSt0 S) (mu (sSt0 S)) = sBd S (sMv S) := by
  rw [Ag_sBd (sSt0_Ag S) h16, sBd_M (mu_st0 S)]
theorem OkM_mo (M : Nat → Int) (len : Int) (sl : Nat → Int) : OkM (sMo M len sl) := by
  refine ⟨?_, ?_, ?_⟩ <;> (unfold sMo; omega)
theorem OkB_cong {S T : Nat → Int} (h : ∀ j, 77 ≤ j → S j = T j) (hb : OkB T) : OkB S := by
  have ek : zk S = zk T := by unfold zk; rw [h 77 (by omega)]
  refine ⟨by rw [h 77 (by omega)]; exact hb.1, fun k hk => by rw [h _ (by omega)]; exact hb.2.1 k hk, fun a b hab hbk => ?_⟩
  rw [h _ (by omega), h _ (by omega)]
  exact hb.2.2 a b hab (by rw [← ek]; exact hbk)
theorem OkS_ls {B : Int} {S : Nat → Int} (h : OkS B S) : OkS B (sLs S) := by
  obtain ⟨h1, h2, h3, h4, h5⟩ := h
  have hb := sBd_b h1 h2
  refine ⟨Ag_OkP (sLs_Ag S) h1, ?_, OkB_cong (fun j hj => sLs_o (by omega)) h3, ?_, ?_⟩
  · exact h2
  · have e75 : sLs S 75 = if sBd S (mu S) < S 75 then sBd S (mu S) else S 75 := zu_s _ _ _
    rw [sLs_o (by omega), sLs_o (by omega), sLs_o (by omega), sLs_o (by omega), e75]
    refine ⟨h4.1, h4.2.1, h4.2.2.1, h4.2.2.2.1, ?_⟩
    have := h4.2.2.2.2
    split <;> omega
  · rw [sLs_o (by omega)]
    exact h5
theorem OkS_st0 {B : Int} {S : Nat → Int} (h : OkS B S) : OkS (B + 1) (sSt0 S) := by
  obtain ⟨h1, h2, h3, h4, h5⟩ := h
  have hr := sRel_16 (M := mu S) h1
  refine ⟨Ag_OkP (sSt0_Ag S) h1, ?_, ?_, ?_, ?_⟩
  · exact OkM_mo (mu S) (sLn S) (sSlo S (mu S))
  · refine OkB_cong (T := sBuM S ((sRel S (mu S) : Nat) : Int)) (fun j hj => sSt0_o S (by omega) (by omega) (by omega) (by omega) (by omega)) ?_
    rw [← sBu_eq h3]
    exact OkB_bu h3 (by omega)
  · rw [sSt0_s S (j := 71) (by omega) (by omega) (by omega) (by omega) (by omega) (by omega), sSt0_s S (j := 72) (by omega) (by omega) (by omega) (by omega) (by omega) (by omega), sSt0_s S (j := 75) (by omega) (by omega) (by omega) (by omega) (by omega) (by omega)]
    have e73 : sSt0 S 73 = S 73 + 1 := rfl
    have e74 : sSt0 S 74 = S 74 + 1 := rfl
    rw [e73, e74]
    omega
  · rw [sSt0_s S (j := 76) (by omega) (by omega) (by omega) (by omega) (by omega) (by omega)]
    exact h5
theorem OkS_st {B : Int} {S : Nat → Int} (h : OkS B S) : OkS (B + 1) (sSt S) := OkS_ls (OkS_st0 h)
theorem OkS_stN {B : Int} {S : Nat → Int} (h : OkS B S) : ∀ k : Nat, OkS (B + k) (sStN S k)
  | 0 => by
    have e : B + ((0 : Nat) : Int) = B := by omega
    rw [e]; exact h
  | k + 1 => by
    have h1 := OkS_st (OkS_stN h k)
    have e : B + (k : Int) + 1 = B + ((k + 1 : Nat) : Int) := by omega
    rw [e] at h1
    exact h1
theorem sTake_lt {S : Nat → Int} : ∀ (n set : Nat), set < 65536 → sTake S n set < 65536
  | 0, _, h => h
  | n + 1, set, h => by
    unfold sTake
    split
    · exact h
    · exact sTake_lt n _ (zclr_16 h)
theorem sMend_lt {S : Nat → Int} (h16 : zn S ≤ 16) {set : Nat} (h : set < 65536) : sMend S set < 65536 := sAdd_lt (sTake_lt 16 set h) _ h16
theorem sRp_lt {S : Nat → Int} (h : OkP S) : sRp S < 65536 := sMend_lt (zn_le h) (sRel_16 h)
theorem sRel_mask (S M : Nat → Int) : sRel S M &&& (2 ^ zn S - 1) = sRel S M := Nat.and_two_pow_sub_one_of_lt_two_pow (sRelN_lt S M _)
theorem oRep_no {S : Nat → Int} (h1 : ¬ fSw S = -6) (h2 : sUse S (sRp S) 0 ≤ fSw S) : oRep S = S := by
  unfold oRep
  rw [if_neg (by omega)]
  exact zu_same rfl
theorem oRep_Ag (S : Nat → Int) : Ag (oRep S) S := zu_Ag (by omega)
section ZKW2
variable {D : zD} {ho hm hg hbu hs hp hw hz h0 h1 h2 hl : Nat} {S : Nat → Int} {G : Nat → Int32}
theorem wSt_rep (hok : OkP S) (hc : fSw S = -6 ∨ fSw S < sUse S (sRp S) 0) : ([(ho, .inr (5, [.ref hp, .ref hbu, .ref hm, .ref hg, .int (zI (S 71)), .int (zI (S 72)), .int (zI ((sRp S : Nat) : Int)), .int (zI (sUse S (sRp S) 0)), .int (zI (S 73)), .int (zI (S 74)), .long (zL (S 75))])), (hm, .inl (D.2 0, 3, .inl (fMu (mu S)))), (hg, .inl (D.2 0, 3, .inl G)), (hbu, .inr (0, [.ref hs, .int (zI (S 77))])), (hs, .inl (D.2 0, 8, .inl (fSt S))), (hp, .inr (2, [.ref hw, .ref hz, .ref hl, .int (zI (S 0))])), (hw, .inl (D.2 0, 16, .inl (fC S 0))), (hz, .inl (D.2 5, 3, .inr (.inr (.inr (.inr (f3 h0 h1 h2)))))), (h0, .inl (D.2 0, 16, .inl (fC S 1))), (h1, .inl (D.2 0, 16, .inl (fC S 2))), (h2, .inl (D.2 0, 16, .inl (fC S 3))), (hl, .inl (D.2 0, 3, .inl (fLm S)))] : va_W) = wSt D ho hm hg hbu hs hp hw hz h0 h1 h2 hl (oRep S) G := by
  have ha := oRep_Ag S
  have h16 := zn_le hok
  have e76 : oRep S 76 = ((sRp S : Nat) : Int) := by
    show zu S 76 _ 76 = _
    rw [zu_s, if_pos hc]
  have o : ∀ j, j ≠ 76 → S j = oRep S j := fun j h => (zu_n _ _ h).symm
  have eso : ((sRp S : Nat) : Int) = fSol (oRep S) := by
    unfold fSol
    rw [e76, if_neg (by omega)]
  have esw : sUse S (sRp S) 0 = fSw (oRep S) := by
    unfold fSw
    rw [e76, if_neg (by omega), Int.toNat_natCast, Ag_sUse ha h16 _ (by omega)]
  exact wSt_mk (o 71 (by omega)) (o 72 (by omega)) eso esw (o 73 (by omega)) (o 74 (by omega)) (o 75 (by omega)) (fMu_cong (fun d hd => o (68 + d) (by omega))) (o 77 (by omega)) (fSt_cong (fun d hd => o (78 + d) (by omega))) (ha 0 (by omega)).symm (Ag_fC ha (by omega)).symm (Ag_fC ha (by omega)).symm (Ag_fC ha (by omega)).symm (Ag_fC ha (by omega)).symm (Ag_fLm ha).symm
theorem wSt_step (h16 : zn S ≤ 16) : ([(ho, .inr (5, [.ref hp, .ref hbu, .ref hm, .ref hg, .int (zI (S 71)), .int (zI (S 72)), .int (zI (fSol S)), .int (zI (fSw S)), .int (zI (S 73 + 1)), .int (zI (S 74 + 1)), .long (zL (if sBd S (sMv S) < S 75 then sBd S (sMv S) else S 75))])), (hm, .inl (D.2 0, 3, .inl (fMu (sMv S)))), (hg, .inl (D.2 0, 3, .inl G)), (hbu, .inr (0, [.ref hs, .int (zI (sBuM S ((sRel S (mu S) : Nat) : Int) 77))])), (hs, .inl (D.2 0, 8, .inl (fSt (sBuM S ((sRel S (mu S) : Nat) : Int))))), (hp, .inr (2, [.ref hw, .ref hz, .ref hl, .int (zI (S 0))])), (hw, .inl (D.2 0, 16, .inl (fC S 0))), (hz, .inl (D.2 5, 3, .inr (.inr (.inr (.inr (f3 h0 h1 h2)))))), (h0, .inl (D.2 0, 16, .inl (fC S 1))), (h1, .inl (D.2 0, 16, .inl (fC S 2))), (h2, .inl (D.2 0, 16, .inl (fC S 3))), (hl, .inl (D.2 0, 3, .inl (fLm S)))] : va_W) = wSt D ho hm hg hbu hs hp hw hz h0 h1 h2 hl (sSt S) G := by
  have ha := sSt_Ag S
  have o : ∀ j, j ≠ 68 → j ≠ 69 → j ≠ 70 → j ≠ 73 → j ≠ 74 → j ≠ 75 → j < 77 → S j = sSt S j := fun j h0 h1 h2 h3 h4 h5 h6 => by
    unfold sSt
    rw [sLs_o h5, sSt0_s S h0 h1 h2 h3 h4 h6]
  have ob : ∀ j, 77 ≤ j → sBuM S ((sRel S (mu S) : Nat) : Int) j = sSt S j := fun j hj => by
    unfold sSt
    rw [sLs_o (by omega), sSt0_o S (by omega) (by omega) (by omega) (by omega) (by omega)]
  have e75 : (if sBd S (sMv S) < S 75 then sBd S (sMv S) else S 75) = sSt S 75 := by
    show _ = if sBd (sSt0 S) (mu (sSt0 S)) < sSt0 S 75 then sBd (sSt0 S) (mu (sSt0 S)) else sSt0 S 75
    rw [sBd_st0 h16, sSt0_s S (j := 75) (by omega) (by omega) (by omega) (by omega) (by omega) (by omega)]
  have e76 : S 76 = sSt S 76 := o 76 (by omega) (by omega) (by omega) (by omega) (by omega) (by omega) (by omega)
  exact wSt_mk (o 71 (by omega) (by omega) (by omega) (by omega) (by omega) (by omega) (by omega)) (o 72 (by omega) (by omega) (by omega) (by omega) (by omega) (by omega) (by omega)) (fSol_cong e76) (fSw_cong (S := sSt S) (T := S) e76.symm ha h16).symm rfl rfl e75 (fMu_cong (fun d hd => (mu_st0 S d hd).symm.trans (sLs_o (S := sSt0 S) (show 68 + d ≠ 75 by omega)).symm)) (ob 77 (by omega)) (fSt_cong (fun d hd => ob (78 + d) (by omega))) (ha 0 (by omega)).symm (Ag_fC ha (by omega)).symm (Ag_fC ha (by omega)).symm (Ag_fC ha (by omega)).symm (Ag_fC ha (by omega)).symm (Ag_fLm ha).symm
end ZKW2
