/-! ===== what the asking methods answer ===== -/
def qIt (S : Nat → Int) (i : Nat) (what : Int) : Int := if what < 4 then sC S what.toNat i else if what = 4 then sPr S (mu S) i + 1000000000 else if what = 5 then zb ((sRel S (mu S)).testBit i = true) else if S 76 = -6 then 0 else zb ((S 76).toNat.testBit i = true)
def qItem (S : Nat → Int) (i what : Int) : Int := if 0 ≤ i ∧ i ≤ S 0 - 1 then (if 0 ≤ what ∧ what ≤ 6 then qIt S i.toNat what else -2) else -1
def qDm (S : Nat → Int) (d : Nat) (what : Int) : Int := if what < 3 then (if what = 0 then S (65 + d) else if what = 1 then S (68 + d) else sSlo S (mu S) d + 10000) else if S 76 = -6 then -6 else if what = 3 then sUse S (S 76).toNat (1 + d) else zb (sUse S (S 76).toNat (1 + d) = S (65 + d))
def qDim (S : Nat → Int) (d what : Int) : Int := if 0 ≤ d ∧ d ≤ 2 then (if 0 ≤ what ∧ what ≤ 4 then qDm S d.toNat what else -2) else -1
def qBun (S : Nat → Int) (p : Int) : Int := if 0 ≤ p ∧ p ≤ S 77 - 1 then S (78 + p.toNat) else -1
def qCnt (S : Nat → Int) (pl kp what : Int) : Int := if what = 0 then S 0 else if what = 1 then S 71 else if what = 2 then S 72 else if what = 3 then ((sRel S (mu S) : Nat) : Int) else if what = 4 then S 76 else if what = 5 then (if S 76 = -6 then -6 else sBw S) else if what = 6 then S 77 else if what = 7 then S 73 else if what = 8 then S 74 else if what = 9 then pl else if what = 10 then kp else -2
def qBnd (S : Nat → Int) (what : Int) : Int := if what = 0 then sBd S (mu S) else if what = 1 then S 75 else if what = 2 then S 75 - 100 * sBw S else -2
def qBest (S : Nat → Int) (what : Int) : Int := if 0 ≤ what ∧ what ≤ 1 then (if what = 0 then sUse S (sBst S) 0 else ((sBst S : Nat) : Int)) else -2
def lmu (S : Nat → Int) (d : Nat) (u : Int) : Nat → Int := zu S (65 + d) (S (65 + d) + u)
def qWor (S : Nat → Int) (d u : Int) : Int := if 0 ≤ d ∧ d ≤ 2 then (if 1 ≤ u ∧ u ≤ 99 then sUse (lmu S d.toNat u) (sBst (lmu S d.toNat u)) 0 - sUse S (sBst S) 0 else -2) else -1
def qRep (S : Nat → Int) (set : Int) : Int := if set < 0 then -2 else ((sMend S (set.toNat &&& (2 ^ zn S - 1)) : Nat) : Int)
theorem zb_bit (a b : Nat) : ((a >>> b &&& 1 : Nat) : Int) = zb (a.testBit b = true) := by
  have h := zt_le a b
  by_cases q : a.testBit b = true
  · rw [zb_t q, (zt_bit a b).mpr q]; rfl
  · have : ¬ (a >>> b &&& 1) = 1 := fun z => q ((zt_bit a b).mp z)
    rw [zb_f q]; omega
theorem sBd_st {S : Nat → Int} (h16 : zn S ≤ 16) : sBd (sSt S) (mu (sSt S)) = sBd S (sMv S) := by
  rw [Ag_sBd (sSt_Ag S) h16]
  exact sBd_M (fun d hd => (sLs_o (S := sSt0 S) (show 68 + d ≠ 75 by omega)).trans (mu_st0 S d hd))
theorem OkI_lmu {S : Nat → Int} (h : OkP S) {d : Nat} (hd : d < 3) {u : Int} (hu : 0 ≤ u ∧ u ≤ 99) : OkI (lmu S d u) := by
  have e : ∀ what i, i < 16 → what ≤ 3 → sC (lmu S d u) what i = sC S what i := fun what i hi hw => zu_n _ _ (by omega)
  have hl := h.2.2
  refine ⟨by unfold lmu; rw [zu_n _ _ (by omega)]; exact h.1, fun i hi => ?_, ?_⟩
  · rw [e 0 i hi (by omega), e 1 i hi (by omega), e 2 i hi (by omega), e 3 i hi (by omega)]
    exact h.2.1 i hi
  · unfold lmu
    match d, hd with
    | 0, _ =>
      rw [show (65 + 0 : Nat) = 65 from rfl, zu_s, zu_n _ _ (by omega), zu_n _ _ (by omega)]; omega
    | 1, _ =>
      rw [show (65 + 1 : Nat) = 66 from rfl, zu_s, zu_n _ _ (by omega), zu_n _ _ (by omega)]; omega
    | 2, _ =>
      rw [show (65 + 2 : Nat) = 67 from rfl, zu_s, zu_n _ _ (by omega), zu_n _ _ (by omega)]; omega
theorem lim_nn {S : Nat → Int} (h : OkP S) {d : Int} (hd : 0 ≤ d ∧ d ≤ 2) : 0 ≤ S (65 + d.toNat) := by
  have hl := h.2.2
  rcases (show d = 0 ∨ d = 1 ∨ d = 2 by omega) with rfl | rfl | rfl
  · exact hl.1.1
  · exact hl.2.1.1
  · exact hl.2.2.1
theorem lim_nn2 {S : Nat → Int} (h : OkP S) {d : Int} (hd : 0 ≤ d ∧ d ≤ 2) : 0 ≤ S (65 + d.toNat) ∧ S (65 + d.toNat) ≤ 999 := by
  have hl := h.2.2
  rcases (show d = 0 ∨ d = 1 ∨ d = 2 by omega) with rfl | rfl | rfl
  · exact hl.1
  · exact hl.2.1
  · exact hl.2.2
theorem mul_nn {S : Nat → Int} (h : OkM (mu S)) {d : Int} (hd : 0 ≤ d ∧ d ≤ 2) : 0 ≤ S (68 + d.toNat) := by
  rcases (show d = 0 ∨ d = 1 ∨ d = 2 by omega) with rfl | rfl | rfl
  · exact h.1.1
  · exact h.2.1.1
  · exact h.2.2.1
theorem fLy_nw {F T : Nat → Int64} {j : Nat} (hj : j < 86) : fLy F T 0 0 86 j = F j := by
  unfold fLy
  rw [if_pos (by omega)]
  congr 1
  omega
theorem sBst_16 {S : Nat → Int} (h : OkI S) : sBst S < 65536 := by
  have h1 := sBs_le S (2 ^ zn S - 1)
  have h2 := zt_2p (znI_le h)
  have h3 : 0 < 2 ^ zn S := Nat.pow_pos (by decide)
  unfold sBst
  omega
