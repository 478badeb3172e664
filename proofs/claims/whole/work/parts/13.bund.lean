/-! ===== the bundle ===== -/
theorem sTo_inv {S : Nat → Int} (h : OkB S) (x : Int) : ∀ k, k ≤ zk S → (∀ j, j < (sTo S x k).1 → (sTo S x k).2 (78 + j) ≠ x ∧ ∃ i, i < k ∧ (sTo S x k).2 (78 + j) = S (78 + i)) ∧ (∀ a b, a < b → b < (sTo S x k).1 → (sTo S x k).2 (78 + a) ≠ (sTo S x k).2 (78 + b)) ∧ ∀ j, j < 8 → 0 ≤ (sTo S x k).2 (78 + j) ∧ (sTo S x k).2 (78 + j) ≤ 65535
  | 0, _ => ⟨fun j hj => absurd hj (Nat.not_lt_zero _), fun a b _ hb => absurd hb (Nat.not_lt_zero _), h.2.1⟩
  | k + 1, hk => by
    obtain ⟨i1, i2, i3⟩ := sTo_inv h x k (by omega)
    have hl := sTo_le S x k
    have hz := zk_eq h
    have h8 := h.1
    have hv : (sTo S x k).2 (78 + k) = S (78 + k) := sTo_far S x k _ (Or.inr (Nat.le_refl _))
    rw [sTo_s]
    by_cases e : (sTo S x k).2 (78 + k) = x
    · rw [if_pos e]
      refine ⟨fun j hj => ?_, i2, i3⟩
      obtain ⟨a1, i, a2, a3⟩ := i1 j hj
      exact ⟨a1, i, by omega, a3⟩
    · rw [if_neg e]
      generalize hq : sTo S x k = q at *
      dsimp only
      refine ⟨fun j hj => ?_, fun a b hab hb => ?_, fun j hj => ?_⟩
      · by_cases hjq : j = q.1
        · subst hjq
          rw [zu_s]
          exact ⟨e, k, by omega, hv⟩
        · rw [zu_n _ _ (by omega)]
          obtain ⟨a1, i, a2, a3⟩ := i1 j (by omega)
          exact ⟨a1, i, by omega, a3⟩
      · by_cases hbq : b = q.1
        · subst hbq
          rw [zu_s, zu_n _ _ (by omega), hv]
          obtain ⟨a1, i, a2, a3⟩ := i1 a hab
          rw [a3]
          exact h.2.2 i k a2 (by omega)
        · rw [zu_n _ _ (by omega), zu_n _ _ (by omega)]
          exact i2 a b hab (by omega)
      · by_cases hjq : j = q.1
        · subst hjq
          rw [zu_s, hv]
          exact h.2.1 k (by omega)
        · rw [zu_n _ _ (by omega)]
          exact i3 j hj
theorem zk_out (S : Nat → Int) (x : Int) : zk (sOut S x) = (sTo S x (zk S)).1 := by
  unfold sOut
  rw [show zk (zu (sTo S x (zk S)).2 77 ((sTo S x (zk S)).1 : Int)) = (zu (sTo S x (zk S)).2 77 ((sTo S x (zk S)).1 : Int) 77).toNat from rfl, zu_s, Int.toNat_natCast]
theorem sOut_77 (S : Nat → Int) (x : Int) : sOut S x 77 = ((sTo S x (zk S)).1 : Int) := zu_s _ _ _
theorem sOut_n (S : Nat → Int) (x : Int) (j : Nat) : sOut S x (78 + j) = (sTo S x (zk S)).2 (78 + j) := zu_n _ _ (by omega)
theorem sOut_far (S : Nat → Int) (x : Int) {j : Nat} (hj : j < 77) : sOut S x j = S j := by
  unfold sOut
  rw [zu_n _ _ (by omega)]
  exact sTo_far S x _ j (by omega)
theorem OkB_out {S : Nat → Int} (h : OkB S) (x : Int) : OkB (sOut S x) ∧ (∀ j, j < zk (sOut S x) → sOut S x (78 + j) ≠ x ∧ ∃ i, i < zk S ∧ sOut S x (78 + j) = S (78 + i)) ∧ zk (sOut S x) ≤ zk S := by
  obtain ⟨i1, i2, i3⟩ := sTo_inv h x (zk S) (Nat.le_refl _)
  have hl := sTo_le S x (zk S)
  have hz := zk_eq h
  have h8 := h.1
  refine ⟨⟨?_, fun k hk => ?_, fun a b hab hb => ?_⟩, fun j hj => ?_, ?_⟩
  · rw [sOut_77]; omega
  · rw [sOut_n]; exact i3 k hk
  · rw [zk_out] at hb
    rw [sOut_n, sOut_n]
    exact i2 a b hab hb
  · rw [zk_out] at hj
    rw [sOut_n]
    exact i1 j hj
  · rw [zk_out]; exact hl
theorem sTo_drop {S : Nat → Int} {x : Int} (h : S 78 = x) : ∀ k, 1 ≤ k → (sTo S x k).1 + 1 ≤ k
  | 0, h1 => by omega
  | 1, _ => by
    rw [sTo_s, if_pos (show (sTo S x 0).2 (78 + 0) = x from h)]
    exact Nat.le_refl 1
  | k + 2, _ => by
    have hd := sTo_drop h (k + 1) (by omega)
    rw [sTo_s]
    split
    · omega
    · show (sTo S x (k + 1)).1 + 1 + 1 ≤ k + 2
      omega
theorem OkB_put {S : Nat → Int} (h : OkB S) {x : Int} (h7 : S 77 ≤ 7) (hx : 0 ≤ x ∧ x ≤ 65535) (hn : ∀ j, j < zk S → S (78 + j) ≠ x) : OkB (sPut S x) := by
  have hz := zk_eq h
  have h8 := h.1
  have e77 : sPut S x 77 = S 77 + 1 := zu_s _ _ _
  have ek : zk (sPut S x) = zk S + 1 := by
    show (sPut S x 77).toNat = _
    rw [e77]; omega
  have en : ∀ j, sPut S x (78 + j) = if j = zk S then x else S (78 + j) := by
    intro j
    unfold sPut
    rw [zu_n _ _ (by omega)]
    by_cases e : j = zk S
    · subst e; rw [zu_s, if_pos rfl]
    · rw [zu_n _ _ (by omega), if_neg e]
  refine ⟨by rw [e77]; omega, fun k hk => ?_, fun a b hab hb => ?_⟩
  · rw [en]; split
    · exact hx
    · exact h.2.1 k hk
  · rw [ek] at hb
    rw [en, en]
    rw [if_neg (show ¬ a = zk S by omega)]
    by_cases e : b = zk S
    · rw [if_pos e]; exact hn a (by omega)
    · rw [if_neg e]; exact h.2.2 a b hab (by omega)
theorem sPut_far (S : Nat → Int) (x : Int) {j : Nat} (hj : j < 77) : sPut S x j = S j := by
  unfold sPut
  rw [zu_n _ _ (by omega), zu_n _ _ (by omega)]
/-- the second taking out leaves at most seven -/
theorem sOut_7 {S : Nat → Int} (h : OkB S) (x : Int) (h8 : 8 ≤ sOut S x 77) : sOut (sOut S x) (sOut S x 78) 77 ≤ 7 := by
  have ho := (OkB_out h x).1
  have hz := zk_eq ho
  have hb := ho.1
  have := sTo_drop (S := sOut S x) (x := sOut S x 78) rfl (zk (sOut S x)) (by omega)
  rw [sOut_77]
  omega
theorem OkB_bu {S : Nat → Int} (h : OkB S) {x : Int} (hx : 0 ≤ x ∧ x ≤ 65535) : OkB (sBuC S x) := by
  obtain ⟨o1, o2, o3⟩ := OkB_out h x
  unfold sBuC
  by_cases h8 : 8 ≤ sOut S x 77
  · rw [if_pos h8]
    obtain ⟨p1, p2, p3⟩ := OkB_out o1 (sOut S x 78)
    refine OkB_put p1 (sOut_7 h x h8) hx (fun j hj => ?_)
    obtain ⟨-, i, hi, e⟩ := p2 j hj
    rw [e]
    exact (o2 i hi).1
  · rw [if_neg h8]
    have := o1.1
    exact OkB_put o1 (by omega) hx (fun j hj => (o2 j hj).1)
theorem sBuC_far (S : Nat → Int) (x : Int) {j : Nat} (hj : j < 77) : sBuC S x j = S j := by
  unfold sBuC
  split
  · rw [sPut_far _ _ hj, sOut_far _ _ hj, sOut_far _ _ hj]
  · rw [sPut_far _ _ hj, sOut_far _ _ hj]
/-- the reference's way -/
def sSh (T : Nat → Int) : Nat → Int := fun j => if 78 ≤ j ∧ j < 85 then T (j + 1) else T j
def sBuM (S : Nat → Int) (x : Int) : Nat → Int := if (sTo S x (zk S)).1 = 8 then zu (zu (sSh (sTo S x (zk S)).2) 85 x) 77 8 else zu (zu (sTo S x (zk S)).2 (78 + (sTo S x (zk S)).1) x) 77 ((sTo S x (zk S)).1 + 1)
theorem zu_same {S : Nat → Int} {k : Nat} {v : Int} (h : S k = v) : zu S k v = S := by
  funext j
  by_cases e : j = k
  · subst e; rw [zu_s, h]
  · rw [zu_n _ _ e]
theorem sTo_full (S : Nat → Int) (x : Int) : ∀ k, (sTo S x k).1 = k → (sTo S x k).2 = S
  | 0, _ => rfl
  | k + 1, h => by
    have hl := sTo_le S x k
    rw [sTo_s] at h ⊢
    by_cases e : (sTo S x k).2 (78 + k) = x
    · rw [if_pos e] at h; omega
    · rw [if_neg e] at h ⊢
      have h1 : (sTo S x k).1 = k := by
        have : (sTo S x k).1 + 1 = k + 1 := h
        omega
      have h2 := sTo_full S x k h1
      show zu _ _ _ = S
      rw [h1, h2]
      exact zu_same rfl
theorem sTo_shift {S : Nat → Int} (hd : ∀ b, 0 < b → b < 8 → S 78 ≠ S (78 + b)) : ∀ k, k + 1 ≤ 8 → sTo S (S 78) (k + 1) = (k, fun j => if 78 ≤ j ∧ j < 78 + k then S (j + 1) else S j)
  | 0, _ => by
    rw [sTo_s, if_pos (show (sTo S (S 78) 0).2 (78 + 0) = S 78 from rfl)]
    show (0, S) = _
    refine congrArg (Prod.mk 0) (funext fun j => ?_)
    rw [if_neg (by omega)]
  | k + 1, hk => by
    have ih := sTo_shift hd k (by omega)
    rw [sTo_s, ih]
    have e1 : (if 78 ≤ 78 + (k + 1) ∧ 78 + (k + 1) < 78 + k then S (78 + (k + 1) + 1) else S (78 + (k + 1))) = S (78 + (k + 1)) := if_neg (by omega)
    show (if (if 78 ≤ 78 + (k + 1) ∧ 78 + (k + 1) < 78 + k then S (78 + (k + 1) + 1) else S (78 + (k + 1))) = S 78 then _ else (k + 1, zu _ (78 + k) (if 78 ≤ 78 + (k + 1) ∧ 78 + (k + 1) < 78 + k then S (78 + (k + 1) + 1) else S (78 + (k + 1))))) = _
    rw [e1, if_neg (fun q => hd (k + 1) (by omega) (by omega) q.symm)]
    refine congrArg (Prod.mk (k + 1)) (funext fun j => ?_)
    by_cases ej : j = 78 + k
    · subst ej
      rw [zu_s, if_pos (by omega)]
      congr 1
    · rw [zu_n _ _ ej]
      show (if 78 ≤ j ∧ j < 78 + k then S (j + 1) else S j) = _
      by_cases c : 78 ≤ j ∧ j < 78 + k
      · rw [if_pos c, if_pos (by omega)]
      · rw [if_neg c, if_neg (by omega)]
theorem sBu_eq {S : Nat → Int} (h : OkB S) (x : Int) : sBuC S x = sBuM S x := by
  have hz := zk_eq h
  have h8 := h.1
  have hl := sTo_le S x (zk S)
  unfold sBuC sBuM
  rw [sOut_77]
  by_cases e : (sTo S x (zk S)).1 = 8
  · rw [if_pos (by omega), if_pos e]
    have ek : zk S = 8 := by omega
    have ef : (sTo S x (zk S)).2 = S := sTo_full S x _ (by rw [e, ek])
    have es : sOut S x = S := by
      unfold sOut
      rw [ef, e]
      exact zu_same (by omega)
    rw [es, ef]
    have hs := sTo_shift (S := S) (fun b h0 hb => h.2.2 0 b h0 (by omega)) 7 (by omega)
    have eo : sOut S (S 78) = zu (sSh S) 77 7 := by
      show zu (sTo S (S 78) (zk S)).2 77 ((sTo S (S 78) (zk S)).1 : Int) = _
      rw [ek, hs]
      rfl
    rw [eo]
    show zu (zu (zu (sSh S) 77 7) (78 + (zu (sSh S) 77 7 77).toNat) x) 77 (zu (sSh S) 77 7 77 + 1) = _
    rw [zu_s]
    funext j
    show (if j = 77 then _ else if j = 78 + 7 then x else if j = 77 then _ else sSh S j) = (if j = 77 then _ else if j = 85 then x else sSh S j)
    by_cases a : j = 77
    · rw [if_pos a, if_pos a]; rfl
    · rw [if_neg a, if_neg a, if_neg a]
  · rw [if_neg (by omega), if_neg e]
    unfold sPut
    rw [zk_out, sOut_77]
    funext j
    unfold zu
    by_cases a : j = 77
    · rw [if_pos a, if_pos a]
    · rw [if_neg a, if_neg a]
      by_cases b : j = 78 + (sTo S x (zk S)).1
      · rw [if_pos b, if_pos b]
      · rw [if_neg b, if_neg b]
        show sOut S x j = _
        unfold sOut
        rw [zu_n _ _ a]
