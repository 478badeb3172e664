/-! ===== the reference: its row of longs ===== -/
def wMo (D : zD) (ha : Nat) (S : Nat → Int) : va_W := [(ha, .inl (D.2 1, 86, .inr (.inl (fNow S))))]
theorem updL_s (f : Nat → Int64) (k : Nat) (x : Int64) : vp_updL f k x k = x := by simp [vp_updL]
theorem updL_n (f : Nat → Int64) {k j : Nat} (x : Int64) (h : j ≠ k) : vp_updL f k x j = f j := by simp [vp_updL, h]
theorem fNow_zu {S : Nat → Int} {k : Nat} {v : Int} {i : Nat} (hi : i < 86) : vp_updL (fNow S) k (zL v) i = fNow (zu S k v) i := by
  have e1 : fNow (zu S k v) i = zL (zu S k v i) := if_pos hi
  have e2 : fNow S i = zL (S i) := if_pos hi
  rw [e1]
  by_cases h : i = k
  · subst h; rw [updL_s, zu_s]
  · rw [updL_n _ _ h, zu_n _ _ h, e2]
theorem fNow_cong {S T : Nat → Int} (h : ∀ j, j < 86 → S j = T j) : fNow S = fNow T := by
  funext j
  unfold fNow
  by_cases hj : j < 86
  · rw [if_pos hj, if_pos hj, h j hj]
  · rw [if_neg hj, if_neg hj]
def sBw (S : Nat → Int) : Int := if S 76 = -6 then 0 else sUse S (S 76).toNat 0
theorem sBw_hu {S : Nat → Int} (h : OkP S) : sHu (fSw S) = 100 * sBw S := by
  have u := sUse_b h (S 76).toNat (what := 0) (by omega)
  unfold sHu fSw sBw
  by_cases e : S 76 = -6
  · rw [if_pos e, if_pos e]; rfl
  · rw [if_neg e, if_neg e, if_neg (by omega)]
theorem sBw_b {S : Nat → Int} (h : OkP S) : 0 ≤ sBw S ∧ sBw S ≤ 15984 := by
  have u := sUse_b h (S 76).toNat (what := 0) (by omega)
  unfold sBw
  split <;> omega
def sFs (S : Nat → Int) (set n : Nat) : Int := if sLst S set n < 0 then -6 else sLst S set n
theorem sFs_s (S : Nat → Int) (set k : Nat) : sFs S set (k + 1) = if (set.testBit k = true ∧ 0 < sSz S k) ∧ (sFs S set k = -6 ∨ sC S 0 k * sSz S (sFs S set k).toNat < sC S 0 (sFs S set k).toNat * sSz S k) then (k : Int) else sFs S set k := by
  unfold sFs
  have hb := sLst_b S set k
  rw [sLst_s]
  have hk : ¬ ((k : Int) < 0) := by omega
  generalize sLst S set k = x at *
  by_cases hP : set.testBit k = true ∧ 0 < sSz S k
  · by_cases h0 : x < 0
    · simp [hP, h0, hk]
    · have h6 : ¬ x = -6 := by omega
      by_cases hR : sC S 0 k * sSz S x.toNat < sC S 0 x.toNat * sSz S k
      · simp [hP, h0, h6, hR, hk]
      · simp [hP, h0, h6, hR, hk]
  · by_cases h0 : x < 0
    · simp [hP, h0]
    · simp [hP, h0]
theorem sLst_neg {S : Nat → Int} {set : Nat} : ∀ n, sLst S set n < 0 → ∀ i, i < n → set.testBit i = true → sSz S i ≤ 0
  | 0, _, i, hi, _ => absurd hi (Nat.not_lt_zero _)
  | k + 1, h, i, hi, hb => by
    rw [sLst_s] at h
    by_cases c : (set.testBit k = true ∧ 0 < sSz S k) ∧ (sLst S set k < 0 ∨ sC S 0 k * sSz S (sLst S set k).toNat < sC S 0 (sLst S set k).toNat * sSz S k)
    · rw [if_pos c] at h; omega
    · rw [if_neg c] at h
      by_cases e : i = k
      · subst e
        by_cases z : 0 < sSz S i
        · exact absurd ⟨⟨hb, z⟩, Or.inl h⟩ c
        · omega
      · exact sLst_neg k h i (by omega) hb
theorem sLst_bit {S : Nat → Int} {set : Nat} : ∀ n, 0 ≤ sLst S set n → set.testBit (sLst S set n).toNat = true
  | 0, h => absurd h (show ¬ (0 : Int) ≤ -1 by decide)
  | k + 1, h => by
    rw [sLst_s] at h ⊢
    by_cases c : (set.testBit k = true ∧ 0 < sSz S k) ∧ (sLst S set k < 0 ∨ sC S 0 k * sSz S (sLst S set k).toNat < sC S 0 (sLst S set k).toNat * sSz S k)
    · rw [if_pos c]; rw [Int.toNat_natCast]; exact c.1.1
    · rw [if_neg c] at h ⊢
      exact sLst_bit k h
theorem nofit_lst {S : Nat → Int} (h : OkP S) {set : Nat} (hf : ¬ sFit S set) : 0 ≤ sLst S set (zn S) := by
  have h16 := zn_le h
  by_cases c : 0 ≤ sLst S set (zn S)
  · exact c
  · exfalso
    apply hf
    have hz : ∀ what, 1 ≤ what → what ≤ 3 → sUse S set what = 0 := by
      intro what h1 h3
      have : sUse S set what = sSum (zn S) (fun _ => 0) := sSum_congr _ (fun i hi => by
        by_cases b : set.testBit i = true
        · rw [if_pos b]
          have a := sLst_neg (S := S) (set := set) (zn S) (by omega) i hi b
          have k := h.2.1 i (by omega)
          unfold sSz at a
          match what, h1, h3 with
          | 1, _, _ => omega
          | 2, _, _ => omega
          | 3, _, _ => omega
        · rw [if_neg b])
      rw [this]
      have z : ∀ n, sSum n (fun _ => 0) = 0 := by
        intro n
        induction n with
        | zero => rfl
        | succ k ih => show sSum k _ + 0 = 0; omega
      exact z _
    have hl := h.2.2
    unfold sFit
    rw [hz 1 (by omega) (by omega), hz 2 (by omega) (by omega), hz 3 (by omega) (by omega)]
    omega
theorem zclr_bit (k x i : Nat) : (zclr k (2 ^ x)).testBit i = (k.testBit i && !decide (x = i)) := by
  unfold zclr
  rw [Nat.testBit_xor, Nat.testBit_and, Nat.testBit_two_pow]
  cases k.testBit i <;> cases decide (x = i) <;> rfl
def sCnt (k : Nat) : Nat → Nat
  | 0 => 0
  | i + 1 => sCnt k i + (if k.testBit i = true then 1 else 0)
theorem sCnt_le (k : Nat) : ∀ n, sCnt k n ≤ n
  | 0 => Nat.le_refl 0
  | i + 1 => by
    have := sCnt_le k i
    unfold sCnt
    split <;> omega
theorem sCnt_clr {k x : Nat} (hb : k.testBit x = true) : ∀ n, sCnt (zclr k (2 ^ x)) n + (if x < n then 1 else 0) = sCnt k n
  | 0 => by simp [sCnt]
  | i + 1 => by
    have ih := sCnt_clr hb i
    unfold sCnt
    rw [zclr_bit]
    by_cases e : x = i
    · subst e
      rw [hb]
      simp at ih ⊢
      omega
    · have e2 : decide (x = i) = false := decide_eq_false e
      rw [e2]
      by_cases l : x < i
      · rw [if_pos l] at ih
        rw [if_pos (show x < i + 1 by omega)]
        cases k.testBit i <;> simp <;> omega
      · rw [if_neg l] at ih
        rw [if_neg (show ¬ x < i + 1 by omega)]
        cases k.testBit i <;> simp <;> omega
theorem sTake_cnt {S : Nat → Int} {s0 k f : Nat} (h : sTake S f k = sTake S 16 s0) (hc : sCnt k 16 ≤ f) (hf : ¬ sFit S k) (hok : OkP S) : ∃ g, sTake S g (zclr k (2 ^ (max 0 (sLst S k (zn S))).toNat)) = sTake S 16 s0 ∧ sCnt (zclr k (2 ^ (max 0 (sLst S k (zn S))).toNat)) 16 ≤ g ∧ sCnt (zclr k (2 ^ (max 0 (sLst S k (zn S))).toNat)) 16 < sCnt k 16 := by
  have hp := nofit_lst hok hf
  have hlb := sLst_b S k (zn S)
  have h16 := zn_le hok
  have hbit := sLst_bit (S := S) (set := k) (zn S) hp
  have em : max 0 (sLst S k (zn S)) = sLst S k (zn S) := by omega
  rw [em]
  have hc2 := sCnt_clr (k := k) (x := (sLst S k (zn S)).toNat) hbit 16
  rw [if_pos (by omega)] at hc2
  cases f with
  | zero => omega
  | succ g =>
    unfold sTake at h
    rw [if_neg hf, em] at h
    exact ⟨g, h, by omega, by omega⟩
theorem sFs_b (S : Nat → Int) (set n : Nat) : -6 ≤ sFs S set n ∧ sFs S set n < n ∧ (¬ sFs S set n = -6 → 0 ≤ sFs S set n) := by
  have := sLst_b S set n
  unfold sFs
  split <;> omega
