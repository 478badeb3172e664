theorem fLy_in {n1 n2 ta : Nat} {P Q : Nat → Int} (h1 : 86 ≤ n1) (h2 : ta + 86 ≤ n2) : fLy (fFl n1 P) (fFl n2 Q) 0 ta 86 = fFl n2 (lay Q ta P) := by
  rw [fLy_lay (by omega) h2]
  congr 1
  funext q
  unfold lay
  by_cases c : ta ≤ q ∧ q < ta + 86
  · rw [if_pos c, if_pos c]
    show P (0 + (q - ta)) = P (q - ta)
    rw [Nat.zero_add]
  · rw [if_neg c, if_neg c]
theorem fLy_out {n1 fa : Nat} {P S : Nat → Int} (h1 : fa + 86 ≤ n1) : fLy (fFl n1 P) (fNow S) fa 0 86 = fNow (fun k => P (fa + k)) := by
  funext q
  unfold fLy fFl fNow
  by_cases c : 0 ≤ q ∧ q < 0 + 86
  · rw [if_pos c, if_pos (by omega), if_pos (by omega)]
    rfl
  · rw [if_neg c, if_neg (by omega), if_neg (by omega)]
def fB (hb : Nat → Int) : Nat → Int32 := fun j => if j < 2 then zI (hb j) else 0
theorem fB_zu {hb : Nat → Int} {k : Nat} {v : Int} (hv : v = 0 ∨ v = 1) {i : Nat} (hi : i < 2) : upd (fB hb) k (vp_nar .boolean (zI v)) i = fB (zu hb k v) i := by
  have e0 : vp_nar .boolean (zI v) = zI v := by rcases hv with rfl | rfl <;> decide +kernel
  have e1 : fB (zu hb k v) i = zI (zu hb k v i) := if_pos hi
  have e2 : fB hb i = zI (hb i) := if_pos hi
  rw [e0, e1]
  by_cases h : i = k
  · subst h; rw [upd_s, zu_s]
  · rw [upd_n _ _ h, zu_n _ _ h, e2]
def eP (r : Int) (P : Nat → Int) (c : Nat) (S : Nat → Int) : Nat → Int := if r < 0 then P else hP P c S
def eC (r : Int) (c : Nat) : Nat := if r < 0 then c else min 6 (c + 1)
theorem eP_ok {r : Int} (h : 0 ≤ r) (P : Nat → Int) (c : Nat) (S : Nat → Int) : eP r P c S = hP P c S := if_neg (by omega)
theorem eC_ok {r : Int} (h : 0 ≤ r) (c : Nat) : eC r c = min 6 (c + 1) := if_neg (by omega)
def wMh (D : zD) (hx ha hth hpa hsl hhe hpd hor : Nat) (pd ap od : Int) (c : Nat) (P S : Nat → Int) : va_W := [(hx, .inr (7, [.ref ha, .ref hth, .ref hpa, .int (zI ((c : Nat) : Int)), .ref hsl, .ref hhe, .ref hpd, .int (zI pd), .int (zI ap), .ref hor, .int (zI od)])), (ha, .inl (D.2 1, 86, .inr (.inl (fNow S)))), (hpa, .inl (D.2 1, 516, .inr (.inl (fFl 516 P))))]
theorem mCome_no {S : Nat → Int} (h : OkP S) {w a b c : Int} (hm : ¬ mCome S w a b c = 0) : aItem S w a b c = (mCome S w a b c, S) := by
  unfold mCome at hm ⊢
  unfold aItem
  have := h.1
  by_cases hr : ((0 ≤ w ∧ w ≤ 999) ∧ (0 ≤ a ∧ a ≤ 99)) ∧ (0 ≤ b ∧ b ≤ 99) ∧ 0 ≤ c ∧ c ≤ 99
  · rw [if_pos hr] at hm
    rw [if_pos hr, if_pos hr]
    by_cases h16 : S 0 = 16
    · rw [if_pos h16, if_pos (by omega)]
    · rw [if_neg h16] at hm; exact absurd rfl hm
  · rw [if_neg hr, if_neg hr]
theorem mCome_ok {S : Nat → Int} (h : OkP S) {w a b c : Int} (hm : mCome S w a b c = 0) : aItem S w a b c = (S 0, oItem S w a b c) ∧ (((0 ≤ w ∧ w ≤ 999) ∧ (0 ≤ a ∧ a ≤ 99)) ∧ (0 ≤ b ∧ b ≤ 99) ∧ 0 ≤ c ∧ c ≤ 99) ∧ zn S < 16 := by
  have hn := zn_eq h
  have h0 := h.1
  unfold mCome at hm
  by_cases hr : ((0 ≤ w ∧ w ≤ 999) ∧ (0 ≤ a ∧ a ≤ 99)) ∧ (0 ≤ b ∧ b ≤ 99) ∧ 0 ≤ c ∧ c ≤ 99
  · rw [if_pos hr] at hm
    by_cases h16 : S 0 = 16
    · rw [if_pos h16] at hm; exact absurd hm (by decide)
    · exact ⟨(if_pos hr).trans (if_neg (by omega)), hr, by omega⟩
  · rw [if_neg hr] at hm; exact absurd hm (by decide)
theorem mCome_b (S : Nat → Int) (w a b c : Int) : -4 ≤ mCome S w a b c ∧ mCome S w a b c ≤ 0 := by
  unfold mCome
  split
  · split <;> omega
  · omega
theorem mLim_no {S : Nat → Int} {d v : Int} (hm : ¬ mLim d v = 0) : aLimit S d v = (mLim d v, S) := by
  unfold mLim at hm ⊢
  unfold aLimit
  by_cases hd : 0 ≤ d ∧ d ≤ 2
  · rw [if_pos hd] at hm
    rw [if_pos hd, if_pos hd]
    by_cases hv : 0 ≤ v ∧ v ≤ 999
    · rw [if_pos hv] at hm; exact absurd rfl hm
    · rw [if_neg hv, if_neg hv]
  · rw [if_neg hd, if_neg hd]
theorem mLim_ok {S : Nat → Int} {d v : Int} (hm : mLim d v = 0) : aLimit S d v = (S (65 + d.toNat), oLimit S d.toNat v) ∧ (0 ≤ d ∧ d ≤ 2) ∧ 0 ≤ v ∧ v ≤ 999 := by
  unfold mLim at hm
  by_cases hd : 0 ≤ d ∧ d ≤ 2
  · rw [if_pos hd] at hm
    by_cases hv : 0 ≤ v ∧ v ≤ 999
    · exact ⟨(if_pos hd).trans (if_pos hv), hd, hv⟩
    · rw [if_neg hv] at hm; exact absurd hm (by decide)
  · rw [if_neg hd] at hm; exact absurd hm (by decide)
theorem mLim_b (d v : Int) : -2 ≤ mLim d v ∧ mLim d v ≤ 0 := by
  unfold mLim
  split
  · split <;> omega
  · omega
theorem zu_comm {S : Nat → Int} {a b : Nat} (h : a ≠ b) (x y : Int) : zu (zu S a x) b y = zu (zu S b y) a x := by
  funext j
  unfold zu
  by_cases h1 : j = b
  · rw [if_pos h1, if_neg (by omega), if_pos h1]
  · rw [if_neg h1, if_neg h1]
theorem sBet_b (S : Nat → Int) : ∀ k, 0 ≤ sBet S k ∧ sBet S k ≤ k
  | 0 => by show (0 : Int) ≤ 0 ∧ (0 : Int) ≤ ((0 : Nat) : Int); omega
  | k + 1 => by
    have := sBet_b S k
    unfold sBet
    split <;> omega
