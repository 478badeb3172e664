/-! ===== the reference's changes of its row ===== -/
theorem sFg_eq {S : Nat → Int} (h : OkP S) : sFg S = zu (zu (zu S 73 0) 76 (-6)) 75 (sBd (zu (zu S 73 0) 76 (-6)) (mu (zu (zu S 73 0) 76 (-6)))) := by
  unfold sFg
  rw [Ag_sBd (S := zu (zu S 73 0) 76 (-6)) (T := S) (Ag_tr (zu_Ag (by omega)) (zu_Ag (by omega))) (zn_le h)]
  rw [sBd_M (M := mu (zu (zu S 73 0) 76 (-6))) (N := mu S) (c3 rfl rfl rfl)]
theorem tdm {a q : Int} (hq : 0 < q) : max 1 (a / q) = if a.tdiv q < 1 then 1 else a.tdiv q := by
  by_cases h : 0 ≤ a
  · rw [Int.tdiv_eq_ediv_of_nonneg h]
    split <;> omega
  · have h1 : a / q < 0 := Int.ediv_neg_of_neg_of_pos (by omega) hq
    have h0 : 0 ≤ (-a) / q := Int.ediv_nonneg (by omega) (by omega)
    have h2 : Int.tdiv (-a) q = (-a) / q := Int.tdiv_eq_ediv_of_nonneg (by omega)
    have h3 : Int.tdiv a q = -(Int.tdiv (-a) q) := by rw [Int.neg_tdiv]; omega
    rw [if_pos (by omega)]
    omega
theorem tdb {a q : Int} (hq : 0 < q) (ha : zBL a) (ha2 : -9223372036854775808 < a) : zBL (a.tdiv q) := by
  by_cases h : 0 ≤ a
  · rw [Int.tdiv_eq_ediv_of_nonneg h]
    have := Int.ediv_le_self q h
    have := Int.ediv_nonneg h (show 0 ≤ q by omega)
    omega
  · have h0 : 0 ≤ (-a) / q := Int.ediv_nonneg (by omega) (by omega)
    have h4 := Int.ediv_le_self q (show 0 ≤ -a by omega)
    have h2 : Int.tdiv (-a) q = (-a) / q := Int.tdiv_eq_ediv_of_nonneg (by omega)
    have h3 : Int.tdiv a q = -(Int.tdiv (-a) q) := by rw [Int.neg_tdiv]; omega
    omega
def sShk (T : Nat → Int) (m : Nat) : Nat → Int := fun j => if 78 ≤ j ∧ j < 78 + m then T (j + 1) else T j
theorem sShk_0 (T : Nat → Int) : sShk T 0 = T := by
  funext j
  unfold sShk
  rw [if_neg (by omega)]
theorem sShk_s (T : Nat → Int) (m : Nat) : zu (sShk T m) (78 + m) (sShk T m (78 + m + 1)) = sShk T (m + 1) := by
  funext j
  by_cases h : j = 78 + m
  · subst h
    rw [zu_s]
    unfold sShk
    rw [if_neg (by omega), if_pos (by omega)]
  · rw [zu_n _ _ h]
    unfold sShk
    by_cases c : 78 ≤ j ∧ j < 78 + m
    · rw [if_pos c, if_pos (by omega)]
    · rw [if_neg c, if_neg (by omega)]
theorem sSt0_mk {S T : Nat → Int} {m0 m1 m2 a b : Int} (hT : T = sBuM S ((sRel S (mu S) : Nat) : Int)) (h0 : m0 = sMv S 0) (h1 : m1 = sMv S 1) (h2 : m2 = sMv S 2) (ha : a = S 73 + 1) (hb : b = S 74 + 1) : zu (zu (zu (zu (zu T 68 m0) 69 m1) 70 m2) 73 a) 74 b = sSt0 S := by
  subst hT; subst h0; subst h1; subst h2; subst ha; subst hb
  funext j
  unfold sSt0 zu
  by_cases c0 : j = 68
  · subst c0; rfl
  · by_cases c1 : j = 69
    · subst c1; rfl
    · by_cases c2 : j = 70
      · subst c2; rfl
      · by_cases c3 : j = 73
        · subst c3; rfl
        · by_cases c4 : j = 74
          · subst c4; rfl
          · rw [if_neg c4, if_neg c3, if_neg c2, if_neg c1, if_neg c0, if_neg c0, if_neg c1, if_neg c2, if_neg c3, if_neg c4]
theorem ap_mk {S : Nat → Int} {r : Nat} {w a b c v : Int} (hr : r = 1 + 4 * zn S) (hv : v = S 0 + 1) : zu (zu (zu (zu (zu S r w) (r + 1) a) (r + 2) b) (r + 3) c) 0 v = sAp S w a b c := by
  subst hr; subst hv
  unfold sAp
  rw [show 1 + 4 * zn S + 1 = 2 + 4 * zn S by omega, show 1 + 4 * zn S + 2 = 3 + 4 * zn S by omega, show 1 + 4 * zn S + 3 = 4 + 4 * zn S by omega]
def sDk (S : Nat → Int) (i m : Nat) : Nat → Int := fun j => if j = 0 then S 0 - 1 else if 1 + 4 * i ≤ j ∧ j < m then S (j + 4) else S j
theorem sDk_0 (S : Nat → Int) (i : Nat) : zu S 0 (S 0 - 1) = sDk S i (1 + 4 * i) := by
  funext j
  unfold sDk
  by_cases h : j = 0
  · subst h; rw [zu_s, if_pos rfl]
  · rw [zu_n _ _ h, if_neg h, if_neg (by omega)]
theorem sDk_s (S : Nat → Int) {i m : Nat} (hm : 1 + 4 * i ≤ m) : zu (sDk S i m) m (sDk S i m (m + 4)) = sDk S i (m + 1) := by
  funext j
  by_cases h : j = m
  · subst h
    rw [zu_s]
    unfold sDk
    rw [if_neg (by omega), if_neg (by omega), if_neg (by omega), if_pos (by omega)]
  · rw [zu_n _ _ h]
    unfold sDk
    by_cases z : j = 0
    · rw [if_pos z, if_pos z]
    · rw [if_neg z, if_neg z]
      by_cases c : 1 + 4 * i ≤ j ∧ j < m
      · rw [if_pos c, if_pos (by omega)]
      · rw [if_neg c, if_neg (by omega)]
theorem sDk_e (S : Nat → Int) {i m : Nat} (hm : m + 4 = 1 + 4 * zn S) : sDk S i m = sRm S i := by
  funext j
  unfold sDk sRm
  by_cases z : j = 0
  · rw [if_pos z, if_pos z]
  · rw [if_neg z, if_neg z]
    by_cases c : 1 + 4 * i ≤ j ∧ j < m
    · rw [if_pos c, if_pos (by omega)]
    · rw [if_neg c, if_neg (by omega)]
def wMb (D : zD) (hx ha hth hpa hsl hhe hpd hor : Nat) (kp pd ap od : Int) (S : Nat → Int) : va_W := [(hx, .inr (7, [.ref ha, .ref hth, .ref hpa, .int (zI kp), .ref hsl, .ref hhe, .ref hpd, .int (zI pd), .int (zI ap), .ref hor, .int (zI od)])), (ha, .inl (D.2 1, 86, .inr (.inl (fNow S))))]
def mCome (S : Nat → Int) (w a b c : Int) : Int := if ((0 ≤ w ∧ w ≤ 999) ∧ (0 ≤ a ∧ a ≤ 99)) ∧ (0 ≤ b ∧ b ≤ 99) ∧ 0 ≤ c ∧ c ≤ 99 then (if S 0 = 16 then -4 else 0) else -2
def mLim (d v : Int) : Int := if 0 ≤ d ∧ d ≤ 2 then (if 0 ≤ v ∧ v ≤ 999 then 0 else -2) else -1
theorem OkP_z2 {S : Nat → Int} (h : OkP S) {a b : Int} : OkP (zu (zu S 73 a) 76 b) := Ag_OkP (Ag_tr (zu_Ag (by omega)) (zu_Ag (by omega))) h
theorem OkP_77 {S : Nat → Int} (h : OkP S) {a : Int} : OkP (zu S 77 a) := Ag_OkP (zu_Ag (by omega)) h
theorem OkM_cong {M N : Nat → Int} (h : ∀ d, d < 3 → M d = N d) (hm : OkM N) : OkM M := by
  unfold OkM at hm ⊢
  rw [h 0 (by omega), h 1 (by omega), h 2 (by omega)]
  exact hm
theorem oRep_eq {S : Nat → Int} (h : OkP S) (hbe : S 76 = -6 ∨ 0 ≤ S 76 ∧ S 76 ≤ 65535) : oRep S = zu S 76 (if S 76 = -6 ∨ sBw S < sUse S (sRp S) 0 then ((sRp S : Nat) : Int) else S 76) := by
  have u := sUse_b h (S 76).toNat (what := 0) (by omega)
  unfold oRep fSw sBw
  by_cases e : S 76 = -6
  · rw [if_pos e, if_pos (Or.inl rfl), if_pos (Or.inl e)]
  · rw [if_neg e, if_neg e]
    by_cases q : sUse S (S 76).toNat 0 < sUse S (sRp S) 0
    · rw [if_pos (Or.inr q), if_pos (Or.inr q)]
    · rw [if_neg (by omega), if_neg (by omega)]
