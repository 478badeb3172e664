/-! ===== the law: how both sides agree; plain ===== -/
def E86 (S T : Nat → Int) : Prop := ∀ q, q < 86 → S q = T q
theorem fNow_E {S T : Nat → Int} (h : E86 S T) : fNow S = fNow T := by
  funext q
  unfold fNow
  by_cases c : q < 86
  · rw [if_pos c, if_pos c, h q c]
  · rw [if_neg c, if_neg c]
theorem hP_top {P S : Nat → Int} {c q : Nat} (hq : q < 86) : hP P c S (86 * min c 5 + q) = S q := by
  unfold hP lay
  rw [if_pos (by omega)]
  congr 1
  omega
theorem hP_old {P S : Nat → Int} {c x : Nat} (hc : c < 6) (hx : x < 86 * c) : hP P c S x = P x := by
  unfold hP lay
  rw [if_neg (by omega), if_neg (by omega)]
theorem hP_shf {P S : Nat → Int} {x : Nat} (hx : x < 430) : hP P 6 S x = P (x + 86) := by
  unfold hP lay shf
  rw [if_neg (by omega), if_pos rfl, if_pos hx]
/-- the ring's states behind the next place are the reference's past -/
def RgOk (B : Int) (nx ck : Nat) (Rg : Nat → Nat → Int) (P : Nat → Int) : Prop := ∀ j, j < ck → OkS B (Rg ((nx + 7 - ck + j) % 7)) ∧ E86 (Rg ((nx + 7 - ck + j) % 7)) (fun q => P (86 * j + q))
theorem RgOk_le {B C : Int} {nx ck : Nat} {Rg : Nat → Nat → Int} {P : Nat → Int} (h : RgOk B nx ck Rg P) (hBC : B ≤ C) : RgOk C nx ck Rg P := fun j hj => ⟨OkS_le (h j hj).1 hBC, (h j hj).2⟩
theorem RgOk_up {B : Int} {nx ck : Nat} {Rg : Nat → Nat → Int} {P S : Nat → Int} (hnx : nx < 7) (hck : ck ≤ 6) (h : RgOk B nx ck Rg P) (hS : OkS B S) : RgOk B ((nx + 1) % 7) (min 6 (ck + 1)) (uR Rg nx S) (hP P ck S) := by
  intro j hj
  by_cases c6 : ck = 6
  · subst c6
    by_cases j5 : j = 5
    · subst j5
      have e : ((nx + 1) % 7 + 7 - min 6 (6 + 1) + 5) % 7 = nx := by omega
      rw [e, show uR Rg nx S nx = S from if_pos rfl]
      exact ⟨hS, fun q hq => (hP_top (P := P) (S := S) (c := 6) hq).symm⟩
    · have e : ((nx + 1) % 7 + 7 - min 6 (6 + 1) + j) % 7 = (nx + 7 - 6 + (j + 1)) % 7 := by omega
      have hne : ¬ (nx + 7 - 6 + (j + 1)) % 7 = nx := by omega
      have h1 := h (j + 1) (by omega)
      rw [e, show uR Rg nx S ((nx + 7 - 6 + (j + 1)) % 7) = Rg ((nx + 7 - 6 + (j + 1)) % 7) from if_neg hne]
      refine ⟨h1.1, fun q hq => ?_⟩
      show Rg _ q = hP P 6 S (86 * j + q)
      rw [hP_shf (by omega)]
      exact (h1.2 q hq).trans (congrArg P (show 86 * (j + 1) + q = 86 * j + q + 86 by omega))
  · by_cases jc : j = ck
    · subst jc
      have e : ((nx + 1) % 7 + 7 - min 6 (j + 1) + j) % 7 = nx := by omega
      rw [e, show uR Rg nx S nx = S from if_pos rfl]
      refine ⟨hS, fun q hq => ?_⟩
      have h2 := hP_top (P := P) (S := S) (c := j) hq
      rw [show min j 5 = j by omega] at h2
      exact h2.symm
    · have e : ((nx + 1) % 7 + 7 - min 6 (ck + 1) + j) % 7 = (nx + 7 - ck + j) % 7 := by omega
      have hne : ¬ (nx + 7 - ck + j) % 7 = nx := by omega
      have h1 := h j (by omega)
      rw [e, show uR Rg nx S ((nx + 7 - ck + j) % 7) = Rg ((nx + 7 - ck + j) % 7) from if_neg hne]
      refine ⟨h1.1, fun q hq => ?_⟩
      show Rg _ q = hP P ck S (86 * j + q)
      rw [hP_old (by omega) (by omega)]
      exact h1.2 q hq
theorem RgOk_same {B : Int} {nx ck : Nat} {Rg : Nat → Nat → Int} {P : Nat → Int} (hnx : nx < 7) (hck : ck ≤ 6) (h : RgOk B nx ck Rg P) (S : Nat → Int) : RgOk B nx ck (uR Rg nx S) P := by
  intro j hj
  have hne : ¬ (nx + 7 - ck + j) % 7 = nx := by omega
  rw [show uR Rg nx S ((nx + 7 - ck + j) % 7) = Rg ((nx + 7 - ck + j) % 7) from if_neg hne]
  exact h j hj
theorem RgOk_e {B : Int} {nx ck : Nat} {Rg : Nat → Nat → Int} {P S : Nat → Int} (hnx : nx < 7) (hck : ck ≤ 6) (h : RgOk B nx ck Rg P) (hS : OkS B S) (r : Int) : RgOk B (eN r nx) (eC r ck) (uR Rg nx S) (eP r P ck S) := by
  unfold eN eC eP
  by_cases c : r < 0
  · rw [if_pos c, if_pos c, if_pos c]; exact RgOk_same hnx hck h S
  · rw [if_neg c, if_neg c, if_neg c]; exact RgOk_up hnx hck h hS
theorem RgOk_dn {B : Int} {nx ck : Nat} {Rg : Nat → Nat → Int} {P : Nat → Int} (hnx : nx < 7) (hck : ck + 1 ≤ 6) (h : RgOk B nx (ck + 1) Rg P) : RgOk B ((nx + 6) % 7) ck Rg P ∧ OkS B (Rg ((nx + 6) % 7)) ∧ E86 (Rg ((nx + 6) % 7)) (fun q => P (86 * ck + q)) := by
  have ht := h ck (by omega)
  rw [show (nx + 7 - (ck + 1) + ck) % 7 = (nx + 6) % 7 by omega] at ht
  refine ⟨fun j hj => ?_, ht.1, ht.2⟩
  have h1 := h j (by omega)
  rw [show ((nx + 6) % 7 + 7 - ck + j) % 7 = (nx + 7 - (ck + 1) + j) % 7 by omega]
  exact h1
theorem eN_lt {r : Int} {nx : Nat} (h : nx < 7) : eN r nx < 7 := by
  unfold eN
  split <;> omega
theorem eC_le {r : Int} {ck : Nat} (h : ck ≤ 6) : eC r ck ≤ 6 := by
  unfold eC
  split <;> omega
/-- the saved states are the reference's -/
def SlOk (B : Int) (hb9 : Nat → Int) (Sl : Nat → Nat → Int) (L9 : Nat → Int) : Prop := ∀ k, k < 2 → (hb9 k = 0 ∨ hb9 k = 1) ∧ (hb9 k = 1 → OkS B (Sl k) ∧ E86 (Sl k) (fun q => L9 (86 * k + q)))
theorem SlOk_le {B C : Int} {hb9 : Nat → Int} {Sl : Nat → Nat → Int} {L9 : Nat → Int} (h : SlOk B hb9 Sl L9) (hBC : B ≤ C) : SlOk C hb9 Sl L9 := fun k hk => ⟨(h k hk).1, fun q => ⟨OkS_le ((h k hk).2 q).1 hBC, ((h k hk).2 q).2⟩⟩
theorem SlOk_put {B : Int} {hb9 : Nat → Int} {Sl : Nat → Nat → Int} {L9 S : Nat → Int} (h : SlOk B hb9 Sl L9) (hS : OkS B S) {k : Nat} (hk : k < 2) : SlOk B (zu hb9 k 1) (uR Sl k S) (lay L9 (86 * k) S) := by
  intro j hj
  by_cases e : j = k
  · subst e
    rw [zu_s, show uR Sl j S j = S from if_pos rfl]
    refine ⟨Or.inr rfl, fun _ => ⟨hS, fun q hq => ?_⟩⟩
    show S q = lay L9 (86 * j) S (86 * j + q)
    unfold lay
    rw [if_pos (by omega)]
    congr 1
    omega
  · rw [zu_n _ _ e, show uR Sl k S j = Sl j from if_neg e]
    refine ⟨(h j hj).1, fun q9 => ⟨((h j hj).2 q9).1, fun q hq => ?_⟩⟩
    show Sl j q = lay L9 (86 * k) S (86 * j + q)
    unfold lay
    rw [if_neg (by omega)]
    exact ((h j hj).2 q9).2 q hq
theorem SlOk_0 {B : Int} {Sl : Nat → Nat → Int} {L9 : Nat → Int} : SlOk B (fun _ => 0) Sl L9 := fun _ _ => ⟨Or.inl rfl, fun q => absurd (show (0 : Int) = 1 from q) (by decide)⟩
theorem RgOk_0 {B : Int} {nx : Nat} {Rg : Nat → Nat → Int} {P : Nat → Int} : RgOk B nx 0 Rg P := fun _ hj => absurd hj (Nat.not_lt_zero _)
/-- all that ties both sides together -/
def LRel (B : Int) (nx ck : Nat) (Rg : Nat → Nat → Int) (P S : Nat → Int) (hb9 : Nat → Int) (Sl : Nat → Nat → Int) (L9 : Nat → Int) (pl : Nat) (T : Nat → Nat) (Q Q7 : Nat → Int) : Prop :=
  (nx < 7 ∧ ck ≤ 6) ∧ OkS B S ∧ RgOk B nx ck Rg P ∧ SlOk B hb9 Sl L9 ∧ OkT T pl ∧ QB Q ∧ QB Q7
theorem OkT_0 (T : Nat → Nat) : OkT T 0 := ⟨by omega, fun j hj => absurd hj (Nat.not_lt_zero _)⟩
