/-! ===== the bytes of a number ===== -/
def by8 (x : Int64) (k : Nat) : Nat := x.toBitVec.toNat / 2 ^ (8 * k) % 256
theorem by8_lt (x : Int64) (k : Nat) : by8 x k < 256 := Nat.mod_lt _ (by decide)
theorem by8_bit (x : Int64) (k i : Nat) : (by8 x k).testBit i = (decide (i < 8) && x.toBitVec.getLsbD (8 * k + i)) := by
  unfold by8
  rw [show (256 : Nat) = 2 ^ 8 by decide, Nat.testBit_mod_two_pow, Nat.testBit_div_two_pow]
  rw [Nat.add_comm i (8 * k)]
  rfl
theorem zI_bits (n i : Nat) : (zI (n : Int)).toBitVec.getLsbD i = (decide (i < 32) && n.testBit i) := by
  rw [zI_nat]
  show (BitVec.ofNat 32 n).getLsbD i = _
  rw [BitVec.getLsbD_ofNat]
theorem i32_bits {a b : Int32} (h : ∀ i, i < 32 → a.toBitVec.getLsbD i = b.toBitVec.getLsbD i) : a = b := by
  apply Int32.toBitVec_inj.mp
  exact BitVec.eq_of_getLsbD_eq h
theorem lo255 (i : Nat) : (zI 255).toBitVec.getLsbD i = decide (i < 8) := by
  rw [show (255 : Int) = ((255 : Nat) : Int) by rfl, zI_bits, show (255 : Nat) = 2 ^ 8 - 1 by rfl, Nat.testBit_two_pow_sub_one]
  by_cases h : i < 8
  · rw [decide_eq_true h, decide_eq_true (show i < 32 by omega)]; rfl
  · rw [decide_eq_false h, Bool.and_false]
theorem sh_u (x : Int64) (k : Nat) (hk : k < 8) (i : Nat) (hi : i < 8) : (x.toUInt64 >>> ((zI (8 * ((k : Nat) : Int))).toInt64.toUInt64 &&& Int64.toUInt64 63)).toInt64.toBitVec.getLsbD i = x.toBitVec.getLsbD (8 * k + i) := by
  have e : ((zI (8 * ((k : Nat) : Int))).toInt64.toUInt64 &&& Int64.toUInt64 63) = UInt64.ofNat (8 * k) := by
    match k, hk with
    | 0, _ => decide +kernel
    | 1, _ => decide +kernel
    | 2, _ => decide +kernel
    | 3, _ => decide +kernel
    | 4, _ => decide +kernel
    | 5, _ => decide +kernel
    | 6, _ => decide +kernel
    | 7, _ => decide +kernel
  rw [e]
  have e2 : (x.toUInt64 >>> UInt64.ofNat (8 * k)).toInt64.toBitVec = x.toBitVec >>> (8 * k) := by
    show (x.toUInt64 >>> UInt64.ofNat (8 * k)).toBitVec = _
    rw [UInt64.toBitVec_shiftRight]
    match k, hk with
    | 0, _ => rfl
    | 1, _ => rfl
    | 2, _ => rfl
    | 3, _ => rfl
    | 4, _ => rfl
    | 5, _ => rfl
    | 6, _ => rfl
    | 7, _ => rfl
  rw [e2, BitVec.getLsbD_ushiftRight]
theorem sh_s (x : Int64) (k : Nat) (hk : k < 8) (i : Nat) (hi : i < 8) : (x >>> ((zI (8 * ((k : Nat) : Int))).toInt64 &&& 63)).toBitVec.getLsbD i = x.toBitVec.getLsbD (8 * k + i) := by
  have e : ((zI (8 * ((k : Nat) : Int))).toInt64 &&& 63) = Int64.ofNat (8 * k) := by
    match k, hk with
    | 0, _ => decide +kernel
    | 1, _ => decide +kernel
    | 2, _ => decide +kernel
    | 3, _ => decide +kernel
    | 4, _ => decide +kernel
    | 5, _ => decide +kernel
    | 6, _ => decide +kernel
    | 7, _ => decide +kernel
  rw [e]
  have e2 : (x >>> Int64.ofNat (8 * k)).toBitVec = x.toBitVec.sshiftRight (8 * k) := by
    rw [Int64.toBitVec_shiftRight]
    match k, hk with
    | 0, _ => rfl
    | 1, _ => rfl
    | 2, _ => rfl
    | 3, _ => rfl
    | 4, _ => rfl
    | 5, _ => rfl
    | 6, _ => rfl
    | 7, _ => rfl
  rw [e2, BitVec.getLsbD_sshiftRight, if_pos (by omega)]
  simp only [show ¬ 64 ≤ i by omega, decide_false, Bool.not_false, Bool.true_and]
theorem l2i_bits (v : Int64) (i : Nat) (hi : i < 32) : v.toInt32.toBitVec.getLsbD i = v.toBitVec.getLsbD i := by
  have e : v.toInt32.toBitVec = v.toBitVec.signExtend 32 := rfl
  rw [e, BitVec.getLsbD_signExtend, if_pos (by omega)]
  simp only [hi, decide_true, Bool.true_and]
theorem cd_eq (x : Int64) (k : Nat) (hk : k < 8) : ((x.toUInt64 >>> ((zI (8 * ((k : Nat) : Int))).toInt64.toUInt64 &&& Int64.toUInt64 63)).toInt64.toInt32 &&& zI 255) = zI ((by8 x k : Nat) : Int) := by
  refine i32_bits (fun i hi => ?_)
  rw [Int32.toBitVec_and, BitVec.getLsbD_and, lo255, zI_bits, by8_bit, l2i_bits _ _ hi]
  by_cases h : i < 8
  · rw [sh_u x k hk i h, decide_eq_true h, decide_eq_true hi, Bool.and_true, Bool.true_and, Bool.true_and]
  · rw [decide_eq_false h, Bool.and_false, Bool.false_and, Bool.and_false]
theorem bo_eq (x : Int64) (k : Nat) (hk : k < 8) : ((x >>> ((zI (8 * ((k : Nat) : Int))).toInt64 &&& 63)) &&& zL 255).toInt32 = zI ((by8 x k : Nat) : Int) := by
  refine i32_bits (fun i hi => ?_)
  have l255 : (zL 255).toBitVec.getLsbD i = decide (i < 8) := by
    show (BitVec.ofNat 64 255).getLsbD i = _
    rw [BitVec.getLsbD_ofNat, show (255 : Nat) = 2 ^ 8 - 1 by rfl, Nat.testBit_two_pow_sub_one, decide_eq_true (show i < 64 by omega), Bool.true_and]
  rw [l2i_bits _ _ hi, Int64.toBitVec_and, BitVec.getLsbD_and, l255, zI_bits, by8_bit]
  by_cases h : i < 8
  · rw [sh_s x k hk i h, decide_eq_true h, decide_eq_true hi, Bool.and_true, Bool.true_and, Bool.true_and]
  · rw [decide_eq_false h, Bool.and_false, Bool.false_and, Bool.and_false]
/-- nothing stands above the first m bytes -/
theorem up_eq (x : Int64) (m : Nat) (hm : m < 8) : (x.toUInt64 >>> ((zI (8 * ((m : Nat) : Int))).toInt64.toUInt64 &&& Int64.toUInt64 63)).toInt64 = zL 0 ↔ ∀ j, m ≤ j → j < 8 → by8 x j = 0 := by
  have e : ((zI (8 * ((m : Nat) : Int))).toInt64.toUInt64 &&& Int64.toUInt64 63) = UInt64.ofNat (8 * m) := by
    match m, hm with
    | 0, _ => decide +kernel
    | 1, _ => decide +kernel
    | 2, _ => decide +kernel
    | 3, _ => decide +kernel
    | 4, _ => decide +kernel
    | 5, _ => decide +kernel
    | 6, _ => decide +kernel
    | 7, _ => decide +kernel
  rw [e]
  have e2 : (x.toUInt64 >>> UInt64.ofNat (8 * m)).toInt64.toBitVec = x.toBitVec >>> (8 * m) := by
    show (x.toUInt64 >>> UInt64.ofNat (8 * m)).toBitVec = _
    rw [UInt64.toBitVec_shiftRight]
    match m, hm with
    | 0, _ => rfl
    | 1, _ => rfl
    | 2, _ => rfl
    | 3, _ => rfl
    | 4, _ => rfl
    | 5, _ => rfl
    | 6, _ => rfl
    | 7, _ => rfl
  constructor
  · intro h j h1 h2
    apply Nat.eq_of_testBit_eq
    intro i
    rw [by8_bit, Nat.zero_testBit]
    by_cases hi : i < 8
    · have h3 := congrArg (fun v => v.toBitVec.getLsbD (8 * (j - m) + i)) h
      simp only [e2, BitVec.getLsbD_ushiftRight] at h3
      rw [show 8 * m + (8 * (j - m) + i) = 8 * j + i by omega] at h3
      rw [h3]
      have : (zL 0).toBitVec.getLsbD (8 * (j - m) + i) = false := by
        show (BitVec.ofNat 64 0).getLsbD _ = false
        rw [BitVec.getLsbD_ofNat, Nat.zero_testBit, Bool.and_false]
      rw [this, Bool.and_false]
    · rw [decide_eq_false hi, Bool.false_and]
  · intro h
    apply Int64.toBitVec_inj.mp
    rw [e2]
    refine BitVec.eq_of_getLsbD_eq (fun i hi => ?_)
    rw [BitVec.getLsbD_ushiftRight]
    have : (zL 0).toBitVec.getLsbD i = false := by
      show (BitVec.ofNat 64 0).getLsbD _ = false
      rw [BitVec.getLsbD_ofNat, Nat.zero_testBit, Bool.and_false]
    rw [this]
    by_cases c : 8 * m + i < 64
    · have h3 := congrArg (fun v => v.testBit ((8 * m + i) % 8)) (h ((8 * m + i) / 8) (by omega) (by omega))
      simp only [by8_bit, Nat.zero_testBit] at h3
      rw [decide_eq_true (show (8 * m + i) % 8 < 8 by omega), Bool.true_and, show 8 * ((8 * m + i) / 8) + (8 * m + i) % 8 = 8 * m + i by omega] at h3
      exact h3
    · exact BitVec.getLsbD_of_ge _ _ (by omega)
/-- a number that tells m characters -/
def goC (x : Int64) (m : Nat) : Prop := (∀ j, j < m → 33 ≤ by8 x j ∧ by8 x j ≤ 126) ∧ ∀ j, m ≤ j → j < 8 → by8 x j = 0
theorem pCh_ex (x : Int64) : ∃ n : Nat, (n = 0 ∧ ∀ m, 1 ≤ m → m ≤ 8 → ¬ goC x m) ∨ (1 ≤ n ∧ n ≤ 8 ∧ goC x n) := by
  by_cases h : ∃ m, 1 ≤ m ∧ m ≤ 8 ∧ goC x m
  · obtain ⟨m, a, b, c⟩ := h
    exact ⟨m, Or.inr ⟨a, b, c⟩⟩
  · exact ⟨0, Or.inl ⟨rfl, fun m a b c => h ⟨m, a, b, c⟩⟩⟩
noncomputable def pCh (x : Int64) : Nat := (pCh_ex x).choose
theorem goC_uni {x : Int64} {m n : Nat} (hm : m ≤ 8) (hn : n ≤ 8) (h1 : goC x m) (h2 : goC x n) : m = n := by
  rcases Nat.lt_trichotomy m n with l | l | l
  · have a := h2.1 m l
    have b := h1.2 m (Nat.le_refl _) (by omega)
    omega
  · exact l
  · have a := h1.1 n l
    have b := h2.2 n (Nat.le_refl _) (by omega)
    omega
theorem pCh_ok {x : Int64} {m : Nat} (h1 : 1 ≤ m) (h2 : m ≤ 8) (h : goC x m) : pCh x = m := by
  rcases (pCh_ex x).choose_spec with ⟨-, a⟩ | ⟨a, b, c⟩
  · exact absurd h (a m h1 h2)
  · exact goC_uni b h2 c h
theorem pCh_no {x : Int64} (h : ∀ m, 1 ≤ m → m ≤ 8 → ¬ goC x m) : pCh x = 0 := by
  rcases (pCh_ex x).choose_spec with ⟨a, -⟩ | ⟨a, b, c⟩
  · exact a
  · exact absurd c (h _ a b)
theorem pCh_s (x : Int64) : pCh x ≤ 8 ∧ (1 ≤ pCh x → goC x (pCh x)) := by
  rcases (pCh_ex x).choose_spec with ⟨a, -⟩ | ⟨a, b, c⟩
  · have e : pCh x = 0 := a
    rw [e]
    exact ⟨by omega, fun h => absurd h (by omega)⟩
  · exact ⟨b, fun _ => c⟩
/-- a byte that is none of a text's -/
theorem pCh_bad {x : Int64} {j : Nat} (hj : j < 8) (h0 : ¬ by8 x j = 0) (hb : ¬ (33 ≤ by8 x j ∧ by8 x j ≤ 126)) : pCh x = 0 := pCh_no (fun m a b c => by
  by_cases l : j < m
  · exact hb (c.1 j l)
  · exact h0 (c.2 j (by omega) hj))
