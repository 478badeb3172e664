/-! ===== the text ===== -/
def fT (T : Nat → Nat) : Nat → Int32 := fun k => zI ((T k : Nat) : Int)
def uT (T : Nat → Nat) (k v : Nat) : Nat → Nat := fun j => if j = k then v else T j
theorem i2c_n {n : Nat} (h : n < 65536) : ((zI (n : Int)).toUInt32 % 65536).toInt32 = zI (n : Int) := by
  rw [zI_nat]
  apply Int32.toBitVec_inj.mp
  show (BitVec.ofNat 32 n) % (BitVec.ofNat 32 65536) = BitVec.ofNat 32 n
  apply BitVec.eq_of_toNat_eq
  rw [BitVec.toNat_umod, BitVec.toNat_ofNat, BitVec.toNat_ofNat, Nat.mod_eq_of_lt (show n < 2 ^ 32 by omega)]
  exact Nat.mod_eq_of_lt h
theorem nar_c {n : Nat} (h : n < 65536) : vp_nar .char (zI (n : Int)) = zI (n : Int) := i2c_n h
theorem fT_u {T : Nat → Nat} {k v i : Nat} (hv : v < 65536) : upd (fT T) k (vp_nar .char (zI ((v : Nat) : Int))) i = fT (uT T k v) i := by
  rw [nar_c hv]
  unfold fT uT
  by_cases h : i = k
  · subst h; rw [upd_s, if_pos rfl]
  · rw [upd_n _ _ h, if_neg h]
theorem fT_u0 {T : Nat → Nat} {k v i : Nat} : upd (fT T) k (zI ((v : Nat) : Int)) i = fT (uT T k v) i := by
  unfold fT uT
  by_cases h : i = k
  · subst h; rw [upd_s, if_pos rfl]
  · rw [upd_n _ _ h, if_neg h]
noncomputable def putT (T : Nat → Nat) (pl : Nat) (x : Int64) (i : Nat) : Nat → Nat := fun j => if pl ≤ j ∧ j < pl + i then by8 x (pCh x - 1 - (j - pl)) else T j
theorem putT_0 (T : Nat → Nat) (pl : Nat) (x : Int64) : putT T pl x 0 = T := by
  funext j
  exact if_neg (by omega)
theorem putT_s (T : Nat → Nat) (pl : Nat) (x : Int64) (i : Nat) : uT (putT T pl x i) (pl + i) (by8 x (pCh x - 1 - i)) = putT T pl x (i + 1) := by
  funext j
  unfold uT putT
  by_cases h : j = pl + i
  · subst h
    rw [if_pos rfl, if_pos (by omega), Nat.add_sub_cancel_left]
  · rw [if_neg h]
    by_cases c : pl ≤ j ∧ j < pl + i
    · rw [if_pos c, if_pos (by omega)]
    · rw [if_neg c, if_neg (by omega)]
noncomputable def qPut (pl : Nat) (x : Int64) : Int := if pCh x = 0 then -2 else if 80 < pl + pCh x then -4 else ((pl + pCh x : Nat) : Int)
noncomputable def ePl (pl : Nat) (x : Int64) : Nat := if pCh x = 0 ∨ 80 < pl + pCh x then pl else pl + pCh x
noncomputable def eTx (T : Nat → Nat) (pl : Nat) (x : Int64) : Nat → Nat := if pCh x = 0 ∨ 80 < pl + pCh x then T else putT T pl x (pCh x)
/-- a text's characters -/
def OkT (T : Nat → Nat) (pl : Nat) : Prop := pl ≤ 80 ∧ ∀ j, j < pl → 33 ≤ T j ∧ T j ≤ 126
theorem OkT_put {T : Nat → Nat} {pl : Nat} (h : OkT T pl) (x : Int64) : OkT (eTx T pl x) (ePl pl x) := by
  unfold eTx ePl
  by_cases c : pCh x = 0 ∨ 80 < pl + pCh x
  · rw [if_pos c, if_pos c]; exact h
  · rw [if_neg c, if_neg c]
    refine ⟨by omega, fun j hj => ?_⟩
    unfold putT
    by_cases d : pl ≤ j ∧ j < pl + pCh x
    · rw [if_pos d]
      exact ((pCh_s x).2 (by omega)).1 _ (by omega)
    · rw [if_neg d]
      exact h.2 j (by omega)
