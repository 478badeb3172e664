/-! ===== the search for the best ===== -/
def sPre (S : Nat → Int) (k : Nat) : Int := sSum k (fun i => sC S 0 i)
abbrev sRoom (S L : Nat → Int) (k : Nat) : Prop := (sC S 1 k ≤ L 0 ∧ sC S 2 k ≤ L 1) ∧ sC S 3 k ≤ L 2
def sLv (S L : Nat → Int) (k : Nat) (t : Int) : Nat → Int := fun d => L d + t * sC S (1 + d) k
def sGr (S : Nat → Int) : Nat → (Nat → Int) → Int → Int → Int
  | 0, _, w, kn => max kn w
  | k + 1, L, w, kn => if w + sPre S (k + 1) ≤ kn then kn else sGr S k L w (if sRoom S L k then sGr S k (sLv S L k (-1)) (w + sC S 0 k) kn else kn)
def sLe (S : Nat → Int) : Nat → (Nat → Int) → Int → Nat → Int
  | 0, _, ms, set => if ms ≤ 0 then ((set : Nat) : Int) else -1
  | k + 1, L, ms, set => if ms ≤ 0 then ((set : Nat) : Int) else if sPre S (k + 1) < ms then -1 else
      if sLe S k L ms set = -1 ∧ sRoom S L k then sLe S k (sLv S L k (-1)) (ms - sC S 0 k) (set ||| 2 ^ k) else sLe S k L ms set
def sLim (S : Nat → Int) (d : Nat) (u : Int) : Nat → Int := fun j => if j = d then S (65 + j) + u else S (65 + j)
def OkL (L : Nat → Int) : Prop := (0 ≤ L 0 ∧ L 0 ≤ 2000) ∧ (0 ≤ L 1 ∧ L 1 ≤ 2000) ∧ 0 ≤ L 2 ∧ L 2 ≤ 2000
theorem sLv_back (S L : Nat → Int) (k : Nat) : sLv S (sLv S L k (-1)) k 1 = L := by
  funext d
  unfold sLv
  omega
theorem sPre_b {S : Nat → Int} (h : OkP S) {k : Nat} (hk : k ≤ 16) : 0 ≤ sPre S k ∧ sPre S k ≤ 15984 := by
  have := sSum_b (f := fun i => sC S 0 i) (b := 999) k (fun i hi => by
    have := sC_b h (i := i) (what := 0) (by omega) (by omega)
    show 0 ≤ sC S 0 i ∧ sC S 0 i ≤ 999
    omega)
  unfold sPre
  omega
theorem OkL_lv {S L : Nat → Int} (h : OkP S) (hL : OkL L) {k : Nat} (hk : k < 16) (hr : sRoom S L k) : OkL (sLv S L k (-1)) := by
  have a := h.2.1 k hk
  unfold OkL at hL ⊢
  unfold sLv
  have e1 : (1 + 0 : Nat) = 1 := rfl
  have e2 : (1 + 1 : Nat) = 2 := rfl
  have e3 : (1 + 2 : Nat) = 3 := rfl
  rw [e1, e2, e3]
  omega
theorem sGr_b {S : Nat → Int} : ∀ (k : Nat) (L : Nat → Int) (w kn : Int), OkP S → k ≤ 16 → 0 ≤ w → w + 1000 * k ≤ 100000 → 0 ≤ kn → kn ≤ 200000 → 0 ≤ sGr S k L w kn ∧ sGr S k L w kn ≤ 200000
  | 0, L, w, kn, _, _, _, _, _, _ => by unfold sGr; omega
  | k + 1, L, w, kn, h, hk, h1, h2, h3, h4 => by
    have hc := sC_b h (i := k) (what := 0) (by omega) (by omega)
    have ia := sGr_b k (sLv S L k (-1)) (w + sC S 0 k) kn h (by omega) (by omega) (by omega) h3 h4
    unfold sGr
    split
    · omega
    · split
      · exact sGr_b k L w _ h (by omega) h1 (by omega) ia.1 ia.2
      · exact sGr_b k L w kn h (by omega) h1 (by omega) h3 h4
theorem sLe_b {S : Nat → Int} : ∀ (k : Nat) (L : Nat → Int) (ms : Int) (set : Nat), k ≤ 16 → set < 65536 → -1 ≤ sLe S k L ms set ∧ sLe S k L ms set ≤ 65535
  | 0, L, ms, set, _, h => by unfold sLe; split <;> omega
  | k + 1, L, ms, set, hk, h => by
    have h1 := sLe_b (S := S) k L ms set (by omega) h
    have h2 := sLe_b (S := S) k (sLv S L k (-1)) (ms - sC S 0 k) (set ||| 2 ^ k) (by omega) (zor_16 h (by omega))
    unfold sLe
    split
    · omega
    · split
      · omega
      · split <;> omega
def wSe (D : zD) (hse hlf hwb : Nat) (L W : Nat → Int32) : va_W := [(hse, .inr (4, [.ref hlf, .ref hwb])), (hlf, .inl (D.2 0, 3, .inl L)), (hwb, .inl (D.2 0, 17, .inl W))]
theorem fMu_lv {S L : Nat → Int} {k : Nat} {t : Int} {i : Nat} (hi : i < 3) : upd (upd (upd (fMu L) 0 (zI (L 0 + t * sC S 1 k))) 1 (zI (L 1 + t * sC S 2 k))) 2 (zI (L 2 + t * sC S 3 k)) i = fMu (sLv S L k t) i :=
  upd3 (g := fMu (sLv S L k t)) (fMu_at (M := sLv S L k t) (by omega)).symm (fMu_at (M := sLv S L k t) (by omega)).symm (fMu_at (M := sLv S L k t) (by omega)).symm hi
theorem fLm_lim (S : Nat → Int) (d : Nat) : fLm S = fMu (sLim S d 0) := by
  funext i
  unfold fLm fMu sLim
  by_cases h : i < 3
  · rw [if_pos h, if_pos h]
    split
    · congr 1; omega
    · rfl
  · rw [if_neg h, if_neg h]
theorem fMu_lim {S : Nat → Int} {d : Nat} (hd : d < 3) {u : Int} {i : Nat} (hi : i < 3) : upd (fMu (sLim S d 0)) d (zI (S (65 + d) + u)) i = fMu (sLim S d u) i := by
  have e1 : fMu (sLim S d u) i = zI (sLim S d u i) := if_pos hi
  have e2 : fMu (sLim S d 0) i = zI (sLim S d 0 i) := if_pos hi
  rw [e1]
  by_cases h : i = d
  · subst h
    rw [upd_s]
    unfold sLim
    rw [if_pos rfl]
  · rw [upd_n _ _ h, e2]
    unfold sLim
    rw [if_neg h, if_neg h]
theorem OkL_lim {S : Nat → Int} (h : OkP S) {d : Nat} {u : Int} (hu : 0 ≤ u ∧ u ≤ 99) : OkL (sLim S d u) := by
  have hl := h.2.2
  have e0 : S (65 + 0) = S 65 := rfl
  have e1 : S (65 + 1) = S 66 := rfl
  have e2 : S (65 + 2) = S 67 := rfl
  unfold OkL sLim
  rw [e0, e1, e2]
  refine ⟨?_, ?_, ?_⟩ <;> split <;> omega
theorem sGr_s (S : Nat → Int) (k : Nat) (L : Nat → Int) (w kn : Int) : sGr S (k + 1) L w kn = if w + sPre S (k + 1) ≤ kn then kn else sGr S k L w (if sRoom S L k then sGr S k (sLv S L k (-1)) (w + sC S 0 k) kn else kn) := rfl
theorem sLe_s (S : Nat → Int) (k : Nat) (L : Nat → Int) (ms : Int) (set : Nat) : sLe S (k + 1) L ms set = if ms ≤ 0 then ((set : Nat) : Int) else if sPre S (k + 1) < ms then -1 else if sLe S k L ms set = -1 ∧ sRoom S L k then sLe S k (sLv S L k (-1)) (ms - sC S 0 k) (set ||| 2 ^ k) else sLe S k L ms set := rfl
theorem sLe_0 (S : Nat → Int) (L : Nat → Int) (ms : Int) (set : Nat) : sLe S 0 L ms set = if ms ≤ 0 then ((set : Nat) : Int) else -1 := rfl
