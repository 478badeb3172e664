/-! ===== what there is at first ===== -/
def S0 : Nat → Int := fun j => if j = 65 ∨ j = 66 ∨ j = 67 then 50 else if j = 72 then 100 else if j = 76 then -6 else 0
def Z0 : Nat → Int32 := fun _ => 0
theorem fC_S0 {what : Nat} (hw : what ≤ 3) : fC S0 what = fun _ => 0 := by
  funext i
  unfold fC
  split
  · have e : sC S0 what i = 0 := by
      unfold sC S0
      rw [if_neg (by omega), if_neg (by omega), if_neg (by omega)]
    rw [e]
    rfl
  · rfl
theorem fMu_S0 : fMu (mu S0) = fun _ => 0 := by
  funext i
  unfold fMu
  split
  · have e : mu S0 i = 0 := by
      unfold mu S0
      rw [if_neg (by omega), if_neg (by omega), if_neg (by omega)]
    rw [e]
    rfl
  · rfl
theorem fSt_S0 : fSt S0 = fun _ => 0 := by
  funext i
  unfold fSt
  split
  · have e : S0 (78 + i) = 0 := by
      unfold S0
      rw [if_neg (by omega), if_neg (by omega), if_neg (by omega)]
    rw [e]
    rfl
  · rfl
theorem OkS_0 : OkS 0 S0 := by
  have e : ∀ j, ¬ (j = 65 ∨ j = 66 ∨ j = 67) → ¬ j = 72 → ¬ j = 76 → S0 j = 0 := fun j a b c => by
    unfold S0
    rw [if_neg a, if_neg b, if_neg c]
  have hs : ∀ what i, what ≤ 3 → i < 16 → sC S0 what i = 0 := fun what i hw hi => e _ (by omega) (by omega) (by omega)
  refine ⟨⟨by rw [e 0 (by omega) (by omega) (by omega)]; omega, fun i hi => ?_, ?_⟩, ?_, ⟨?_, fun k hk => ?_, fun a b hab hbk => ?_⟩, ?_, ?_⟩
  · rw [hs 0 i (by omega) hi, hs 1 i (by omega) hi, hs 2 i (by omega) hi, hs 3 i (by omega) hi]
    omega
  · exact ⟨⟨by decide, by decide⟩, ⟨by decide, by decide⟩, by decide, by decide⟩
  · exact ⟨⟨by decide, by decide⟩, ⟨by decide, by decide⟩, by decide, by decide⟩
  · exact ⟨by decide, by decide⟩
  · rw [e _ (by omega) (by omega) (by omega)]; omega
  · have ek : zk S0 = 0 := rfl
    rw [ek] at hbk
    omega
  · exact ⟨⟨by decide, by decide⟩, ⟨by decide, by decide⟩, ⟨by decide, by decide⟩, ⟨by decide, by decide⟩, by decide, by decide⟩
  · exact Or.inl (by decide)
/-- the reference's first numbers, ahead of forgets -/
def S1 : Nat → Int := fun j => if j = 65 ∨ j = 66 ∨ j = 67 then 50 else if j = 72 then 100 else 0
theorem sBd_S1 : sBd S1 (mu S1) = 0 := rfl
theorem sFg_S1 : sFg S1 = S0 := by
  funext j
  unfold sFg
  rw [sBd_S1]
  unfold zu S0 S1
  by_cases a : j = 75
  · subst a; rfl
  · rw [if_neg a]
    by_cases b : j = 76
    · subst b; rfl
    · rw [if_neg b, if_neg b]
      by_cases c : j = 73
      · subst c; rfl
      · rw [if_neg c]
theorem OkP_S1 : OkP S1 := Ag_OkP (T := S0) (fun j hj => by unfold S1 S0; by_cases a : j = 65 ∨ j = 66 ∨ j = 67; rw [if_pos a, if_pos a]; rw [if_neg a, if_neg a, if_neg (by omega), if_neg (by omega), if_neg (by omega)]) OkS_0.1
theorem OkM_S1 : OkM (mu S1) := ⟨⟨by decide, by decide⟩, ⟨by decide, by decide⟩, by decide, by decide⟩
theorem pp_x6 {α : Type} {pw B1 B2 B3 F : List α} : (pw ++ (B3 ++ (B2 ++ (F ++ (B1 ++ []))))).Perm ((pw ++ B1) ++ (F ++ (B2 ++ (B3 ++ [])))) := by
  rw [List.append_nil, List.append_nil, List.append_assoc]
  refine List.Perm.append_left pw ?_
  have h1 : (B3 ++ (B2 ++ (F ++ B1))).Perm ((B3 ++ B2) ++ (B1 ++ F)) := by
    rw [List.append_assoc]
    exact List.Perm.append_left _ (List.Perm.append_left _ List.perm_append_comm)
  have h2 : ((B1 ++ F) ++ (B3 ++ B2)).Perm ((B1 ++ F) ++ (B2 ++ B3)) := List.Perm.append_left _ List.perm_append_comm
  exact (h1.trans (List.perm_append_comm.trans h2)).trans (by rw [List.append_assoc])
theorem pp_nt {α : Type} {a t c f : List α} : ((a ++ t) ++ (c ++ f)).Perm ((a ++ c) ++ (f ++ t)) := by
  rw [List.append_assoc, List.append_assoc]
  refine List.Perm.append_left a ?_
  have h : (t ++ (c ++ f)).Perm ((c ++ f) ++ t) := List.perm_append_comm
  rw [List.append_assoc c f t] at h
  exact h
