/-! ===== saved states ===== -/
theorem wFl_put2 {D : zD} {ad : Nat → Nat → Nat} {Rg : Nat → Nat → Int} {Gs : Nat → Nat → Int32} {js : List Nat} (hnd : js.Nodup) {k : Nat} (hk : k ∈ js) {S : Nat → Int} : (wStA D (ad k) S (Gs k) ++ wFl D ad Rg Gs (js.erase k)).Perm (wFl D ad (uR Rg k S) Gs js) := by
  have h := (wFl_perm (D := D) (ad := ad) (Rg := uR Rg k S) (Gs := Gs) (js := js) (k := k) hk).symm
  have e1 : uR Rg k S k = S := if_pos rfl
  have e2 : wFl D ad (uR Rg k S) Gs (js.erase k) = wFl D ad Rg Gs (js.erase k) := wFl_cong (fun j hj => by
    have := hnd.mem_erase_iff.mp hj
    exact if_neg this.1)
  rw [e1, e2] at h
  exact h
theorem pp_ff {α : Type} {a b c f g : List α} (h : a.Perm (b ++ c)) : (a ++ (f ++ g)).Perm ((b ++ f) ++ (c ++ g)) := by
  refine (List.Perm.append_right (f ++ g) h).trans ?_
  rw [List.append_assoc, List.append_assoc]
  exact List.Perm.append_left b (List.perm_append_comm_assoc c f g)
theorem pp_in3 {α : Type} {fr now u fl blk rest : List α} (hp : fl.Perm (blk ++ rest)) : ((fr ++ now) ++ (u ++ fl)).Perm ((now ++ blk) ++ (fr ++ (u ++ rest))) := by
  have h1 : (u ++ fl).Perm (blk ++ (u ++ rest)) := (List.Perm.append_left u hp).trans (List.perm_append_comm_assoc u blk rest)
  exact pp_in2 h1
theorem idx_permW {pw pw' : va_W} (is : List Nat) (hp : is.Perm (List.range pw.length)) (e : is.filterMap (fun i => pw[i]?) = pw') : pw.Perm pw' := idx_perm is hp e
