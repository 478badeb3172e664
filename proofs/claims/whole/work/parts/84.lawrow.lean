/-! ===== the law's rows ===== -/
abbrev lwA (s : State) : Nat → Prop := fun q => s.heap.size ≤ q
section ZLW
variable {p : Program} {l : Launch} {e : Env} {R : Room} {s : State} {m : MethodId} {args : Array Value} {below : List Frame} {meth : Method} {c : Code} {H : Heap} {locs : List Loc} {cells slots : Nat} {Q : State → Prop}
variable {cc : ByteArray} {pc : Nat} {ls : Array Slot} {rest : List Value} {D : zD} {ws : va_W}
theorem z_sld {b L : Nat} {xs : Nat → Int32} (hx : p.tables.exec = Jvm.exec) (hb : c.code = cc) (hX : va_X b L xs s s.heap) (hbl : b < s.heap.size) (w : zW D (lwA s) s.heap s ws H locs) {i x : Int} (j : Nat) (hij : i = (j : Int)) (hj : j < L) (hL : L ≤ 2560) (hxj : xs j = zI x) (hdg : decode cc pc = .ok (.iaload, 1))
    (kk : W p l e R s m args below meth c H locs cells slots Q (F0 m (pc + 1) ls (.int (zI x) :: rest))) : W p l e R s m args below meth c H locs cells slots Q (F0 m pc ls (.int (zI i) :: .ref b :: rest)) := by
  subst hij
  refine va_sld hx hb hX hbl (Nat.not_le.mpr hbl) w.2.2.2.1 (zI_in hj (by omega)) hdg ?_
  rw [zI_clamp (by omega), hxj]
  exact kk
theorem z_slen {b L : Nat} {xs : Nat → Int32} (hx : p.tables.exec = Jvm.exec) (hb : c.code = cc) (hX : va_X b L xs s s.heap) (hbl : b < s.heap.size) (w : zW D (lwA s) s.heap s ws H locs) (hdg : decode cc pc = .ok (.arraylength, 1))
    (kk : W p l e R s m args below meth c H locs cells slots Q (F0 m (pc + 1) ls (.int (zI ((L : Nat) : Int)) :: rest))) : W p l e R s m args below meth c H locs cells slots Q (F0 m pc ls (.ref b :: rest)) := by
  refine va_slen hx hb hX hbl (Nat.not_le.mpr hbl) w.2.2.2.1 hdg ?_
  rw [zI_nat] at kk
  exact kk
theorem z_same_i {v : Int32} {off : Int} {tgt : Nat} (hx : p.tables.exec = Jvm.exec) (hb : c.code = cc) (hdg : decode cc pc = .ok (.if_icmp .eq off, 3)) (ht : (pc : Int) + off = (tgt : Int)) (kk : W p l e R s m args below meth c H locs cells slots Q (F0 m tgt ls rest)) : W p l e R s m args below meth c H locs cells slots Q (F0 m pc ls (.int v :: .int v :: rest)) :=
  lv_icmp_eq hx hb hdg ht (fun _ => kk) (fun h => absurd rfl h)
theorem z_same_l {v : Int64} {off : Int} {tgt : Nat} (hx : p.tables.exec = Jvm.exec) (hb : c.code = cc) (hd1 : decode cc pc = .ok (.lcmp, 1)) (hdg : decode cc (pc + 1) = .ok (.ifCond .eq off, 3)) (ht : ((pc + 1 : Nat) : Int) + off = (tgt : Int)) (kk : W p l e R s m args below meth c H locs cells slots Q (F0 m tgt ls rest)) : W p l e R s m args below meth c H locs cells slots Q (F0 m pc ls (.long v :: .long v :: rest)) := by
  refine W.lcmp hx hb hd1 ?_
  exact lv_if_eq hx hb hdg ht (fun _ => kk) (fun h => absurd (lg_ne.1.mpr rfl) h)
theorem i32_x (v : Int32) : ∃ x : Int, v = zI x ∧ zB x := ⟨v.toInt, (Int32.ofInt_toInt v).symm, by
  have h1 := Int32.le_toInt v
  have h2 := Int32.toInt_lt v
  show -2147483648 ≤ v.toInt ∧ v.toInt ≤ 2147483647
  omega⟩
end ZLW
theorem pq_n {α : Type} {a b c f g h : List α} (hq : a.Perm (b ++ c)) : ((a ++ (f ++ g)) ++ h).Perm (b ++ (c ++ (f ++ (g ++ h)))) := by
  have h1 := hq.append_right (f ++ (g ++ h))
  rw [List.append_assoc b c] at h1
  rw [List.append_assoc a, List.append_assoc f]
  exact h1
theorem pq_f {α : Type} {a b c f g h : List α} (hq : a.Perm (b ++ c)) : ((a ++ (f ++ g)) ++ h).Perm ((b ++ f) ++ (c ++ (g ++ h))) := by
  rw [List.append_assoc a, List.append_assoc f]
  exact pp_ff hq
theorem pq_g {α : Type} {a b c f g h : List α} (hq : a.Perm (b ++ c)) : ((a ++ (f ++ g)) ++ h).Perm ((b ++ g) ++ (c ++ (f ++ h))) := by
  have h1 : ((a ++ (f ++ g)) ++ h).Perm ((a ++ (g ++ f)) ++ h) := List.Perm.append_right h (List.Perm.append_left a List.perm_append_comm)
  exact h1.trans (pq_f hq)
theorem pq_b {α : Type} {a b c f g h : List α} (hq : a.Perm (b ++ c)) : ((a ++ (f ++ g)) ++ h).Perm ((b ++ (f ++ g)) ++ (c ++ h)) := by
  have h1 := pp_ff (f := f ++ g) (g := h) hq
  rw [← List.append_assoc a] at h1
  exact h1
theorem pq_r {α : Type} {y h b c : List α} (hq : h.Perm (b ++ c)) : (y ++ h).Perm (b ++ (c ++ y)) := by
  have h1 : (y ++ h).Perm (h ++ y) := List.perm_append_comm
  have h2 := hq.append_right y
  rw [List.append_assoc b c] at h2
  exact h1.trans h2
