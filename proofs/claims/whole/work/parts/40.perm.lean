/-! ===== worlds in another order, with a part that is a list of unknown length ===== -/
theorem va_P_mem {D : va_G} {cl : List vw_C} {ws : va_W} {H : Heap} : va_P D cl ws H ↔ ∀ q ∈ ws, va_at D cl q H := by
  constructor
  · intro h q hq
    obtain ⟨k, hk⟩ := List.getElem?_of_mem hq
    exact h k q hk
  · intro h k q hk
    exact h q (List.mem_of_getElem? hk)
theorem va_D_nd {A : Nat → Prop} {ws : va_W} : va_D A ws ↔ (ws.map Prod.fst).Nodup ∧ ∀ q ∈ ws, A q.1 := by
  constructor
  · intro h
    refine ⟨?_, fun q hq => ?_⟩
    · rw [List.nodup_iff_pairwise_ne, List.pairwise_iff_getElem]
      intro i j hi hj hij e
      rw [List.length_map] at hi hj
      rw [List.getElem_map, List.getElem_map] at e
      have := h.1 i j _ _ (List.getElem?_eq_getElem hi) (List.getElem?_eq_getElem hj) e
      omega
    · obtain ⟨k, hk⟩ := List.getElem?_of_mem hq
      exact h.2 k q hk
  · intro h
    refine ⟨fun i j p q hi hj e => ?_, fun k q hk => h.2 q (List.mem_of_getElem? hk)⟩
    have hn := h.1
    rw [List.nodup_iff_pairwise_ne, List.pairwise_iff_getElem] at hn
    obtain ⟨hi1, hi2⟩ := List.getElem?_eq_some_iff.mp hi
    obtain ⟨hj1, hj2⟩ := List.getElem?_eq_some_iff.mp hj
    rcases Nat.lt_trichotomy i j with l | l | l
    · exact absurd (by rw [List.getElem_map, List.getElem_map, hi2, hj2]; exact e) (hn i j (by rw [List.length_map]; exact hi1) (by rw [List.length_map]; exact hj1) l)
    · exact l
    · exact absurd (by rw [List.getElem_map, List.getElem_map, hi2, hj2]; exact e.symm) (hn j i (by rw [List.length_map]; exact hj1) (by rw [List.length_map]; exact hi1) l)
theorem zW.perm {D : zD} {A : Nat → Prop} {H0 : Heap} {s : State} {ws ws' : va_W} {H : Heap} {locs : List Loc} (h : zW D A H0 s ws H locs) (hp : ws.Perm ws') : zW D A H0 s ws' H locs := by
  refine ⟨h.1, ?_, ?_, h.2.2.2⟩
  · rw [va_P_mem]
    intro q hq
    exact va_P_mem.mp h.2.1 q (hp.mem_iff.mpr hq)
  · rw [va_D_nd]
    obtain ⟨a, b⟩ := va_D_nd.mp h.2.2.1
    exact ⟨(hp.map Prod.fst).nodup_iff.mp a, fun q hq => b q (hp.mem_iff.mpr hq)⟩
theorem idx_perm {α : Type} {pw pw' : List α} (is : List Nat) (hp : is.Perm (List.range pw.length)) (e : is.filterMap (fun i => pw[i]?) = pw') : pw.Perm pw' := by
  have h1 : (List.range pw.length).filterMap (fun i => pw[i]?) = pw := by
    apply List.ext_getElem?
    intro i
    have h2 : (List.range pw.length).filterMap (fun i => pw[i]?) = ((List.range pw.length).pmap (fun i (hi : i < pw.length) => pw[i]) (fun i hi => List.mem_range.mp hi)) := by
      have : ∀ (l : List Nat) (hl : ∀ i ∈ l, i < pw.length), l.filterMap (fun i => pw[i]?) = l.pmap (fun i (hi : i < pw.length) => pw[i]) hl := by
        intro l
        induction l with
        | nil => intro _; rfl
        | cons a l ih =>
          intro hl
          have ha := hl a List.mem_cons_self
          simp only [List.filterMap_cons, List.pmap_cons, List.getElem?_eq_getElem ha]
          rw [ih (fun i hi => hl i (List.mem_cons_of_mem _ hi))]
      exact this _ _
    rw [h2]
    by_cases hi : i < pw.length
    · simp [List.getElem?_pmap, hi]
    · simp [List.getElem?_pmap, hi]
  have h3 := hp.filterMap (fun i => pw[i]?)
  rw [h1, e] at h3
  exact h3.symm
theorem zW.pT {D : zD} {A : Nat → Prop} {H0 : Heap} {s : State} {pw pw' tl : va_W} {H : Heap} {locs : List Loc} (h : zW D A H0 s (pw ++ tl) H locs) (is : List Nat) (hp : is.Perm (List.range pw.length)) (e : is.filterMap (fun i => pw[i]?) = pw') : zW D A H0 s (pw' ++ tl) H locs := h.perm ((idx_perm is hp e).append_right tl)
theorem zW.sw {D : zD} {A : Nat → Prop} {H0 : Heap} {s : State} {a b c : va_W} {H : Heap} {locs : List Loc} (h : zW D A H0 s (a ++ (b ++ c)) H locs) : zW D A H0 s ((a ++ c) ++ b) H locs := h.perm (by rw [List.append_assoc]; exact List.Perm.append_left a List.perm_append_comm)
theorem zW.sw2 {D : zD} {A : Nat → Prop} {H0 : Heap} {s : State} {a b c : va_W} {H : Heap} {locs : List Loc} (h : zW D A H0 s ((a ++ b) ++ c) H locs) : zW D A H0 s ((a ++ c) ++ b) H locs := h.perm (by rw [List.append_assoc, List.append_assoc]; exact List.Perm.append_left a List.perm_append_comm)
theorem rng_C {Wc Wr : va_W} : (List.range Wc.length).map (fun i => (Wc ++ Wr)[i]?) = Wc.map some := by
  apply List.ext_getElem?
  intro i
  by_cases hi : i < Wc.length
  · simp [hi, List.getElem?_append_left hi]
  · simp [hi]
theorem rng_R {Wc Wr : va_W} : ((List.range Wr.length).map (fun i => i + Wc.length)).map (fun i => (Wc ++ Wr)[i]?) = Wr.map some := by
  apply List.ext_getElem?
  intro i
  by_cases hi : i < Wr.length
  · simp [hi, List.getElem?_append_right]
  · simp [hi]
theorem nd_of {l : List Nat} (h : l.Nodup) : va_nd l = true := by
  induction l with
  | nil => rfl
  | cons a l ih =>
    rw [List.nodup_cons] at h
    simp only [va_nd, Bool.and_eq_true, decide_eq_true_eq]
    exact ⟨h.1, ih h.2⟩
theorem rng_nd (n : Nat) : va_nd (List.range n) = true := nd_of List.nodup_range
theorem rng_nd2 (n k : Nat) : va_nd ((List.range n).map (fun i => i + k)) = true := by
  apply nd_of
  rw [List.nodup_iff_pairwise_ne, List.pairwise_map]
  exact (List.nodup_iff_pairwise_ne.mp (List.nodup_range (n := n))).imp (fun h e => h (by omega))
theorem rng_dis {n m : Nat} : ∀ i ∈ (List.range m).map (fun i => i + n), i ∉ List.range n := by
  intro i hi hj
  obtain ⟨k, -, rfl⟩ := List.mem_map.mp hi
  have := List.mem_range.mp hj
  omega
section ZKA
variable {p : Program} {l : Launch} {e : Env} {R : Room} {s : State} {m : MethodId} {args : Array Value} {below : List Frame} {meth : Method} {c : Code} {H : Heap} {locs : List Loc} {cells slots : Nat} {Q : State → Prop}
variable {cc : ByteArray} {pc : Nat} {ls : Array Slot} {rest st0 : List Value} {D : zD} {A : Nat → Prop} {Wc Wr W1 : va_W} {H0 : Heap} {nL : Nat} {Ts : List Cond} {own : String}
variable {y : MethodName} {bytes : ByteArray} {maxL n index : Nat} {ret : Option FieldType} {wsy : List Cond} {rm : Room} {C : String} {b : Nat} {As : List Value}
theorem zA_V_i {post : Int32 → va_W → Prop} (S : CallFix p m c cc nL s args Ts own) (hM : zM l y wsy rm zE0 D (.ref b :: As) Wc (zQi D post)) (cw : CallW R s args own C index y bytes maxL ret wsy rm 0 0 n) (w : zW D A H0 s (Wc ++ Wr) H locs) {q0 ci : Nat} {fs : List Value} {q : vw_C} (hrec : (Wc ++ Wr)[q0]? = some (b, .inr (ci, fs))) (hci : vwCl[ci]? = some q) (hqC : q.1 = C) (hlen : As.length = n) (hsize : ls.size = nL) (hst : st0 = As.reverse ++ .ref b :: rest) (hW : 2 * (F0 m pc ls st0).monitorRoom + (rest.map fun v => v.category).sum ≤ 8) (hdg : decode cc pc = .ok (.invokevirtual index, 3)) (hf : cells ≤ R.cells ∧ slots ≤ R.slots)
    (kk : ∀ (r : Int32) (W1 : va_W) (H1 : Heap) (locs1 : List Loc), post r W1 → zW D A H0 s (Wr ++ W1) H1 locs1 → W p l e R s m args below meth c H1 locs1 cells slots Q (F0 m (pc + 3) ls (.int r :: rest))) : W p l e R s m args below meth c H locs cells slots Q (F0 m pc ls st0) :=
  z_V_i S hM cw w hrec hci hqC _ rng_C (rng_nd _) _ rng_R (rng_nd2 _ _) rng_dis hlen hsize hst hW hdg hf kk
theorem zA_V_l {post : Int64 → va_W → Prop} (S : CallFix p m c cc nL s args Ts own) (hM : zM l y wsy rm zE0 D (.ref b :: As) Wc (zQl D post)) (cw : CallW R s args own C index y bytes maxL ret wsy rm 0 0 n) (w : zW D A H0 s (Wc ++ Wr) H locs) {q0 ci : Nat} {fs : List Value} {q : vw_C} (hrec : (Wc ++ Wr)[q0]? = some (b, .inr (ci, fs))) (hci : vwCl[ci]? = some q) (hqC : q.1 = C) (hlen : As.length = n) (hsize : ls.size = nL) (hst : st0 = As.reverse ++ .ref b :: rest) (hW : 2 * (F0 m pc ls st0).monitorRoom + (rest.map fun v => v.category).sum ≤ 8) (hdg : decode cc pc = .ok (.invokevirtual index, 3)) (hf : cells ≤ R.cells ∧ slots ≤ R.slots)
    (kk : ∀ (r : Int64) (W1 : va_W) (H1 : Heap) (locs1 : List Loc), post r W1 → zW D A H0 s (Wr ++ W1) H1 locs1 → W p l e R s m args below meth c H1 locs1 cells slots Q (F0 m (pc + 3) ls (.long r :: rest))) : W p l e R s m args below meth c H locs cells slots Q (F0 m pc ls st0) :=
  z_V_l S hM cw w hrec hci hqC _ rng_C (rng_nd _) _ rng_R (rng_nd2 _ _) rng_dis hlen hsize hst hW hdg hf kk
theorem zA_V_v {post : va_W → Prop} (S : CallFix p m c cc nL s args Ts own) (hM : zM l y wsy rm zE0 D (.ref b :: As) Wc (zQv D post)) (cw : CallW R s args own C index y bytes maxL ret wsy rm 0 0 n) (w : zW D A H0 s (Wc ++ Wr) H locs) {q0 ci : Nat} {fs : List Value} {q : vw_C} (hrec : (Wc ++ Wr)[q0]? = some (b, .inr (ci, fs))) (hci : vwCl[ci]? = some q) (hqC : q.1 = C) (hlen : As.length = n) (hsize : ls.size = nL) (hst : st0 = As.reverse ++ .ref b :: rest) (hW : 2 * (F0 m pc ls st0).monitorRoom + (rest.map fun v => v.category).sum ≤ 8) (hdg : decode cc pc = .ok (.invokevirtual index, 3)) (hf : cells ≤ R.cells ∧ slots ≤ R.slots)
    (kk : ∀ (W1 : va_W) (H1 : Heap) (locs1 : List Loc), post W1 → zW D A H0 s (Wr ++ W1) H1 locs1 → W p l e R s m args below meth c H1 locs1 cells slots Q (F0 m (pc + 3) ls (rest))) : W p l e R s m args below meth c H locs cells slots Q (F0 m pc ls st0) :=
  z_V_v S hM cw w hrec hci hqC _ rng_C (rng_nd _) _ rng_R (rng_nd2 _ _) rng_dis hlen hsize hst hW hdg hf kk
theorem zA_VN_i {host : String} {post : Int32 → va_W → Prop} (S : CallFix p m c cc nL s args Ts own) (hM : zM l y wsy rm zE0 D (.ref b :: As) Wc (zQi D post)) (cw : (va_CN R s args own index y host bytes maxL ret wsy rm 0 0 n ∧ (Cond.instanceMethod y).before args s = true ∧ (Cond.selects C y y).before args s = true)) (w : zW D A H0 s (Wc ++ Wr) H locs) {q0 ci : Nat} {fs : List Value} {q : vw_C} (hrec : (Wc ++ Wr)[q0]? = some (b, .inr (ci, fs))) (hci : vwCl[ci]? = some q) (hqC : q.1 = C) (hlen : As.length = n) (hsize : ls.size = nL) (hst : st0 = As.reverse ++ .ref b :: rest) (hW : 2 * (F0 m pc ls st0).monitorRoom + (rest.map fun v => v.category).sum ≤ 8) (hdg : decode cc pc = .ok (.invokevirtual index, 3)) (hf : cells ≤ R.cells ∧ slots ≤ R.slots)
    (kk : ∀ (r : Int32) (W1 : va_W) (H1 : Heap) (locs1 : List Loc), post r W1 → zW D A H0 s (Wr ++ W1) H1 locs1 → W p l e R s m args below meth c H1 locs1 cells slots Q (F0 m (pc + 3) ls (.int r :: rest))) : W p l e R s m args below meth c H locs cells slots Q (F0 m pc ls st0) :=
  z_VN_i S hM cw w hrec hci hqC _ rng_C (rng_nd _) _ rng_R (rng_nd2 _ _) rng_dis hlen hsize hst hW hdg hf kk
theorem zA_VN_l {host : String} {post : Int64 → va_W → Prop} (S : CallFix p m c cc nL s args Ts own) (hM : zM l y wsy rm zE0 D (.ref b :: As) Wc (zQl D post)) (cw : (va_CN R s args own index y host bytes maxL ret wsy rm 0 0 n ∧ (Cond.instanceMethod y).before args s = true ∧ (Cond.selects C y y).before args s = true)) (w : zW D A H0 s (Wc ++ Wr) H locs) {q0 ci : Nat} {fs : List Value} {q : vw_C} (hrec : (Wc ++ Wr)[q0]? = some (b, .inr (ci, fs))) (hci : vwCl[ci]? = some q) (hqC : q.1 = C) (hlen : As.length = n) (hsize : ls.size = nL) (hst : st0 = As.reverse ++ .ref b :: rest) (hW : 2 * (F0 m pc ls st0).monitorRoom + (rest.map fun v => v.category).sum ≤ 8) (hdg : decode cc pc = .ok (.invokevirtual index, 3)) (hf : cells ≤ R.cells ∧ slots ≤ R.slots)
    (kk : ∀ (r : Int64) (W1 : va_W) (H1 : Heap) (locs1 : List Loc), post r W1 → zW D A H0 s (Wr ++ W1) H1 locs1 → W p l e R s m args below meth c H1 locs1 cells slots Q (F0 m (pc + 3) ls (.long r :: rest))) : W p l e R s m args below meth c H locs cells slots Q (F0 m pc ls st0) :=
  z_VN_l S hM cw w hrec hci hqC _ rng_C (rng_nd _) _ rng_R (rng_nd2 _ _) rng_dis hlen hsize hst hW hdg hf kk
theorem zA_VN_v {host : String} {post : va_W → Prop} (S : CallFix p m c cc nL s args Ts own) (hM : zM l y wsy rm zE0 D (.ref b :: As) Wc (zQv D post)) (cw : (va_CN R s args own index y host bytes maxL ret wsy rm 0 0 n ∧ (Cond.instanceMethod y).before args s = true ∧ (Cond.selects C y y).before args s = true)) (w : zW D A H0 s (Wc ++ Wr) H locs) {q0 ci : Nat} {fs : List Value} {q : vw_C} (hrec : (Wc ++ Wr)[q0]? = some (b, .inr (ci, fs))) (hci : vwCl[ci]? = some q) (hqC : q.1 = C) (hlen : As.length = n) (hsize : ls.size = nL) (hst : st0 = As.reverse ++ .ref b :: rest) (hW : 2 * (F0 m pc ls st0).monitorRoom + (rest.map fun v => v.category).sum ≤ 8) (hdg : decode cc pc = .ok (.invokevirtual index, 3)) (hf : cells ≤ R.cells ∧ slots ≤ R.slots)
    (kk : ∀ (W1 : va_W) (H1 : Heap) (locs1 : List Loc), post W1 → zW D A H0 s (Wr ++ W1) H1 locs1 → W p l e R s m args below meth c H1 locs1 cells slots Q (F0 m (pc + 3) ls (rest))) : W p l e R s m args below meth c H locs cells slots Q (F0 m pc ls st0) :=
  z_VN_v S hM cw w hrec hci hqC _ rng_C (rng_nd _) _ rng_R (rng_nd2 _ _) rng_dis hlen hsize hst hW hdg hf kk
theorem zA_S_i {post : Int32 → va_W → Prop} (S : CallFix p m c cc nL s args Ts own) (hM : zM l y wsy rm zE0 D (As) Wc (zQi D post)) (cw : (CallB R s args own index y bytes maxL ret wsy rm 0 0 n ∧ (Cond.static y).before args s = true)) (w : zW D A H0 s (Wc ++ Wr) H locs)  (hlen : As.length = n) (hsize : ls.size = nL) (hst : st0 = As.reverse ++ rest) (hW : 2 * (F0 m pc ls st0).monitorRoom + (rest.map fun v => v.category).sum ≤ 8) (hdg : decode cc pc = .ok (.invokestatic index, 3)) (hf : cells ≤ R.cells ∧ slots ≤ R.slots)
    (kk : ∀ (r : Int32) (W1 : va_W) (H1 : Heap) (locs1 : List Loc), post r W1 → zW D A H0 s (Wr ++ W1) H1 locs1 → W p l e R s m args below meth c H1 locs1 cells slots Q (F0 m (pc + 3) ls (.int r :: rest))) : W p l e R s m args below meth c H locs cells slots Q (F0 m pc ls st0) :=
  z_S_i S hM cw w _ rng_C (rng_nd _) _ rng_R (rng_nd2 _ _) rng_dis hlen hsize hst hW hdg hf kk
theorem zA_S_l {post : Int64 → va_W → Prop} (S : CallFix p m c cc nL s args Ts own) (hM : zM l y wsy rm zE0 D (As) Wc (zQl D post)) (cw : (CallB R s args own index y bytes maxL ret wsy rm 0 0 n ∧ (Cond.static y).before args s = true)) (w : zW D A H0 s (Wc ++ Wr) H locs)  (hlen : As.length = n) (hsize : ls.size = nL) (hst : st0 = As.reverse ++ rest) (hW : 2 * (F0 m pc ls st0).monitorRoom + (rest.map fun v => v.category).sum ≤ 8) (hdg : decode cc pc = .ok (.invokestatic index, 3)) (hf : cells ≤ R.cells ∧ slots ≤ R.slots)
    (kk : ∀ (r : Int64) (W1 : va_W) (H1 : Heap) (locs1 : List Loc), post r W1 → zW D A H0 s (Wr ++ W1) H1 locs1 → W p l e R s m args below meth c H1 locs1 cells slots Q (F0 m (pc + 3) ls (.long r :: rest))) : W p l e R s m args below meth c H locs cells slots Q (F0 m pc ls st0) :=
  z_S_l S hM cw w _ rng_C (rng_nd _) _ rng_R (rng_nd2 _ _) rng_dis hlen hsize hst hW hdg hf kk
theorem zA_S_v {post : va_W → Prop} (S : CallFix p m c cc nL s args Ts own) (hM : zM l y wsy rm zE0 D (As) Wc (zQv D post)) (cw : (CallB R s args own index y bytes maxL ret wsy rm 0 0 n ∧ (Cond.static y).before args s = true)) (w : zW D A H0 s (Wc ++ Wr) H locs)  (hlen : As.length = n) (hsize : ls.size = nL) (hst : st0 = As.reverse ++ rest) (hW : 2 * (F0 m pc ls st0).monitorRoom + (rest.map fun v => v.category).sum ≤ 8) (hdg : decode cc pc = .ok (.invokestatic index, 3)) (hf : cells ≤ R.cells ∧ slots ≤ R.slots)
    (kk : ∀ (W1 : va_W) (H1 : Heap) (locs1 : List Loc), post W1 → zW D A H0 s (Wr ++ W1) H1 locs1 → W p l e R s m args below meth c H1 locs1 cells slots Q (F0 m (pc + 3) ls (rest))) : W p l e R s m args below meth c H locs cells slots Q (F0 m pc ls st0) :=
  z_S_v S hM cw w _ rng_C (rng_nd _) _ rng_R (rng_nd2 _ _) rng_dis hlen hsize hst hW hdg hf kk
theorem zA_SN_i {host : String} {post : Int32 → va_W → Prop} (S : CallFix p m c cc nL s args Ts own) (hM : zM l y wsy rm zE0 D (As) Wc (zQi D post)) (cw : (va_CN R s args own index y host bytes maxL ret wsy rm 0 0 n ∧ (Cond.static y).before args s = true ∧ True)) (w : zW D A H0 s (Wc ++ Wr) H locs)  (hlen : As.length = n) (hsize : ls.size = nL) (hst : st0 = As.reverse ++ rest) (hW : 2 * (F0 m pc ls st0).monitorRoom + (rest.map fun v => v.category).sum ≤ 8) (hdg : decode cc pc = .ok (.invokestatic index, 3)) (hf : cells ≤ R.cells ∧ slots ≤ R.slots)
    (kk : ∀ (r : Int32) (W1 : va_W) (H1 : Heap) (locs1 : List Loc), post r W1 → zW D A H0 s (Wr ++ W1) H1 locs1 → W p l e R s m args below meth c H1 locs1 cells slots Q (F0 m (pc + 3) ls (.int r :: rest))) : W p l e R s m args below meth c H locs cells slots Q (F0 m pc ls st0) :=
  z_SN_i S hM cw w _ rng_C (rng_nd _) _ rng_R (rng_nd2 _ _) rng_dis hlen hsize hst hW hdg hf kk
theorem zA_SN_l {host : String} {post : Int64 → va_W → Prop} (S : CallFix p m c cc nL s args Ts own) (hM : zM l y wsy rm zE0 D (As) Wc (zQl D post)) (cw : (va_CN R s args own index y host bytes maxL ret wsy rm 0 0 n ∧ (Cond.static y).before args s = true ∧ True)) (w : zW D A H0 s (Wc ++ Wr) H locs)  (hlen : As.length = n) (hsize : ls.size = nL) (hst : st0 = As.reverse ++ rest) (hW : 2 * (F0 m pc ls st0).monitorRoom + (rest.map fun v => v.category).sum ≤ 8) (hdg : decode cc pc = .ok (.invokestatic index, 3)) (hf : cells ≤ R.cells ∧ slots ≤ R.slots)
    (kk : ∀ (r : Int64) (W1 : va_W) (H1 : Heap) (locs1 : List Loc), post r W1 → zW D A H0 s (Wr ++ W1) H1 locs1 → W p l e R s m args below meth c H1 locs1 cells slots Q (F0 m (pc + 3) ls (.long r :: rest))) : W p l e R s m args below meth c H locs cells slots Q (F0 m pc ls st0) :=
  z_SN_l S hM cw w _ rng_C (rng_nd _) _ rng_R (rng_nd2 _ _) rng_dis hlen hsize hst hW hdg hf kk
theorem zA_SN_v {host : String} {post : va_W → Prop} (S : CallFix p m c cc nL s args Ts own) (hM : zM l y wsy rm zE0 D (As) Wc (zQv D post)) (cw : (va_CN R s args own index y host bytes maxL ret wsy rm 0 0 n ∧ (Cond.static y).before args s = true ∧ True)) (w : zW D A H0 s (Wc ++ Wr) H locs)  (hlen : As.length = n) (hsize : ls.size = nL) (hst : st0 = As.reverse ++ rest) (hW : 2 * (F0 m pc ls st0).monitorRoom + (rest.map fun v => v.category).sum ≤ 8) (hdg : decode cc pc = .ok (.invokestatic index, 3)) (hf : cells ≤ R.cells ∧ slots ≤ R.slots)
    (kk : ∀ (W1 : va_W) (H1 : Heap) (locs1 : List Loc), post W1 → zW D A H0 s (Wr ++ W1) H1 locs1 → W p l e R s m args below meth c H1 locs1 cells slots Q (F0 m (pc + 3) ls (rest))) : W p l e R s m args below meth c H locs cells slots Q (F0 m pc ls st0) :=
  z_SN_v S hM cw w _ rng_C (rng_nd _) _ rng_R (rng_nd2 _ _) rng_dis hlen hsize hst hW hdg hf kk
end ZKA
/-! the history's states -/
def wStA (D : zD) (a : Nat → Nat) (S : Nat → Int) (G : Nat → Int32) : va_W := wSt D (a 0) (a 1) (a 2) (a 3) (a 4) (a 5) (a 6) (a 7) (a 8) (a 9) (a 10) (a 11) S G
def wFl (D : zD) (ad : Nat → Nat → Nat) (Rg : Nat → Nat → Int) (Gs : Nat → Nat → Int32) (js : List Nat) : va_W := js.flatMap (fun j => wStA D (ad j) (Rg j) (Gs j))
def fAd (n : Nat) (ad : Nat → Nat → Nat) : Nat → Option Nat := fun k => if k < n then some (ad k 0) else none
def uR (Rg : Nat → Nat → Int) (k : Nat) (S : Nat → Int) : Nat → Nat → Int := fun j => if j = k then S else Rg j
theorem wFl_perm {D : zD} {ad : Nat → Nat → Nat} {Rg : Nat → Nat → Int} {Gs : Nat → Nat → Int32} {js : List Nat} {k : Nat} (hk : k ∈ js) : (wFl D ad Rg Gs js).Perm (wStA D (ad k) (Rg k) (Gs k) ++ wFl D ad Rg Gs (js.erase k)) := by
  have h := (List.perm_cons_erase hk).flatMap_right (fun j => wStA D (ad j) (Rg j) (Gs j))
  exact h
theorem wFl_cong {D : zD} {ad : Nat → Nat → Nat} {Rg Rg' : Nat → Nat → Int} {Gs : Nat → Nat → Int32} : ∀ {js : List Nat}, (∀ j ∈ js, Rg j = Rg' j) → wFl D ad Rg Gs js = wFl D ad Rg' Gs js
  | [], _ => rfl
  | a :: js, h => by
    show wStA D (ad a) (Rg a) (Gs a) ++ wFl D ad Rg Gs js = wStA D (ad a) (Rg' a) (Gs a) ++ wFl D ad Rg' Gs js
    rw [h a List.mem_cons_self, wFl_cong (fun j hj => h j (List.mem_cons_of_mem _ hj))]
theorem wFl_put {D : zD} {ad : Nat → Nat → Nat} {Rg : Nat → Nat → Int} {Gs : Nat → Nat → Int32} {k : Nat} (hk : k < 7) {S : Nat → Int} : (wStA D (ad k) S (Gs k) ++ wFl D ad Rg Gs ((List.range 7).erase k)).Perm (wFl D ad (uR Rg k S) Gs (List.range 7)) := by
  have h := (wFl_perm (D := D) (ad := ad) (Rg := uR Rg k S) (Gs := Gs) (js := List.range 7) (k := k) (List.mem_range.mpr hk)).symm
  have e1 : uR Rg k S k = S := if_pos rfl
  have e2 : wFl D ad (uR Rg k S) Gs ((List.range 7).erase k) = wFl D ad Rg Gs ((List.range 7).erase k) := wFl_cong (fun j hj => by
    have := (List.nodup_range (n := 7)).mem_erase_iff.mp hj
    exact if_neg this.1)
  rw [e1, e2] at h
  exact h
def eN (r : Int) (n : Nat) : Nat := if r < 0 then n else (n + 1) % 7
theorem eN_ok {r : Int} (h : 0 ≤ r) (n : Nat) : eN r n = (n + 1) % 7 := if_neg (by omega)
theorem pp_in {α : Type} {h now fl blk rest : List α} (hp : fl.Perm (blk ++ rest)) : ((h ++ now) ++ fl).Perm ((blk ++ now) ++ (h ++ rest)) := by
  refine (List.Perm.append_left (h ++ now) hp).trans ?_
  rw [List.append_assoc, List.append_assoc]
  refine (List.perm_append_comm_assoc h now (blk ++ rest)).trans ?_
  have e1 : (now ++ (h ++ (blk ++ rest))).Perm (now ++ (blk ++ (h ++ rest))) := List.Perm.append_left now (List.perm_append_comm_assoc h blk rest)
  exact e1.trans (List.perm_append_comm_assoc now blk (h ++ rest))
theorem pp_in2 {α : Type} {h now fl blk rest : List α} (hp : fl.Perm (blk ++ rest)) : ((h ++ now) ++ fl).Perm ((now ++ blk) ++ (h ++ rest)) := by
  refine (pp_in hp).trans ?_
  exact List.Perm.append_right _ List.perm_append_comm
theorem pp_out {α : Type} {h now fl blk rest : List α} (hp : (blk ++ rest).Perm fl) : ((h ++ rest) ++ (blk ++ now)).Perm ((h ++ now) ++ fl) := by
  refine List.Perm.trans ?_ (pp_in hp.symm).symm
  exact List.perm_append_comm
theorem pp_out2 {α : Type} {h now fl blk rest : List α} (hp : fl.Perm (blk ++ rest)) : ((h ++ rest) ++ (now ++ blk)).Perm ((h ++ now) ++ fl) := by
  refine List.Perm.trans ?_ (pp_in2 hp).symm
  exact List.perm_append_comm
