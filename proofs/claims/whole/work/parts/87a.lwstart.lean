/-! ===== the start: what the tables and the premises give ===== -/
theorem LRel_le {B C : Int} {nx ck : Nat} {Rg : Nat → Nat → Int} {P S hb9 : Nat → Int} {Sl : Nat → Nat → Int} {L9 : Nat → Int} {pl : Nat} {T : Nat → Nat} {Q Q7 : Nat → Int} (h : LRel B nx ck Rg P S hb9 Sl L9 pl T Q Q7) (hBC : B ≤ C) : LRel C nx ck Rg P S hb9 Sl L9 pl T Q Q7 := ⟨h.1, OkS_le h.2.1 hBC, RgOk_le h.2.2.1 hBC, SlOk_le h.2.2.2.1 hBC, h.2.2.2.2⟩
set_option maxRecDepth 20000 in
theorem lw_zD {b : Nat} {s : State} (hts : ∀ w ∈ lw_tbl, w.before #[Value.ref b] s = true) : ∃ D : zD, zK D s := by
  obtain ⟨c0, i0, k0⟩ := u_known (C := RX0) (T := TX0) (N := 2) (n := 2) hts inX0 (hts _ (List.mem_append_right _ (List.mem_of_getElem? (i := 66) (by decide +kernel))))
  obtain ⟨c1, i1, k1⟩ := u_known (C := RX1) (T := TX1) (N := 3) (n := 3) hts inX1 (hts _ (List.mem_append_right _ (List.mem_of_getElem? (i := 126) (by decide +kernel))))
  obtain ⟨c2, i2, k2⟩ := u_known (C := RX2) (T := TX2) (N := 4) (n := 4) hts inX2 (hts _ (List.mem_append_right _ (List.mem_of_getElem? (i := 31) (by decide +kernel))))
  obtain ⟨c3, i3, k3⟩ := u_known (C := RX3) (T := TX3) (N := 6) (n := 6) hts inX3 (hts _ (List.mem_append_right _ (List.mem_of_getElem? (i := 146) (by decide +kernel))))
  obtain ⟨c4, i4, k4⟩ := u_known (C := RX4) (T := TX4) (N := 2) (n := 2) hts inX4 (hts _ (List.mem_append_right _ (List.mem_of_getElem? (i := 176) (by decide +kernel))))
  obtain ⟨c5, i5, k5⟩ := u_known (C := RX5) (T := TX5) (N := 11) (n := 11) hts inX5 (hts _ (List.mem_append_right _ (List.mem_of_getElem? (i := 25) (by decide +kernel))))
  obtain ⟨c6, i6, k6⟩ := u_known (C := RX6) (T := TX6) (N := 7) (n := 7) hts inX6 (hts _ (List.mem_append_right _ (List.mem_of_getElem? (i := 17) (by decide +kernel))))
  obtain ⟨c7, i7, k7⟩ := u_known (C := RX7) (T := TX7) (N := 11) (n := 11) hts inX7 (hts _ (List.mem_append_right _ (List.mem_of_getElem? (i := 670) (by decide +kernel))))
  obtain ⟨d0, a0⟩ : ∃ c, ArrOfT s c .int ∧ va_RA s c .int := by
    have h9 : (Cond.arrayClass .int).before #[Value.ref b] s = true := (hts _ (List.mem_append_right _ (List.mem_of_getElem? (i := 64) (by decide +kernel))))
    obtain ⟨c, k, comp, h1, h2, h3⟩ := Cond.arrayClass_spec h9
    exact ⟨c, fun n z => ⟨fun k h => (by cases h), k, h2, comp, h3⟩, h1⟩
  obtain ⟨d1, a1⟩ : ∃ c, ArrOfT s c .long ∧ va_RA s c .long := by
    have h9 : (Cond.arrayClass .long).before #[Value.ref b] s = true := (hts _ (List.mem_append_right _ (List.mem_of_getElem? (i := 725) (by decide +kernel))))
    obtain ⟨c, k, comp, h1, h2, h3⟩ := Cond.arrayClass_spec h9
    exact ⟨c, fun n z => ⟨fun k h => (by cases h), k, h2, comp, h3⟩, h1⟩
  obtain ⟨d2, a2⟩ : ∃ c, ArrOfT s c .char ∧ va_RA s c .char := by
    have h9 : (Cond.arrayClass .char).before #[Value.ref b] s = true := (hts _ (List.mem_append_right _ (List.mem_of_getElem? (i := 174) (by decide +kernel))))
    obtain ⟨c, k, comp, h1, h2, h3⟩ := Cond.arrayClass_spec h9
    exact ⟨c, fun n z => ⟨fun k h => (by cases h), k, h2, comp, h3⟩, h1⟩
  obtain ⟨d3, a3⟩ : ∃ c, ArrOfT s c .boolean ∧ va_RA s c .boolean := by
    have h9 : (Cond.arrayClass .boolean).before #[Value.ref b] s = true := (hts _ (List.mem_append_right _ (List.mem_of_getElem? (i := 173) (by decide +kernel))))
    obtain ⟨c, k, comp, h1, h2, h3⟩ := Cond.arrayClass_spec h9
    exact ⟨c, fun n z => ⟨fun k h => (by cases h), k, h2, comp, h3⟩, h1⟩
  obtain ⟨d4, a4⟩ : ∃ c, ArrOfT s c (.object "RelaxedSteps$State") ∧ va_RA s c (.object "RelaxedSteps$State") := by
    have h9 : (Cond.arrayOver (.object "RelaxedSteps$State")).before #[Value.ref b] s = true := (hts _ (List.mem_append_right _ (List.mem_of_getElem? (i := 132) (by decide +kernel))))
    obtain ⟨comp, c, k, h1, h2, h3, h4, h5⟩ := Cond.arrayOver_spec h9
    exact ⟨c, fun n z => ⟨fun k h => (by cases h), k, h3, comp, h4⟩, k, comp, h3, h4, h1, h5⟩
  obtain ⟨d5, a5⟩ : ∃ c, ArrOfT s c (.array .int) ∧ va_RA s c (.array .int) := by
    have h9 : (Cond.arrayOver (.array .int)).before #[Value.ref b] s = true := (hts _ (List.mem_append_right _ (List.mem_of_getElem? (i := 37) (by decide +kernel))))
    obtain ⟨comp, c, k, h1, h2, h3, h4, h5⟩ := arrayOverA_spec h9
    exact ⟨c, fun n z => ⟨fun k h => (by cases h), k, h3, comp, h4⟩, h5⟩
  refine ⟨((fun k => if k = 0 then c0 else if k = 1 then c1 else if k = 2 then c2 else if k = 3 then c3 else if k = 4 then c4 else if k = 5 then c5 else if k = 6 then c6 else c7, fun k => if k = 0 then i0 else if k = 1 then i1 else if k = 2 then i2 else if k = 3 then i3 else if k = 4 then i4 else if k = 5 then i5 else if k = 6 then i6 else i7), fun k => if k = 0 then d0 else if k = 1 then d1 else if k = 2 then d2 else if k = 3 then d3 else if k = 4 then d4 else d5), ⟨fun k q hq => ?_, fun k q hq => ?_⟩, ?_⟩
  · match k, hq with
    | 0, hq => cases hq; exact k0
    | 1, hq => cases hq; exact k1
    | 2, hq => cases hq; exact k2
    | 3, hq => cases hq; exact k3
    | 4, hq => cases hq; exact k4
    | 5, hq => cases hq; exact k5
    | 6, hq => cases hq; exact k6
    | 7, hq => cases hq; exact k7
    | k + 8, hq => simp [vwCl] at hq
  · match k, hq with
    | 0, hq => cases hq; exact a0
    | 1, hq => cases hq; exact a1
    | 2, hq => cases hq; exact a2
    | 3, hq => cases hq; exact a3
    | 4, hq => cases hq; exact a4
    | 5, hq => cases hq; exact a5
    | k + 6, hq => simp [zT] at hq
  · exact (List.forall_mem_cons.mpr ⟨va_Nw.of rfl (hts _ (List.mem_append_right _ (List.mem_of_getElem? (i := 26) (by decide +kernel)))), (List.forall_mem_cons.mpr ⟨va_Nw.of rfl (hts _ (List.mem_append_right _ (List.mem_of_getElem? (i := 67) (by decide +kernel)))), (List.forall_mem_cons.mpr ⟨va_Nw.of rfl (hts _ (List.mem_append_right _ (List.mem_of_getElem? (i := 133) (by decide +kernel)))), (List.forall_mem_cons.mpr ⟨va_Nw.of rfl (hts _ (List.mem_append_right _ (List.mem_of_getElem? (i := 147) (by decide +kernel)))), (List.forall_mem_cons.mpr ⟨va_Nw.of rfl (hts _ (List.mem_append_right _ (List.mem_of_getElem? (i := 177) (by decide +kernel)))), (List.forall_mem_cons.mpr ⟨va_Nw.of rfl (hts _ (List.mem_append_right _ (List.mem_of_getElem? (i := 239) (by decide +kernel)))), (List.forall_mem_cons.mpr ⟨va_Nw.of rfl (hts _ (List.mem_append_right _ (List.mem_of_getElem? (i := 288) (by decide +kernel)))), (List.forall_mem_cons.mpr ⟨va_Nw.of rfl (hts _ (List.mem_append_right _ (List.mem_of_getElem? (i := 302) (by decide +kernel)))), (List.forall_mem_cons.mpr ⟨va_Nw.of rfl (hts _ (List.mem_append_right _ (List.mem_of_getElem? (i := 363) (by decide +kernel)))), (List.forall_mem_cons.mpr ⟨va_Nw.of rfl (hts _ (List.mem_append_right _ (List.mem_of_getElem? (i := 389) (by decide +kernel)))), (List.forall_mem_cons.mpr ⟨va_Nw.of rfl (hts _ (List.mem_append_right _ (List.mem_of_getElem? (i := 480) (by decide +kernel)))), (List.forall_mem_cons.mpr ⟨va_Nw.of rfl (hts _ (List.mem_append_right _ (List.mem_of_getElem? (i := 484) (by decide +kernel)))), (List.forall_mem_cons.mpr ⟨va_Nw.of rfl (hts _ (List.mem_append_right _ (List.mem_of_getElem? (i := 631) (by decide +kernel)))), (fun _ h => absurd h List.not_mem_nil)⟩)⟩)⟩)⟩)⟩)⟩)⟩)⟩)⟩)⟩)⟩)⟩)⟩)
set_option maxRecDepth 20000 in
set_option maxHeartbeats 2000000 in
theorem lw_zS {b : Nat} {s : State} (hgv : (Jvm.Cond.and given_1 narrow_1).before #[Value.ref b] s = true) (hts : ∀ w ∈ lw_tbl, w.before #[Value.ref b] s = true) : ∃ adK adV : Nat → Nat, zSt adK adV (lwA s) s s.heap := by
  have hs := flat_of_before _ hgv
  have hA : ∀ a : Nat, a < s.heap.size → ¬ lwA s a := fun a h => Nat.not_le.mpr h
  have c7 : ∀ (P : Nat → Prop), P 0 → P 1 → P 2 → P 3 → P 4 → P 5 → P 6 → ∀ i, i < 7 → P i := fun P p0 p1 p2 p3 p4 p5 p6 i hi => by
    rcases (show i = 0 ∨ i = 1 ∨ i = 2 ∨ i = 3 ∨ i = 4 ∨ i = 5 ∨ i = 6 by omega) with rfl | rfl | rfl | rfl | rfl | rfl | rfl
    · exact p0
    · exact p1
    · exact p2
    · exact p3
    · exact p4
    · exact p5
    · exact p6
  have hex : ∀ i, i < 7 → (Cond.exactly (Term.string RX3 (sIx i)) "java/lang/String").before #[Value.ref b] s = true := c7 (fun i => (Cond.exactly (Term.string RX3 (sIx i)) "java/lang/String").before #[Value.ref b] s = true) (hs _ (by decide +kernel)) (hs _ (by decide +kernel)) (hs _ (by decide +kernel)) (hs _ (by decide +kernel)) (hs _ (by decide +kernel)) (hs _ (by decide +kernel)) (hs _ (by decide +kernel))
  have hco : ∀ i, i < 7 → (Cond.eq (.field (Term.string RX3 (sIx i)) "java/lang/String" "coder" "B") (.int 0)).before #[Value.ref b] s = true := c7 (fun i => (Cond.eq (.field (Term.string RX3 (sIx i)) "java/lang/String" "coder" "B") (.int 0)).before #[Value.ref b] s = true) (hs _ (by decide +kernel)) (hs _ (by decide +kernel)) (hs _ (by decide +kernel)) (hs _ (by decide +kernel)) (hs _ (by decide +kernel)) (hs _ (by decide +kernel)) (hs _ (by decide +kernel))
  have har : ∀ i, i < 7 → (Cond.arrayOf (.field (Term.string RX3 (sIx i)) "java/lang/String" "value" "[B") .byte).before #[Value.ref b] s = true := c7 (fun i => (Cond.arrayOf (.field (Term.string RX3 (sIx i)) "java/lang/String" "value" "[B") .byte).before #[Value.ref b] s = true) (hs _ (by decide +kernel)) (hs _ (by decide +kernel)) (hs _ (by decide +kernel)) (hs _ (by decide +kernel)) (hs _ (by decide +kernel)) (hs _ (by decide +kernel)) (hs _ (by decide +kernel))
  have hle : ∀ i, i < 7 → (Cond.eq (.length (.field (Term.string RX3 (sIx i)) "java/lang/String" "value" "[B")) (.int (Int32.ofNat (sLe8.getD i 0)))).before #[Value.ref b] s = true := c7 (fun i => (Cond.eq (.length (.field (Term.string RX3 (sIx i)) "java/lang/String" "value" "[B")) (.int (Int32.ofNat (sLe8.getD i 0)))).before #[Value.ref b] s = true) (hs _ (by decide +kernel)) (hs _ (by decide +kernel)) (hs _ (by decide +kernel)) (hs _ (by decide +kernel)) (hs _ (by decide +kernel)) (hs _ (by decide +kernel)) (hs _ (by decide +kernel))
  have e0 : (fun i => ∀ j, j < sLe8.getD i 0 → (Cond.eq (.elem (.field (Term.string RX3 (sIx i)) "java/lang/String" "value" "[B") (.int (Int32.ofNat j))) (.int ((sBy8.getD i []).getD j 0))).before #[Value.ref b] s = true) 0 := fun j hj => by
    have hj2 : j < 8 := hj
    rcases (show j = 0 ∨ j = 1 ∨ j = 2 ∨ j = 3 ∨ j = 4 ∨ j = 5 ∨ j = 6 ∨ j = 7 by omega) with rfl | rfl | rfl | rfl | rfl | rfl | rfl | rfl
    · exact (hs _ (by decide +kernel))
    · exact (hs _ (by decide +kernel))
    · exact (hs _ (by decide +kernel))
    · exact (hs _ (by decide +kernel))
    · exact (hs _ (by decide +kernel))
    · exact (hs _ (by decide +kernel))
    · exact (hs _ (by decide +kernel))
    · exact (hs _ (by decide +kernel))
  have e1 : (fun i => ∀ j, j < sLe8.getD i 0 → (Cond.eq (.elem (.field (Term.string RX3 (sIx i)) "java/lang/String" "value" "[B") (.int (Int32.ofNat j))) (.int ((sBy8.getD i []).getD j 0))).before #[Value.ref b] s = true) 1 := fun j hj => by
    have hj2 : j < 4 := hj
    rcases (show j = 0 ∨ j = 1 ∨ j = 2 ∨ j = 3 by omega) with rfl | rfl | rfl | rfl
    · exact (hs _ (by decide +kernel))
    · exact (hs _ (by decide +kernel))
    · exact (hs _ (by decide +kernel))
    · exact (hs _ (by decide +kernel))
  have e2 : (fun i => ∀ j, j < sLe8.getD i 0 → (Cond.eq (.elem (.field (Term.string RX3 (sIx i)) "java/lang/String" "value" "[B") (.int (Int32.ofNat j))) (.int ((sBy8.getD i []).getD j 0))).before #[Value.ref b] s = true) 2 := fun j hj => by
    have hj2 : j < 2 := hj
    rcases (show j = 0 ∨ j = 1 by omega) with rfl | rfl
    · exact (hs _ (by decide +kernel))
    · exact (hs _ (by decide +kernel))
  have e3 : (fun i => ∀ j, j < sLe8.getD i 0 → (Cond.eq (.elem (.field (Term.string RX3 (sIx i)) "java/lang/String" "value" "[B") (.int (Int32.ofNat j))) (.int ((sBy8.getD i []).getD j 0))).before #[Value.ref b] s = true) 3 := fun j hj => by
    have hj2 : j < 2 := hj
    rcases (show j = 0 ∨ j = 1 by omega) with rfl | rfl
    · exact (hs _ (by decide +kernel))
    · exact (hs _ (by decide +kernel))
  have e4 : (fun i => ∀ j, j < sLe8.getD i 0 → (Cond.eq (.elem (.field (Term.string RX3 (sIx i)) "java/lang/String" "value" "[B") (.int (Int32.ofNat j))) (.int ((sBy8.getD i []).getD j 0))).before #[Value.ref b] s = true) 4 := fun j hj => by
    have hj2 : j < 1 := hj
    rcases (show j = 0 by omega) with rfl
    · exact (hs _ (by decide +kernel))
  have e5 : (fun i => ∀ j, j < sLe8.getD i 0 → (Cond.eq (.elem (.field (Term.string RX3 (sIx i)) "java/lang/String" "value" "[B") (.int (Int32.ofNat j))) (.int ((sBy8.getD i []).getD j 0))).before #[Value.ref b] s = true) 5 := fun j hj => by
    have hj2 : j < 2 := hj
    rcases (show j = 0 ∨ j = 1 by omega) with rfl | rfl
    · exact (hs _ (by decide +kernel))
    · exact (hs _ (by decide +kernel))
  have e6 : (fun i => ∀ j, j < sLe8.getD i 0 → (Cond.eq (.elem (.field (Term.string RX3 (sIx i)) "java/lang/String" "value" "[B") (.int (Int32.ofNat j))) (.int ((sBy8.getD i []).getD j 0))).before #[Value.ref b] s = true) 6 := fun j hj => by
    have hj2 : j < 0 := hj
    exact absurd hj2 (Nat.not_lt_zero _)
  have hel := c7 (fun i => ∀ j, j < sLe8.getD i 0 → (Cond.eq (.elem (.field (Term.string RX3 (sIx i)) "java/lang/String" "value" "[B") (.int (Int32.ofNat j))) (.int ((sBy8.getD i []).getD j 0))).before #[Value.ref b] s = true) e0 e1 e2 e3 e4 e5 e6
  have n0 : (fun i => ∀ j, j < 7 → i ≠ j → (Cond.not (Cond.eq (Term.string RX3 (sIx i)) (Term.string RX3 (sIx j)))).before #[Value.ref b] s = true ∨ (Cond.not (Cond.eq (Term.string RX3 (sIx j)) (Term.string RX3 (sIx i)))).before #[Value.ref b] s = true) 0 := c7 (fun j => 0 ≠ j → (Cond.not (Cond.eq (Term.string RX3 (sIx 0)) (Term.string RX3 (sIx j)))).before #[Value.ref b] s = true ∨ (Cond.not (Cond.eq (Term.string RX3 (sIx j)) (Term.string RX3 (sIx 0)))).before #[Value.ref b] s = true) (fun q => absurd rfl q) (fun _ => Or.inl (hs _ (by decide +kernel))) (fun _ => Or.inl (hs _ (by decide +kernel))) (fun _ => Or.inl (hs _ (by decide +kernel))) (fun _ => Or.inl (hs _ (by decide +kernel))) (fun _ => Or.inl (hs _ (by decide +kernel))) (fun _ => Or.inl (hs _ (by decide +kernel)))
  have n1 : (fun i => ∀ j, j < 7 → i ≠ j → (Cond.not (Cond.eq (Term.string RX3 (sIx i)) (Term.string RX3 (sIx j)))).before #[Value.ref b] s = true ∨ (Cond.not (Cond.eq (Term.string RX3 (sIx j)) (Term.string RX3 (sIx i)))).before #[Value.ref b] s = true) 1 := c7 (fun j => 1 ≠ j → (Cond.not (Cond.eq (Term.string RX3 (sIx 1)) (Term.string RX3 (sIx j)))).before #[Value.ref b] s = true ∨ (Cond.not (Cond.eq (Term.string RX3 (sIx j)) (Term.string RX3 (sIx 1)))).before #[Value.ref b] s = true) (fun _ => Or.inr (hs _ (by decide +kernel))) (fun q => absurd rfl q) (fun _ => Or.inl (hs _ (by decide +kernel))) (fun _ => Or.inl (hs _ (by decide +kernel))) (fun _ => Or.inl (hs _ (by decide +kernel))) (fun _ => Or.inl (hs _ (by decide +kernel))) (fun _ => Or.inl (hs _ (by decide +kernel)))
  have n2 : (fun i => ∀ j, j < 7 → i ≠ j → (Cond.not (Cond.eq (Term.string RX3 (sIx i)) (Term.string RX3 (sIx j)))).before #[Value.ref b] s = true ∨ (Cond.not (Cond.eq (Term.string RX3 (sIx j)) (Term.string RX3 (sIx i)))).before #[Value.ref b] s = true) 2 := c7 (fun j => 2 ≠ j → (Cond.not (Cond.eq (Term.string RX3 (sIx 2)) (Term.string RX3 (sIx j)))).before #[Value.ref b] s = true ∨ (Cond.not (Cond.eq (Term.string RX3 (sIx j)) (Term.string RX3 (sIx 2)))).before #[Value.ref b] s = true) (fun _ => Or.inr (hs _ (by decide +kernel))) (fun _ => Or.inr (hs _ (by decide +kernel))) (fun q => absurd rfl q) (fun _ => Or.inl (hs _ (by decide +kernel))) (fun _ => Or.inl (hs _ (by decide +kernel))) (fun _ => Or.inl (hs _ (by decide +kernel))) (fun _ => Or.inl (hs _ (by decide +kernel)))
  have n3 : (fun i => ∀ j, j < 7 → i ≠ j → (Cond.not (Cond.eq (Term.string RX3 (sIx i)) (Term.string RX3 (sIx j)))).before #[Value.ref b] s = true ∨ (Cond.not (Cond.eq (Term.string RX3 (sIx j)) (Term.string RX3 (sIx i)))).before #[Value.ref b] s = true) 3 := c7 (fun j => 3 ≠ j → (Cond.not (Cond.eq (Term.string RX3 (sIx 3)) (Term.string RX3 (sIx j)))).before #[Value.ref b] s = true ∨ (Cond.not (Cond.eq (Term.string RX3 (sIx j)) (Term.string RX3 (sIx 3)))).before #[Value.ref b] s = true) (fun _ => Or.inr (hs _ (by decide +kernel))) (fun _ => Or.inr (hs _ (by decide +kernel))) (fun _ => Or.inr (hs _ (by decide +kernel))) (fun q => absurd rfl q) (fun _ => Or.inl (hs _ (by decide +kernel))) (fun _ => Or.inl (hs _ (by decide +kernel))) (fun _ => Or.inl (hs _ (by decide +kernel)))
  have n4 : (fun i => ∀ j, j < 7 → i ≠ j → (Cond.not (Cond.eq (Term.string RX3 (sIx i)) (Term.string RX3 (sIx j)))).before #[Value.ref b] s = true ∨ (Cond.not (Cond.eq (Term.string RX3 (sIx j)) (Term.string RX3 (sIx i)))).before #[Value.ref b] s = true) 4 := c7 (fun j => 4 ≠ j → (Cond.not (Cond.eq (Term.string RX3 (sIx 4)) (Term.string RX3 (sIx j)))).before #[Value.ref b] s = true ∨ (Cond.not (Cond.eq (Term.string RX3 (sIx j)) (Term.string RX3 (sIx 4)))).before #[Value.ref b] s = true) (fun _ => Or.inr (hs _ (by decide +kernel))) (fun _ => Or.inr (hs _ (by decide +kernel))) (fun _ => Or.inr (hs _ (by decide +kernel))) (fun _ => Or.inr (hs _ (by decide +kernel))) (fun q => absurd rfl q) (fun _ => Or.inl (hs _ (by decide +kernel))) (fun _ => Or.inl (hs _ (by decide +kernel)))
  have n5 : (fun i => ∀ j, j < 7 → i ≠ j → (Cond.not (Cond.eq (Term.string RX3 (sIx i)) (Term.string RX3 (sIx j)))).before #[Value.ref b] s = true ∨ (Cond.not (Cond.eq (Term.string RX3 (sIx j)) (Term.string RX3 (sIx i)))).before #[Value.ref b] s = true) 5 := c7 (fun j => 5 ≠ j → (Cond.not (Cond.eq (Term.string RX3 (sIx 5)) (Term.string RX3 (sIx j)))).before #[Value.ref b] s = true ∨ (Cond.not (Cond.eq (Term.string RX3 (sIx j)) (Term.string RX3 (sIx 5)))).before #[Value.ref b] s = true) (fun _ => Or.inr (hs _ (by decide +kernel))) (fun _ => Or.inr (hs _ (by decide +kernel))) (fun _ => Or.inr (hs _ (by decide +kernel))) (fun _ => Or.inr (hs _ (by decide +kernel))) (fun _ => Or.inr (hs _ (by decide +kernel))) (fun q => absurd rfl q) (fun _ => Or.inl (hs _ (by decide +kernel)))
  have n6 : (fun i => ∀ j, j < 7 → i ≠ j → (Cond.not (Cond.eq (Term.string RX3 (sIx i)) (Term.string RX3 (sIx j)))).before #[Value.ref b] s = true ∨ (Cond.not (Cond.eq (Term.string RX3 (sIx j)) (Term.string RX3 (sIx i)))).before #[Value.ref b] s = true) 6 := c7 (fun j => 6 ≠ j → (Cond.not (Cond.eq (Term.string RX3 (sIx 6)) (Term.string RX3 (sIx j)))).before #[Value.ref b] s = true ∨ (Cond.not (Cond.eq (Term.string RX3 (sIx j)) (Term.string RX3 (sIx 6)))).before #[Value.ref b] s = true) (fun _ => Or.inr (hs _ (by decide +kernel))) (fun _ => Or.inr (hs _ (by decide +kernel))) (fun _ => Or.inr (hs _ (by decide +kernel))) (fun _ => Or.inr (hs _ (by decide +kernel))) (fun _ => Or.inr (hs _ (by decide +kernel))) (fun _ => Or.inr (hs _ (by decide +kernel))) (fun q => absurd rfl q)
  have hne := c7 (fun i => ∀ j, j < 7 → i ≠ j → (Cond.not (Cond.eq (Term.string RX3 (sIx i)) (Term.string RX3 (sIx j)))).before #[Value.ref b] s = true ∨ (Cond.not (Cond.eq (Term.string RX3 (sIx j)) (Term.string RX3 (sIx i)))).before #[Value.ref b] s = true) n0 n1 n2 n3 n4 n5 n6
  obtain ⟨adK, adV, hS, hEv⟩ := vk_Sof (args := #[Value.ref b]) (s := s) (N := 7) (tm := fun i => Term.string RX3 (sIx i)) (len := sLe8) (byt := sBy8) (A := lwA s) (by decide +kernel) hex hco har hle hel (fun i j hi hj => hne i hi j hj) hA
  refine ⟨adK, adV, fun i hi => vk_R.of (A := #[Value.ref b]) ?_ (hEv i hi), hS, ?_, ?_⟩
  · exact c7 (fun i => (Cond.stringRef RX3 (sIx i) (sTx.getD i "")).before #[Value.ref b] s = true) (hts _ (List.mem_append_right _ (List.mem_of_getElem? (i := 556) (by decide +kernel)))) (hts _ (List.mem_append_right _ (List.mem_of_getElem? (i := 557) (by decide +kernel)))) (hts _ (List.mem_append_right _ (List.mem_of_getElem? (i := 558) (by decide +kernel)))) (hts _ (List.mem_append_right _ (List.mem_of_getElem? (i := 559) (by decide +kernel)))) (hts _ (List.mem_append_right _ (List.mem_of_getElem? (i := 560) (by decide +kernel)))) (hts _ (List.mem_append_right _ (List.mem_of_getElem? (i := 561) (by decide +kernel)))) (hts _ (List.mem_append_right _ (List.mem_of_getElem? (i := 562) (by decide +kernel)))) i hi
  · exact va_Zof (args := #[Value.ref b]) (hts _ (List.mem_append_right _ (List.mem_of_getElem? (i := 572) (by decide +kernel)))) (hts _ (List.mem_append_right _ (List.mem_of_getElem? (i := 12) (by decide +kernel)))) (va_eqt (hs (Cond.eq (Term.static RJ0 pCS "Z") (.int 1)) (by decide +kernel))) hA
  · exact va_Zqof (args := #[Value.ref b]) (hts _ (List.mem_append_right _ (List.mem_of_getElem? (i := 588) (by decide +kernel)))) (hts _ (List.mem_append_right _ (List.mem_of_getElem? (i := 14) (by decide +kernel)))) (hs (Cond.isRef (Term.static pPc pSF pBF)) (by decide +kernel)) hA
theorem i32_31 (v : Int32) : ∃ k : Nat, k < 32 ∧ v &&& 31 = zI (k : Int) := by
  refine ⟨(v &&& 31).toBitVec.toNat, ?_, ?_⟩
  · have e : (v &&& 31).toBitVec.toNat = v.toBitVec.toNat &&& 31 := by rw [Int32.toBitVec_and, BitVec.toNat_and]; rfl
    rw [e]
    exact Nat.lt_of_le_of_lt Nat.and_le_right (by decide)
  · apply Int32.toBitVec_inj.mp
    show (v &&& 31).toBitVec = BitVec.ofInt 32 (((v &&& 31).toBitVec.toNat : Nat) : Int)
    rw [BitVec.ofInt_natCast, BitVec.ofNat_toNat, BitVec.setWidth_eq]
