/-! what is known at the law's entry -/
theorem kg_int {s : State} {a : Array Value} (h : (Cond.arrayClass .int).before a s = true) : ∃ cA, ArrOfT s cA .int ∧ va_RA s cA .int := by
  obtain ⟨c, k, comp, h1, h2, h3⟩ := Cond.arrayClass_spec h
  exact ⟨c, fun n z => ⟨(fun k h => by cases h), k, h2, comp, h3⟩, h1⟩
theorem kg_byte {s : State} {a : Array Value} (h : (Cond.arrayClass .byte).before a s = true) : ∃ cA, ArrOfT s cA .byte ∧ va_RA s cA .byte := by
  obtain ⟨c, k, comp, h1, h2, h3⟩ := Cond.arrayClass_spec h
  exact ⟨c, fun n z => ⟨(fun k h => by cases h), k, h2, comp, h3⟩, h1⟩
theorem kg_bool {s : State} {a : Array Value} (h : (Cond.arrayClass .boolean).before a s = true) : ∃ cA, ArrOfT s cA .boolean ∧ va_RA s cA .boolean := by
  obtain ⟨c, k, comp, h1, h2, h3⟩ := Cond.arrayClass_spec h
  exact ⟨c, fun n z => ⟨(fun k h => by cases h), k, h2, comp, h3⟩, h1⟩
theorem kg_obj {s : State} {a : Array Value} {C : String} (h : (Cond.arrayOver (.object C)).before a s = true) : ∃ cA, ArrOfT s cA (.object C) ∧ va_RA s cA (.object C) := by
  obtain ⟨comp, c, k, f2, -, f1, f3, f4⟩ := Cond.arrayOver_spec h
  exact ⟨c, fun n z => ⟨(fun k h => by cases h), k, f1, comp, f3⟩, k, comp, f1, f3, f2, f4⟩
theorem lt7 {P : Nat → Prop} (h0 : P 0) (h1 : P 1) (h2 : P 2) (h3 : P 3) (h4 : P 4) (h5 : P 5) (h6 : P 6) : ∀ i, i < 7 → P i := fun i hi => by
  rcases (show i = 0 ∨ i = 1 ∨ i = 2 ∨ i = 3 ∨ i = 4 ∨ i = 5 ∨ i = 6 by omega) with e | e | e | e | e | e | e <;> subst e <;> assumption
abbrev kgT : Jvm.Cond := Jvm.Cond.and given_1 narrow_1
abbrev kgS (i : Nat) : Jvm.Term := .static RX7 (nmS.getD i "") "LTellingRows$Sort;"
set_option maxRecDepth 20000 in
theorem kg_lays : ∀ i, i < 7 → Jvm.Cond.laysStatic RX7 (nmS.getD i "") "LTellingRows$Sort;" ∈ lw_tbl := by decide +kernel
set_option maxRecDepth 20000 in
theorem kg_exact : ∀ i, i < 7 → Jvm.Cond.exactly (kgS i) RX7 ∈ flatC kgT := by decide +kernel
set_option maxRecDepth 20000 in
theorem kg_flds : ∀ q ∈ flS, ∀ i, i < 7 → Jvm.Cond.eq (.field (kgS i) q.1 q.2.1 q.2.2.1) (.int (q.2.2.2.getD i 0)) ∈ flatC kgT := by decide +kernel
set_option maxRecDepth 20000 in
theorem kg_apart : ∀ i, i < 7 → ∀ j, j < 7 → i ≠ j → Jvm.Cond.not (.eq (kgS i) (kgS j)) ∈ flatC kgT ∨ Jvm.Cond.not (.eq (kgS j) (kgS i)) ∈ flatC kgT := by decide +kernel
abbrev kgSo : Jvm.Term := .static RX10 "SORTS" "[LTellingRows$Sort;"
abbrev kgSw : Jvm.Term := .static RX0 "$SwitchMap$TellingRows$Sort" "[I"
set_option maxRecDepth 20000 in
theorem kg_sorts : ∀ i, i < 7 → Jvm.Cond.eq (.elem kgSo (.int (Int32.ofNat i))) (kgS i) ∈ flatC kgT := by decide +kernel
set_option maxRecDepth 20000 in
theorem kg_swit : ∀ i, i < 7 → Jvm.Cond.eq (.elem kgSw (.int (Int32.ofNat i))) (.int (iI (i + 1))) ∈ flatC kgT := by decide +kernel
set_option maxRecDepth 20000 in
theorem kg_enum {s : State} {b : Nat} {A : Nat → Prop} (hts : ∀ w ∈ lw_tbl, w.before #[Value.ref b] s = true) (hs : ∀ c ∈ flatC kgT, c.before #[Value.ref b] s = true) (hA : ∀ a : Nat, a < s.heap.size → ¬ A a) : ∃ ad : Nat → Nat, va_En RX7 "LTellingRows$Sort;" nmS flS ad A s s.heap ∧ ∀ i, i < 7 → (kgS i).eval #[Value.ref b] s none [] s = some (.ref (ad i)) :=
  va_Enof2 (nm := nmS) (F := flS) (fun i hi => hts _ (kg_lays i hi)) (hts (.initialized RX7) (by decide +kernel)) (fun i hi => hs _ (kg_exact i hi)) (fun q hq i hi => hs _ (kg_flds q hq i hi))
    (fun i j hi hj hij => (kg_apart i hi j hj hij).elim (fun h => Or.inl (hs _ h)) (fun h => Or.inr (hs _ h))) hA
set_option maxRecDepth 20000 in
theorem kg_so {s : State} {b : Nat} {A : Nat → Prop} {ad : Nat → Nat} (hts : ∀ w ∈ lw_tbl, w.before #[Value.ref b] s = true) (hs : ∀ c ∈ flatC kgT, c.before #[Value.ref b] s = true) (hA : ∀ a : Nat, a < s.heap.size → ¬ A a) (hev : ∀ i, i < 7 → (kgS i).eval #[Value.ref b] s none [] s = some (.ref (ad i))) : ∃ t : Nat, va_Z RX10 "SORTS" "[LTellingRows$Sort;" (.ref t) A s s.heap ∧ va_T (.object RX7) t 7 (fun j => .ref (ad j)) A s s.heap := by
  obtain ⟨t, h1, h2⟩ := va_Tof (tm := kgSo) (ty := .object RX7) (N := 7) (f := fun j => .ref (ad j)) (by decide) (hs (.arrayOf kgSo (.object RX7)) (by decide +kernel)) (va_eqt (hs (.eq (.length kgSo) (.int (Int32.ofNat 7))) (by decide +kernel))) (fun j hj => va_eqv (hs _ (kg_sorts j hj)) (hev j hj)) hA
  exact ⟨t, va_Zref (hts (.laysStatic RX10 "SORTS" "[LTellingRows$Sort;") (by decide +kernel)) (hts (.initialized RX10) (by decide +kernel)) h1 hA, h2⟩
set_option maxRecDepth 20000 in
theorem kg_sw {s : State} {b : Nat} {A : Nat → Prop} (hts : ∀ w ∈ lw_tbl, w.before #[Value.ref b] s = true) (hs : ∀ c ∈ flatC kgT, c.before #[Value.ref b] s = true) (hA : ∀ a : Nat, a < s.heap.size → ¬ A a) : ∃ t : Nat, va_Z RX0 "$SwitchMap$TellingRows$Sort" "[I" (.ref t) A s s.heap ∧ va_T .int t 7 (fun j => .int (iI (j + 1))) A s s.heap := by
  obtain ⟨t, h1, h2⟩ := va_Tof (tm := kgSw) (ty := .int) (N := 7) (f := fun j => .int (iI (j + 1))) (by decide) (hs (.arrayOf kgSw .int) (by decide +kernel)) (va_eqt (hs (.eq (.length kgSw) (.int (Int32.ofNat 7))) (by decide +kernel))) (fun j hj => va_eqt (hs _ (kg_swit j hj))) hA
  exact ⟨t, va_Zref (hts (.laysStatic RX0 "$SwitchMap$TellingRows$Sort" "[I") (by decide +kernel)) (hts (.initialized RX0) (by decide +kernel)) h1 hA, h2⟩
set_option maxRecDepth 20000 in
theorem kg_nwin : ∀ w ∈ nw_L, w ∈ lw_tbl := by decide +kernel
set_option maxRecDepth 20000 in
theorem kg_nw {s : State} {b : Nat} (hts : ∀ w ∈ lw_tbl, w.before #[Value.ref b] s = true) : NW s := by
  have h : ∀ w ∈ nw_L, w.before #[Value.ref b] s = true := fun w hw => hts w (kg_nwin w hw)
  refine ⟨va_Nw.of rfl (h _ (List.mem_of_getElem? (i := 0) rfl)), va_Nw.of rfl (h _ (List.mem_of_getElem? (i := 1) rfl)), va_Nw.of rfl (h _ (List.mem_of_getElem? (i := 2) rfl)), va_Nw.of rfl (h _ (List.mem_of_getElem? (i := 3) rfl)), va_Nw.of rfl (h _ (List.mem_of_getElem? (i := 4) rfl)), va_Nw.of rfl (h _ (List.mem_of_getElem? (i := 5) rfl)), va_Nw.of rfl (h _ (List.mem_of_getElem? (i := 6) rfl)), va_Nw.of rfl (h _ (List.mem_of_getElem? (i := 7) rfl)), va_Nw.of rfl (h _ (List.mem_of_getElem? (i := 8) rfl)), va_Nw.of rfl (h _ (List.mem_of_getElem? (i := 9) rfl)), va_Nw.of rfl (h _ (List.mem_of_getElem? (i := 10) rfl)), va_Nw.of rfl (h _ (List.mem_of_getElem? (i := 11) rfl)), va_Nw.of rfl (h _ (List.mem_of_getElem? (i := 12) rfl)), va_Nw.of rfl (h _ (List.mem_of_getElem? (i := 13) rfl)), va_Nw.of rfl (h _ (List.mem_of_getElem? (i := 14) rfl)), va_Nw.of rfl (h _ (List.mem_of_getElem? (i := 15) rfl)), va_Nw.of rfl (h _ (List.mem_of_getElem? (i := 16) rfl))⟩
set_option maxRecDepth 20000 in
theorem kg_cls {s : State} {b : Nat} (hts : ∀ w ∈ lw_tbl, w.before #[Value.ref b] s = true) : ∃ (dC : Nat → ClassId) (dI : Nat → Nat → Nat), ∀ (k : Nat) (q : vw_C), vwCl[k]? = some q → u_Kn s q.1 q.2.1 q.2.2 (dC k) (dI k) := by
  obtain ⟨c0, i0, k0⟩ := u_known (C := RX1) (T := TX1) (N := 3) (n := 3) hts wsL_in_wsX10 (hts (.instantiable RX1 3) (by decide +kernel))
  obtain ⟨c1, i1, k1⟩ := u_known (C := RX2) (T := TX2) (N := 2) (n := 2) hts wsL_in_wsX20 (hts (.instantiable RX2 2) (by decide +kernel))
  obtain ⟨c2, i2, k2⟩ := u_known (C := RX3) (T := TX3) (N := 1) (n := 1) hts wsL_in_wsX30 (hts (.instantiable RX3 1) (by decide +kernel))
  obtain ⟨c3, i3, k3⟩ := u_known (C := RX4) (T := TX4) (N := 3) (n := 3) hts wsL_in_wsX40 (hts (.instantiable RX4 3) (by decide +kernel))
  obtain ⟨c4, i4, k4⟩ := u_known (C := RX5) (T := TX5) (N := 5) (n := 5) hts wsL_in_wsX50 (hts (.instantiable RX5 5) (by decide +kernel))
  obtain ⟨c5, i5, k5⟩ := u_known (C := RX6) (T := TX6) (N := 2) (n := 2) hts wsL_in_wsX60 (hts (.instantiable RX6 2) (by decide +kernel))
  obtain ⟨c6, i6, k6⟩ := u_known (C := RX8) (T := TX8) (N := 2) (n := 2) hts wsL_in_wsX80 (hts (.instantiable RX8 2) (by decide +kernel))
  obtain ⟨c7, i7, k7⟩ := u_known (C := RX9) (T := TX9) (N := 4) (n := 4) hts wsL_in_wsX90 (hts (.instantiable RX9 4) (by decide +kernel))
  obtain ⟨c8, i8, k8⟩ := u_known (C := RX10) (T := TX10) (N := 10) (n := 10) hts wsL_in_wsX100 (hts (.instantiable RX10 10) (by decide +kernel))
  obtain ⟨c9, i9, k9⟩ := u_known (C := RX11) (T := TX11) (N := 21) (n := 21) hts wsL_in_wsX110 (hts (.instantiable RX11 21) (by decide +kernel))
  refine ⟨fun k => match k with | 0 => c0 | 1 => c1 | 2 => c2 | 3 => c3 | 4 => c4 | 5 => c5 | 6 => c6 | 7 => c7 | 8 => c8 | _ => c9, fun k => match k with | 0 => i0 | 1 => i1 | 2 => i2 | 3 => i3 | 4 => i4 | 5 => i5 | 6 => i6 | 7 => i7 | 8 => i8 | _ => i9, ?_⟩
  intro k q hq
  match k, hq with
  | 0, hq => cases hq; exact k0
  | 1, hq => cases hq; exact k1
  | 2, hq => cases hq; exact k2
  | 3, hq => cases hq; exact k3
  | 4, hq => cases hq; exact k4
  | 5, hq => cases hq; exact k5
  | 6, hq => cases hq; exact k6
  | 7, hq => cases hq; exact k7
  | 8, hq => cases hq; exact k8
  | 9, hq => cases hq; exact k9
  | k + 10, hq => simp [vwCl] at hq
set_option maxRecDepth 20000 in
theorem kg_start {s : State} {b : Nat} {A : Nat → Prop} (hts : ∀ w ∈ lw_tbl, w.before #[Value.ref b] s = true) (hgv : (Jvm.Cond.and given_1 narrow_1).before #[Value.ref b] s = true) (hA : ∀ a : Nat, a < s.heap.size → ¬ A a) : ∃ G : GG, KG G A s s.heap ∧ AO2 s := by
  have hs := flat_of_before _ hgv
  obtain ⟨dC, dI, hC⟩ := kg_cls hts
  obtain ⟨a0, p0, q0⟩ := kg_int (hts (.arrayClass .int) (by decide +kernel))
  obtain ⟨a1, p1, q1⟩ := kg_byte (hts (.arrayClass .byte) (by decide +kernel))
  obtain ⟨a2, p2, q2⟩ := kg_bool (hts (.arrayClass .boolean) (by decide +kernel))
  have o5 := hts (.arrayOver (.object RX5)) (by decide +kernel)
  have o6 := hts (.arrayOver (.object RX6)) (by decide +kernel)
  obtain ⟨a3, p3, q3⟩ := kg_obj o5
  obtain ⟨a4, p4, q4⟩ := kg_obj o6
  obtain ⟨ad, hE, hev⟩ := kg_enum hts hs hA
  obtain ⟨t7, z7, h7⟩ := kg_so hts hs hA hev
  obtain ⟨t8, z8, h8⟩ := kg_sw hts hs hA
  obtain ⟨ad2, e0, e7, e8⟩ : ∃ ad2 : Nat → Nat, (∀ i, i < 7 → ad2 i = ad i) ∧ ad2 7 = t7 ∧ ad2 8 = t8 := ⟨fun k => if k < 7 then ad k else if k = 7 then t7 else t8, fun i hi => if_pos hi, rfl, rfl⟩
  refine ⟨((dC, dI), (fun k => match k with | 0 => a0 | 1 => a1 | 2 => a2 | 3 => a3 | _ => a4), ad2), ⟨⟨hC, ?_⟩, kg_nw hts, ?_, ⟨?_, ?_⟩, ?_, ?_⟩, va_AO.of o5, va_AO.of o6⟩
  · intro k q hq
    match k, hq with
    | 0, hq => cases hq; exact ⟨p0, q0⟩
    | 1, hq => cases hq; exact ⟨p1, q1⟩
    | 2, hq => cases hq; exact ⟨p2, q2⟩
    | 3, hq => cases hq; exact ⟨p3, q3⟩
    | 4, hq => cases hq; exact ⟨p4, q4⟩
    | k + 5, hq => simp [tysG] at hq
  · refine ⟨fun i hi => ?_, fun i j hi hj e => ?_⟩
    · have h := hE.1 i hi
      show va_Z RX7 (nmS.getD i "") "LTellingRows$Sort;" (.ref (ad2 i)) A s s.heap ∧ va_O RX7 (ad2 i) A s s.heap ∧ ∀ q ∈ flS, va_OF q.1 q.2.1 q.2.2.1 (.int (q.2.2.2.getD i 0)) (ad2 i) A s s.heap
      rw [e0 i hi]
      exact h
    · have e9 : ad2 i = ad2 j := e
      rw [e0 i hi, e0 j hj] at e9
      exact hE.2 i j hi hj e9
  · show va_Z RX10 "SORTS" "[LTellingRows$Sort;" (.ref (ad2 7)) A s s.heap
    rw [e7]
    exact z7
  · show va_T (.object RX7) (ad2 7) 7 (fun j => .ref (ad2 j)) A s s.heap
    rw [e7]
    obtain ⟨cell, g1, g2, g3, g4, g5, g6, g7⟩ := h7
    exact ⟨cell, g1, g2, g3, g4, g5, fun j hj => by show cell.slots[j]? = some (Value.ref (ad2 j)); rw [e0 j hj]; exact g6 j hj, g7⟩
  · show va_Z RX0 "$SwitchMap$TellingRows$Sort" "[I" (.ref (ad2 8)) A s s.heap
    rw [e8]
    exact z8
  · show va_T .int (ad2 8) 7 (fun j => .int (iI (j + 1))) A s s.heap
    rw [e8]
    exact h8
