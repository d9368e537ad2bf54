/-! a row of references, by what stands in it -/
theorem vp_qext {cA : ClassId} {n : Nat} {f f' : Nat → Option Nat} (h : ∀ k, k < n → f k = f' k) : vp_cell cA (n, .inr (.inr (.inr (.inr f)))) = vp_cell cA (n, .inr (.inr (.inr (.inr f')))) := by
  rw [vp_cell_q, vp_cell_q]
  unfold arrV
  congr 2
  funext j
  show va_rf (f j.val) = va_rf (f' j.val)
  rw [h j.val j.isLt]
theorem Wd.qext {G : GG} {A : Nat → Prop} {H0 H : Heap} {ws : va_W} {locs : List Loc} {a n : Nat} {cA : ClassId} {f f' : Nat → Option Nat} (i : Nat) (h : Wd G A H0 ws H locs) (hi : ws[i]? = some (a, .inl (cA, n, .inr (.inr (.inr (.inr f)))))) (hf : ∀ k, k < n → f k = f' k) : Wd G A H0 (ws.set i (a, .inl (cA, n, .inr (.inr (.inr (.inr f')))))) H locs := by
  obtain ⟨h1, h2, h3⟩ := h
  refine ⟨fun k q hq => ?_, h2.set hi, h3⟩
  by_cases e : k = i
  · subst e
    rw [List.getElem?_set_self (List.getElem?_eq_some_iff.mp hi).1] at hq
    cases hq
    have := h1 k _ hi
    show H[a]? = some (vp_cell cA (n, .inr (.inr (.inr (.inr f')))))
    rw [← vp_qext hf]
    exact this
  · rw [List.getElem?_set_ne (Ne.symm e)] at hq
    exact h1 k q hq
theorem plF_snoc {G : GG} {sh sa : Int → Nat} {N : Int → Int} {F : Int → Int → Int} : ∀ (m : Nat) (i : Int), plF G sh sa N F (m + 1) i = plF G sh sa N F m i ++ [plh sh sa (i + m) (N (i + m)), pla G sa (i + m) (F (i + m))] := by
  intro m
  induction m with
  | zero =>
    intro i
    rw [plF, plF, plF, show i + ((0 : Nat) : Int) = i by omega]
    rfl
  | succ m ih =>
    intro i
    rw [plF, ih (i + 1), plF, show i + 1 + (m : Int) = i + ((m + 1 : Nat) : Int) by omega]
    rfl
theorem plF_adr {G : GG} {sh sa sh' sa' : Int → Nat} {N : Int → Int} {F : Int → Int → Int} : ∀ (m : Nat) (i : Int), (∀ j, i ≤ j → j < i + m → sh j = sh' j ∧ sa j = sa' j) → plF G sh sa N F m i = plF G sh' sa' N F m i := by
  intro m
  induction m with
  | zero => intro i h; rfl
  | succ m ih =>
    intro i h
    have h0 := h i (by omega) (by omega)
    rw [plF, plF, ih (i + 1) (fun j j0 j1 => h j (by omega) (by omega))]
    unfold plh pla
    rw [h0.1, h0.2]
/-- i sequences stand in the row f of references -/
def PoolQ (G : GG) (R : va_W) (i : Int) (f : Nat → Option Nat) : Prop := ∃ sh sa : Int → Nat, R = plF G sh sa (fun _ => 0) (fun _ _ => 0) i.toNat 0 ∧ ∀ k : Nat, (k : Int) < i → f k = some (sh k)
theorem PoolQ_0 {G : GG} {f : Nat → Option Nat} : PoolQ G [] 0 f := ⟨fun _ => 0, fun _ => 0, rfl, fun k hk => by omega⟩
theorem PoolQ_s {G : GG} {R : va_W} {i : Int} {f : Nat → Option Nat} {q a : Nat} (hi : 0 ≤ i) (h : PoolQ G R i f) : PoolQ G (R ++ [(q, .inr (5, [.ref a, .int (iI 0)])), (a, .inl (G.2.1 0, 40, .inl (iA (fun _ => 0))))]) (i + 1) (va_up f i.toNat (some q)) := by
  obtain ⟨sh, sa, h1, h2⟩ := h
  refine ⟨fun k => if k = i then q else sh k, fun k => if k = i then a else sa k, ?_, fun k hk => ?_⟩
  · rw [show (i + 1).toNat = i.toNat + 1 by omega, plF_snoc, show (0 : Int) + (i.toNat : Int) = i by omega, h1, plF_adr (sh' := fun k => if k = i then q else sh k) (sa' := fun k => if k = i then a else sa k) i.toNat 0 (fun j j0 j1 => by
      rw [if_neg (by omega), if_neg (by omega)]
      exact ⟨rfl, rfl⟩)]
    have e1 : (fun k : Int => if k = i then q else sh k) i = q := if_pos rfl
    have e2 : (fun k : Int => if k = i then a else sa k) i = a := if_pos rfl
    unfold plh pla
    rw [e1, e2]
  · unfold va_up
    show (if k = i.toNat then some q else f k) = some (if (k : Int) = i then q else sh k)
    by_cases e : k = i.toNat
    · rw [if_pos e, if_pos (by omega)]
    · rw [if_neg e, if_neg (by omega)]
      exact h2 k (by omega)
theorem PoolQ_e {G : GG} {R : va_W} {i : Int} {f : Nat → Option Nat} (hi : i = 61) (h : PoolQ G R i f) : ∃ sh sa : Int → Nat, R = plF G sh sa (fun _ => 0) (fun _ _ => 0) 61 0 ∧ ∀ k : Nat, k < 61 → f k = regF sh k := by
  obtain ⟨sh, sa, h1, h2⟩ := h
  subst hi
  exact ⟨sh, sa, h1, fun k hk => h2 k (by omega)⟩
theorem perm_tail {a b c r : va_W} : ((a ++ b) ++ r).Perm (b ++ (r ++ a)) := by
  rw [← List.append_assoc b r a]
  rw [List.append_assoc a b r]
  exact List.perm_append_comm
set_option maxHeartbeats 4000000 in
set_option maxRecDepth 100000 in
/-- X6_init -/
theorem c_X6_init (l : Launch) (G : GG) (h : Nat) (k : Int) (N : Nat) (hk : k = (N : Int) ∧ N ≤ 100000) : MIc l yX6_init wsX6_init 1 1 N G [.ref h, .int (iI k)] [(h, .inr (5, [.null, .int (iI 0)]))] (fun (u : Nat) => True) (fun (u : Nat) => [(h, .inr (5, [.ref u, .int (iI 0)])), (u, .inl (G.2.1 0, N, .inl (iA (fun _ => 0))))]) := by
  refine MIc.start (own := RX6) (by decide) rfl rfl (Nat.le_of_ble_eq_true rfl) rfl ?_
  intro p9 e9 s9 m9 args below meth c9 A Q C hK hW hA hr hlocks hnm9 hO hQ ls hl
  have hl : lv_has ls 2 [(0, .ref h), (1, .int (iI k))] := hl
  have hin6 : ∀ w ∈ wsX60, w ∈ wsX6_init := by decide +kernel
  refine lv_aload_n C.1 C.2.1 dX6_init_0 rfl (lv_at hl 0 rfl) ?_
  refine z_obj C hl.1 (C.2.2.2.2 (.methodLink RX6 3 objectInit) (List.mem_of_getElem? (i := 1) rfl)) (C.2.2.2.2 (.instanceMethod objectInit) (List.mem_of_getElem? (i := 2) rfl)) (C.2.2.2.2 (.code objectInit ⟨#[0xb1]⟩ 1 none) (List.mem_of_getElem? (i := 3) rfl)) (Nat.le_of_ble_eq_true rfl) (Nat.le_of_ble_eq_true rfl) dX6_init_1 ?_
  refine lv_aload_n C.1 C.2.1 dX6_init_4 rfl (lv_at hl 0 rfl) ?_
  refine lv_iload_n C.1 C.2.1 dX6_init_5 rfl (lv_at hl 1 rfl) ?_
  refine lv_iconst (v := iI 0) C.1 C.2.1 dX6_init_6 rfl ?_
  refine z_mmax C hl.1 (C.2.2.2.2 (.methodLink RX6 9 Lib.Math.max.name) (List.mem_of_getElem? (i := 4) rfl)) (C.2.2.2.2 (.static Lib.Math.max.name) (List.mem_of_getElem? (i := 5) rfl)) (C.2.2.2.2 (.initialized "java/lang/Math") (List.mem_of_getElem? (i := 6) rfl)) (C.2.2.2.2 (.code Lib.Math.max.name Lib.Math.max.code 2 (some .int)) (List.mem_of_getElem? (i := 7) rfl)) (Nat.le_of_ble_eq_true rfl) (Nat.le_of_ble_eq_true rfl) (Nat.zero_le _) (Nat.zero_le _) (by omega) dX6_init_7 ?_
  refine z_newaI C hK hW hA (C.2.2.2.2 (.arrayClass .int) (List.mem_of_getElem? (i := 8) rfl)) N ⟨by omega, hk.2⟩ (Nat.le_of_ble_eq_true rfl) (by show 0 + N ≤ N; omega) dX6_init_10 (fun q9v H hW => ?_)
  refine z_putF C hK hW hin6 tyX6 tyX6_ok nmX6 1 rfl rfl 0 (by decide) (C.2.2.2.2 (.fieldLink RX6 15 "TellingRows$Sequence" "items" "[I") (List.mem_of_getElem? (i := 9) rfl)) (fun _ h9 => h9) rfl hnm9 rfl rfl rfl (Nat.le_of_ble_eq_true rfl) dX6_init_12 (fun H locs hW => ?_)
  have hW : Wd G A s9.heap [(q9v, .inl (G.2.1 0, N, .inl (iA (fun _ => 0)))), (h, .inr (5, [.ref q9v, .int (iI 0)]))] H locs := hW
  rw [hQ]
  have hP9 : True := trivial
  exact z_vretI C hr hlocks (Wd.sub hW [1, 0] rfl (by decide)) q9v rfl hP9 ⟨Nat.le_of_ble_eq_true rfl, by show 0 + N ≤ N; omega⟩ dX6_init_15
set_option maxHeartbeats 4000000 in
set_option maxRecDepth 100000 in
/-- X3_init -/
theorem c_X3_init (l : Launch) (G : GG) (h : Nat) : MIc l yX3_init wsX3_init 1 1 60001 G [.ref h] [(h, .inr (2, [.null]))] (fun (u : Nat) => True) (fun (u : Nat) => [(h, .inr (2, [.ref u])), (u, .inl (G.2.1 0, 60001, .inl (iA (fun _ => 0))))]) := by
  refine MIc.start (own := RX3) (by decide) rfl rfl (Nat.le_of_ble_eq_true rfl) rfl ?_
  intro p9 e9 s9 m9 args below meth c9 A Q C hK hW hA hr hlocks hnm9 hO hQ ls hl
  have hl : lv_has ls 1 [(0, .ref h)] := hl
  have hin3 : ∀ w ∈ wsX30, w ∈ wsX3_init := by decide +kernel
  refine lv_aload_n C.1 C.2.1 dX3_init_0 rfl (lv_at hl 0 rfl) ?_
  refine z_obj C hl.1 (C.2.2.2.2 (.methodLink RX3 3 objectInit) (List.mem_of_getElem? (i := 1) rfl)) (C.2.2.2.2 (.instanceMethod objectInit) (List.mem_of_getElem? (i := 2) rfl)) (C.2.2.2.2 (.code objectInit ⟨#[0xb1]⟩ 1 none) (List.mem_of_getElem? (i := 3) rfl)) (Nat.le_of_ble_eq_true rfl) (Nat.le_of_ble_eq_true rfl) dX3_init_1 ?_
  refine lv_aload_n C.1 C.2.1 dX3_init_4 rfl (lv_at hl 0 rfl) ?_
  refine z_ldc (z := 60001) C (C.2.2.2.2 (.constant RX3 9 (60001)) (List.mem_of_getElem? (i := 4) rfl)) (by decide +kernel) dX3_init_5 ?_
  refine z_newaI C hK hW hA (C.2.2.2.2 (.arrayClass .int) (List.mem_of_getElem? (i := 5) rfl)) 60001 ⟨rfl, by omega⟩ (Nat.le_of_ble_eq_true rfl) (Nat.le_of_ble_eq_true rfl) dX3_init_7 (fun q9v H hW => ?_)
  refine z_putF C hK hW hin3 tyX3 tyX3_ok nmX3 1 rfl rfl 0 (by decide) (C.2.2.2.2 (.fieldLink RX3 10 "TellingRows$Marks" "marks" "[I") (List.mem_of_getElem? (i := 6) rfl)) (fun _ h9 => h9) rfl hnm9 rfl rfl rfl (Nat.le_of_ble_eq_true rfl) dX3_init_9 (fun H locs hW => ?_)
  have hW : Wd G A s9.heap [(q9v, .inl (G.2.1 0, 60001, .inl (iA (fun _ => 0)))), (h, .inr (2, [.ref q9v]))] H locs := hW
  rw [hQ]
  have hP9 : True := trivial
  exact z_vretI C hr hlocks (Wd.sub hW [1, 0] rfl (by decide)) q9v rfl hP9 ⟨Nat.le_of_ble_eq_true rfl, Nat.le_of_ble_eq_true rfl⟩ dX3_init_12
set_option maxHeartbeats 4000000 in
set_option maxRecDepth 100000 in
/-- X2_init -/
theorem c_X2_init (l : Launch) (G : GG) (h : Nat) (mk : Nat) : MIc l yX2_init wsX2_init 1 1 1000 G [.ref h, .ref mk] [(h, .inr (1, [.null, .null]))] (fun (u : Nat) => True) (fun (u : Nat) => [(h, .inr (1, [.ref mk, .ref u])), (u, .inl (G.2.1 0, 1000, .inl (iA (fun _ => 0))))]) := by
  refine MIc.start (own := RX2) (by decide) rfl rfl (Nat.le_of_ble_eq_true rfl) rfl ?_
  intro p9 e9 s9 m9 args below meth c9 A Q C hK hW hA hr hlocks hnm9 hO hQ ls hl
  have hl : lv_has ls 2 [(0, .ref h), (1, .ref mk)] := hl
  have hin2 : ∀ w ∈ wsX20, w ∈ wsX2_init := by decide +kernel
  refine lv_aload_n C.1 C.2.1 dX2_init_0 rfl (lv_at hl 0 rfl) ?_
  refine z_obj C hl.1 (C.2.2.2.2 (.methodLink RX2 3 objectInit) (List.mem_of_getElem? (i := 1) rfl)) (C.2.2.2.2 (.instanceMethod objectInit) (List.mem_of_getElem? (i := 2) rfl)) (C.2.2.2.2 (.code objectInit ⟨#[0xb1]⟩ 1 none) (List.mem_of_getElem? (i := 3) rfl)) (Nat.le_of_ble_eq_true rfl) (Nat.le_of_ble_eq_true rfl) dX2_init_1 ?_
  refine lv_aload_n C.1 C.2.1 dX2_init_4 rfl (lv_at hl 0 rfl) ?_
  refine lv_sipush (v := iI 1000) C.1 C.2.1 dX2_init_5 (by decide +kernel) ?_
  refine z_newaI C hK hW hA (C.2.2.2.2 (.arrayClass .int) (List.mem_of_getElem? (i := 4) rfl)) 1000 ⟨rfl, by omega⟩ (Nat.le_of_ble_eq_true rfl) (Nat.le_of_ble_eq_true rfl) dX2_init_8 (fun q9v H hW => ?_)
  refine z_putF C hK hW hin2 tyX2 tyX2_ok nmX2 1 rfl rfl 1 (by decide) (C.2.2.2.2 (.fieldLink RX2 9 "TellingRows$Maker" "alike" "[I") (List.mem_of_getElem? (i := 5) rfl)) (fun _ h9 => h9) rfl hnm9 rfl rfl rfl (Nat.le_of_ble_eq_true rfl) dX2_init_10 (fun H locs hW => ?_)
  have hW : Wd G A s9.heap [(q9v, .inl (G.2.1 0, 1000, .inl (iA (fun _ => 0)))), (h, .inr (1, [.null, .ref q9v]))] H locs := hW
  refine lv_aload_n C.1 C.2.1 dX2_init_13 rfl (lv_at hl 0 rfl) ?_
  refine lv_aload_n C.1 C.2.1 dX2_init_14 rfl (lv_at hl 1 rfl) ?_
  refine z_putF C hK hW hin2 tyX2 tyX2_ok nmX2 1 rfl rfl 0 (by decide) (C.2.2.2.2 (.fieldLink RX2 15 "TellingRows$Maker" "marks" "LTellingRows$Marks;") (List.mem_of_getElem? (i := 6) rfl)) (fun _ h9 => h9) rfl hnm9 rfl rfl rfl (Nat.le_of_ble_eq_true rfl) dX2_init_15 (fun H locs hW => ?_)
  have hW : Wd G A s9.heap [(q9v, .inl (G.2.1 0, 1000, .inl (iA (fun _ => 0)))), (h, .inr (1, [.ref mk, .ref q9v]))] H locs := hW
  rw [hQ]
  have hP9 : True := trivial
  exact z_vretI C hr hlocks (Wd.sub hW [1, 0] rfl (by decide)) q9v rfl hP9 ⟨Nat.le_of_ble_eq_true rfl, Nat.le_of_ble_eq_true rfl⟩ dX2_init_18
set_option maxHeartbeats 4000000 in
set_option maxRecDepth 100000 in
/-- X9_init -/
theorem c_X9_init (l : Launch) (G : GG) (h : Nat) : MIc l yX9_init wsX9_init 1 1 10 G [.ref h] [(h, .inr (7, [.null, .int (iI 0), .int (iI 0), .long (lI 0)]))] (fun (u : Nat) => True) (fun (u : Nat) => [(h, .inr (7, [.ref u, .int (iI 0), .int (iI 0), .long (lI 0)])), (u, .inl (G.2.1 0, 10, .inl (iA (fun _ => 0))))]) := by
  refine MIc.start (own := RX9) (by decide) rfl rfl (Nat.le_of_ble_eq_true rfl) rfl ?_
  intro p9 e9 s9 m9 args below meth c9 A Q C hK hW hA hr hlocks hnm9 hO hQ ls hl
  have hl : lv_has ls 1 [(0, .ref h)] := hl
  have hin9 : ∀ w ∈ wsX90, w ∈ wsX9_init := by decide +kernel
  refine lv_aload_n C.1 C.2.1 dX9_init_0 rfl (lv_at hl 0 rfl) ?_
  refine z_obj C hl.1 (C.2.2.2.2 (.methodLink RX9 3 objectInit) (List.mem_of_getElem? (i := 1) rfl)) (C.2.2.2.2 (.instanceMethod objectInit) (List.mem_of_getElem? (i := 2) rfl)) (C.2.2.2.2 (.code objectInit ⟨#[0xb1]⟩ 1 none) (List.mem_of_getElem? (i := 3) rfl)) (Nat.le_of_ble_eq_true rfl) (Nat.le_of_ble_eq_true rfl) dX9_init_1 ?_
  refine lv_aload_n C.1 C.2.1 dX9_init_4 rfl (lv_at hl 0 rfl) ?_
  refine lv_bipush (v := iI 10) C.1 C.2.1 dX9_init_5 (by decide +kernel) ?_
  refine z_newaI C hK hW hA (C.2.2.2.2 (.arrayClass .int) (List.mem_of_getElem? (i := 4) rfl)) 10 ⟨rfl, by omega⟩ (Nat.le_of_ble_eq_true rfl) (Nat.le_of_ble_eq_true rfl) dX9_init_7 (fun q9v H hW => ?_)
  refine z_putF C hK hW hin9 tyX9 tyX9_ok nmX9 1 rfl rfl 0 (by decide) (C.2.2.2.2 (.fieldLink RX9 9 "TellingRows$TellerSearch" "figures" "[I") (List.mem_of_getElem? (i := 5) rfl)) (fun _ h9 => h9) rfl hnm9 rfl rfl rfl (Nat.le_of_ble_eq_true rfl) dX9_init_9 (fun H locs hW => ?_)
  have hW : Wd G A s9.heap [(q9v, .inl (G.2.1 0, 10, .inl (iA (fun _ => 0)))), (h, .inr (7, [.ref q9v, .int (iI 0), .int (iI 0), .long (lI 0)]))] H locs := hW
  rw [hQ]
  have hP9 : True := trivial
  exact z_vretI C hr hlocks (Wd.sub hW [1, 0] rfl (by decide)) q9v rfl hP9 ⟨Nat.le_of_ble_eq_true rfl, Nat.le_of_ble_eq_true rfl⟩ dX9_init_12
set_option maxHeartbeats 4000000 in
set_option maxRecDepth 100000 in
/-- X1_init -/
theorem c_X1_init (l : Launch) (G : GG) (h : Nat) : MIc l yX1_init wsX1_init 2 4 18 G [.ref h] [(h, .inr (0, [.null, .null, .int (iI 0)]))] (fun (u : Nat × Nat × Nat × Nat) => True) (fun (u : Nat × Nat × Nat × Nat) => [(h, .inr (0, [.ref u.1, .ref u.2.2.1, .int (iI 0)])), (u.1, .inr (5, [.ref u.2.1, .int (iI 0)])), (u.2.1, .inl (G.2.1 0, 8, .inl (iA (fun _ => 0)))), (u.2.2.1, .inr (5, [.ref u.2.2.2, .int (iI 0)])), (u.2.2.2, .inl (G.2.1 0, 6, .inl (iA (fun _ => 0))))]) := by
  refine MIc.start (own := RX1) (by decide) rfl rfl (Nat.le_of_ble_eq_true rfl) rfl ?_
  intro p9 e9 s9 m9 args below meth c9 A Q C hK hW hA hr hlocks hnm9 hO hQ ls hl
  have hl : lv_has ls 1 [(0, .ref h)] := hl
  have hin1 : ∀ w ∈ wsX10, w ∈ wsX1_init := by decide +kernel
  have hin6 : ∀ w ∈ wsX60, w ∈ wsX1_init := by decide +kernel
  refine lv_aload_n C.1 C.2.1 dX1_init_0 rfl (lv_at hl 0 rfl) ?_
  refine z_obj C hl.1 (C.2.2.2.2 (.methodLink RX1 3 objectInit) (List.mem_of_getElem? (i := 1) rfl)) (C.2.2.2.2 (.instanceMethod objectInit) (List.mem_of_getElem? (i := 2) rfl)) (C.2.2.2.2 (.code objectInit ⟨#[0xb1]⟩ 1 none) (List.mem_of_getElem? (i := 3) rfl)) (Nat.le_of_ble_eq_true rfl) (Nat.le_of_ble_eq_true rfl) dX1_init_1 ?_
  refine lv_aload_n C.1 C.2.1 dX1_init_4 rfl (lv_at hl 0 rfl) ?_
  refine z_new C hK hW hA (ci := 5) (fs := [.null, .int (iI 0)]) hin6 tyX6 tyX6_ok (C.2.2.2.2 (.classLink RX1 9 RX6) (List.mem_of_getElem? (i := 4) rfl)) (C.2.2.2.2 (.instantiable RX6 2) (List.mem_of_getElem? (i := 5) rfl)) (C.2.2.2.2 (.initialized RX6) (List.mem_of_getElem? (i := 6) rfl)) rfl (fun j hj => by rcases (show j = 0 ∨ j = 1 by omega) with rfl | rfl <;> rfl) (Nat.le_of_ble_eq_true rfl) (Nat.le_of_ble_eq_true rfl) dX1_init_5 (fun q9v H hW => ?_)
  refine lv_dup C.1 C.2.1 dX1_init_8 rfl ?_
  refine lv_bipush (v := iI 8) C.1 C.2.1 dX1_init_9 (by decide +kernel) ?_
  have hW : Wd G A s9.heap ([(q9v, .inr (5, [.null, .int (iI 0)]))] ++ [(h, .inr (0, [.null, .null, .int (iI 0)]))]) H [] := hW
  refine z_callI (va_runI (As := [.int (iI 8)]) (rest := [.ref q9v, .ref h]) C (c_X6_init l G q9v 8 8 (by first | omega | assumption | (intros; first | rfl | omega | assumption | (and_intros <;> first | rfl | omega | assumption))) H.size) (cwI 1 C.2.2.2.2 gX1_init_X6_init rfl rfl rfl (C.2.2.2.2 (.initialized RX6) (List.mem_of_getElem? (i := 6) rfl)) (C.2.2.2.2 (.methodLink RX1 11 yX6_init) (List.mem_of_getElem? (i := 9) rfl)) (C.2.2.2.2 (.instanceMethod yX6_init) (List.mem_of_getElem? (i := 10) rfl)) rfl (by decide +kernel) ⟨Nat.le_of_ble_eq_true rfl, Nat.le_of_ble_eq_true rfl⟩) (z_preI hK hO hW hA) rfl rfl hl.1 rfl (lv_room (Nat.le_of_ble_eq_true rfl)) dX1_init_11 ⟨Nat.le_of_ble_eq_true rfl, Nat.le_of_ble_eq_true rfl⟩) hW hA (fun u H locs hp hW => ?_)
  obtain ⟨q_11, rfl⟩ : ∃ q9, q9 = u := ⟨_, rfl⟩
  have hW : Wd G A s9.heap [(q9v, .inr (5, [.ref q_11, .int (iI 0)])), (q_11, .inl (G.2.1 0, 8, .inl (iA (fun _ => 0)))), (h, .inr (0, [.null, .null, .int (iI 0)]))] H locs := hW
  refine z_putF C hK hW hin1 tyX1 tyX1_ok nmX1 2 rfl rfl 0 (by decide) (C.2.2.2.2 (.fieldLink RX1 14 "TellingRows$Item" "read" "LTellingRows$Sequence;") (List.mem_of_getElem? (i := 7) rfl)) (fun _ h9 => h9) rfl hnm9 rfl rfl rfl (Nat.le_of_ble_eq_true rfl) dX1_init_14 (fun H locs hW => ?_)
  have hW : Wd G A s9.heap [(q9v, .inr (5, [.ref q_11, .int (iI 0)])), (q_11, .inl (G.2.1 0, 8, .inl (iA (fun _ => 0)))), (h, .inr (0, [.ref q9v, .null, .int (iI 0)]))] H locs := hW
  refine lv_aload_n C.1 C.2.1 dX1_init_17 rfl (lv_at hl 0 rfl) ?_
  refine z_new C hK hW hA (ci := 5) (fs := [.null, .int (iI 0)]) hin6 tyX6 tyX6_ok (C.2.2.2.2 (.classLink RX1 9 RX6) (List.mem_of_getElem? (i := 4) rfl)) (C.2.2.2.2 (.instantiable RX6 2) (List.mem_of_getElem? (i := 5) rfl)) (C.2.2.2.2 (.initialized RX6) (List.mem_of_getElem? (i := 6) rfl)) rfl (fun j hj => by rcases (show j = 0 ∨ j = 1 by omega) with rfl | rfl <;> rfl) (Nat.le_of_ble_eq_true rfl) (Nat.le_of_ble_eq_true rfl) dX1_init_18 (fun q9w H hW => ?_)
  refine lv_dup C.1 C.2.1 dX1_init_21 rfl ?_
  refine lv_bipush (v := iI 6) C.1 C.2.1 dX1_init_22 (by decide +kernel) ?_
  have hW : Wd G A s9.heap ([(q9w, .inr (5, [.null, .int (iI 0)]))] ++ [(q9v, .inr (5, [.ref q_11, .int (iI 0)])), (q_11, .inl (G.2.1 0, 8, .inl (iA (fun _ => 0)))), (h, .inr (0, [.ref q9v, .null, .int (iI 0)]))]) H locs := hW
  refine z_callI (va_runI (As := [.int (iI 6)]) (rest := [.ref q9w, .ref h]) C (c_X6_init l G q9w 6 6 (by first | omega | assumption | (intros; first | rfl | omega | assumption | (and_intros <;> first | rfl | omega | assumption))) H.size) (cwI 1 C.2.2.2.2 gX1_init_X6_init rfl rfl rfl (C.2.2.2.2 (.initialized RX6) (List.mem_of_getElem? (i := 6) rfl)) (C.2.2.2.2 (.methodLink RX1 11 yX6_init) (List.mem_of_getElem? (i := 9) rfl)) (C.2.2.2.2 (.instanceMethod yX6_init) (List.mem_of_getElem? (i := 10) rfl)) rfl (by decide +kernel) ⟨Nat.le_of_ble_eq_true rfl, Nat.le_of_ble_eq_true rfl⟩) (z_preI hK hO hW hA) rfl rfl hl.1 rfl (lv_room (Nat.le_of_ble_eq_true rfl)) dX1_init_24 ⟨Nat.le_of_ble_eq_true rfl, Nat.le_of_ble_eq_true rfl⟩) hW hA (fun u H locs hp hW => ?_)
  obtain ⟨q_24, rfl⟩ : ∃ q9, q9 = u := ⟨_, rfl⟩
  have hW : Wd G A s9.heap [(q9w, .inr (5, [.ref q_24, .int (iI 0)])), (q_24, .inl (G.2.1 0, 6, .inl (iA (fun _ => 0)))), (q9v, .inr (5, [.ref q_11, .int (iI 0)])), (q_11, .inl (G.2.1 0, 8, .inl (iA (fun _ => 0)))), (h, .inr (0, [.ref q9v, .null, .int (iI 0)]))] H locs := hW
  refine z_putF C hK hW hin1 tyX1 tyX1_ok nmX1 4 rfl rfl 1 (by decide) (C.2.2.2.2 (.fieldLink RX1 20 "TellingRows$Item" "beginnings" "LTellingRows$Sequence;") (List.mem_of_getElem? (i := 8) rfl)) (fun _ h9 => h9) rfl hnm9 rfl rfl rfl (Nat.le_of_ble_eq_true rfl) dX1_init_27 (fun H locs hW => ?_)
  have hW : Wd G A s9.heap [(q9w, .inr (5, [.ref q_24, .int (iI 0)])), (q_24, .inl (G.2.1 0, 6, .inl (iA (fun _ => 0)))), (q9v, .inr (5, [.ref q_11, .int (iI 0)])), (q_11, .inl (G.2.1 0, 8, .inl (iA (fun _ => 0)))), (h, .inr (0, [.ref q9v, .ref q9w, .int (iI 0)]))] H locs := hW
  rw [hQ]
  have hP9 : True := trivial
  exact z_vretI C hr hlocks (Wd.sub hW [4, 2, 3, 0, 1] rfl (by decide)) (q9v, q_11, q9w, q_24) rfl hP9 ⟨Nat.le_of_ble_eq_true rfl, Nat.le_of_ble_eq_true rfl⟩ dX1_init_30
set_option maxHeartbeats 4000000 in
set_option maxRecDepth 100000 in
/-- X8_init -/
theorem c_X8_init (l : Launch) (G : GG) (h : Nat) : MIc l yX8_init wsX8_init 2 4 10004 G [.ref h] [(h, .inr (6, [.null, .null]))] (fun (u : Nat × Nat × Nat × Nat) => True) (fun (u : Nat × Nat × Nat × Nat) => [(h, .inr (6, [.ref u.1, .ref u.2.2.1])), (u.1, .inr (5, [.ref u.2.1, .int (iI 0)])), (u.2.1, .inl (G.2.1 0, 5000, .inl (iA (fun _ => 0)))), (u.2.2.1, .inr (5, [.ref u.2.2.2, .int (iI 0)])), (u.2.2.2, .inl (G.2.1 0, 5000, .inl (iA (fun _ => 0))))]) := by
  refine MIc.start (own := RX8) (by decide) rfl rfl (Nat.le_of_ble_eq_true rfl) rfl ?_
  intro p9 e9 s9 m9 args below meth c9 A Q C hK hW hA hr hlocks hnm9 hO hQ ls hl
  have hl : lv_has ls 1 [(0, .ref h)] := hl
  have hin6 : ∀ w ∈ wsX60, w ∈ wsX8_init := by decide +kernel
  have hin8 : ∀ w ∈ wsX80, w ∈ wsX8_init := by decide +kernel
  refine lv_aload_n C.1 C.2.1 dX8_init_0 rfl (lv_at hl 0 rfl) ?_
  refine z_obj C hl.1 (C.2.2.2.2 (.methodLink RX8 3 objectInit) (List.mem_of_getElem? (i := 1) rfl)) (C.2.2.2.2 (.instanceMethod objectInit) (List.mem_of_getElem? (i := 2) rfl)) (C.2.2.2.2 (.code objectInit ⟨#[0xb1]⟩ 1 none) (List.mem_of_getElem? (i := 3) rfl)) (Nat.le_of_ble_eq_true rfl) (Nat.le_of_ble_eq_true rfl) dX8_init_1 ?_
  refine lv_aload_n C.1 C.2.1 dX8_init_4 rfl (lv_at hl 0 rfl) ?_
  refine z_new C hK hW hA (ci := 5) (fs := [.null, .int (iI 0)]) hin6 tyX6 tyX6_ok (C.2.2.2.2 (.classLink RX8 9 RX6) (List.mem_of_getElem? (i := 4) rfl)) (C.2.2.2.2 (.instantiable RX6 2) (List.mem_of_getElem? (i := 5) rfl)) (C.2.2.2.2 (.initialized RX6) (List.mem_of_getElem? (i := 6) rfl)) rfl (fun j hj => by rcases (show j = 0 ∨ j = 1 by omega) with rfl | rfl <;> rfl) (Nat.le_of_ble_eq_true rfl) (Nat.le_of_ble_eq_true rfl) dX8_init_5 (fun q9v H hW => ?_)
  refine lv_dup C.1 C.2.1 dX8_init_8 rfl ?_
  refine lv_sipush (v := iI 5000) C.1 C.2.1 dX8_init_9 (by decide +kernel) ?_
  have hW : Wd G A s9.heap ([(q9v, .inr (5, [.null, .int (iI 0)]))] ++ [(h, .inr (6, [.null, .null]))]) H [] := hW
  refine z_callI (va_runI (As := [.int (iI 5000)]) (rest := [.ref q9v, .ref h]) C (c_X6_init l G q9v 5000 5000 (by first | omega | assumption | (intros; first | rfl | omega | assumption | (and_intros <;> first | rfl | omega | assumption))) H.size) (cwI 1 C.2.2.2.2 gX8_init_X6_init rfl rfl rfl (C.2.2.2.2 (.initialized RX6) (List.mem_of_getElem? (i := 6) rfl)) (C.2.2.2.2 (.methodLink RX8 11 yX6_init) (List.mem_of_getElem? (i := 9) rfl)) (C.2.2.2.2 (.instanceMethod yX6_init) (List.mem_of_getElem? (i := 10) rfl)) rfl (by decide +kernel) ⟨Nat.le_of_ble_eq_true rfl, Nat.le_of_ble_eq_true rfl⟩) (z_preI hK hO hW hA) rfl rfl hl.1 rfl (lv_room (Nat.le_of_ble_eq_true rfl)) dX8_init_12 ⟨Nat.le_of_ble_eq_true rfl, Nat.le_of_ble_eq_true rfl⟩) hW hA (fun u H locs hp hW => ?_)
  obtain ⟨q_12, rfl⟩ : ∃ q9, q9 = u := ⟨_, rfl⟩
  have hW : Wd G A s9.heap [(q9v, .inr (5, [.ref q_12, .int (iI 0)])), (q_12, .inl (G.2.1 0, 5000, .inl (iA (fun _ => 0)))), (h, .inr (6, [.null, .null]))] H locs := hW
  refine z_putF C hK hW hin8 tyX8 tyX8_ok nmX8 2 rfl rfl 0 (by decide) (C.2.2.2.2 (.fieldLink RX8 14 "TellingRows$Speaker" "one" "LTellingRows$Sequence;") (List.mem_of_getElem? (i := 7) rfl)) (fun _ h9 => h9) rfl hnm9 rfl rfl rfl (Nat.le_of_ble_eq_true rfl) dX8_init_15 (fun H locs hW => ?_)
  have hW : Wd G A s9.heap [(q9v, .inr (5, [.ref q_12, .int (iI 0)])), (q_12, .inl (G.2.1 0, 5000, .inl (iA (fun _ => 0)))), (h, .inr (6, [.ref q9v, .null]))] H locs := hW
  refine lv_aload_n C.1 C.2.1 dX8_init_18 rfl (lv_at hl 0 rfl) ?_
  refine z_new C hK hW hA (ci := 5) (fs := [.null, .int (iI 0)]) hin6 tyX6 tyX6_ok (C.2.2.2.2 (.classLink RX8 9 RX6) (List.mem_of_getElem? (i := 4) rfl)) (C.2.2.2.2 (.instantiable RX6 2) (List.mem_of_getElem? (i := 5) rfl)) (C.2.2.2.2 (.initialized RX6) (List.mem_of_getElem? (i := 6) rfl)) rfl (fun j hj => by rcases (show j = 0 ∨ j = 1 by omega) with rfl | rfl <;> rfl) (Nat.le_of_ble_eq_true rfl) (Nat.le_of_ble_eq_true rfl) dX8_init_19 (fun q9w H hW => ?_)
  refine lv_dup C.1 C.2.1 dX8_init_22 rfl ?_
  refine lv_sipush (v := iI 5000) C.1 C.2.1 dX8_init_23 (by decide +kernel) ?_
  have hW : Wd G A s9.heap ([(q9w, .inr (5, [.null, .int (iI 0)]))] ++ [(q9v, .inr (5, [.ref q_12, .int (iI 0)])), (q_12, .inl (G.2.1 0, 5000, .inl (iA (fun _ => 0)))), (h, .inr (6, [.ref q9v, .null]))]) H locs := hW
  refine z_callI (va_runI (As := [.int (iI 5000)]) (rest := [.ref q9w, .ref h]) C (c_X6_init l G q9w 5000 5000 (by first | omega | assumption | (intros; first | rfl | omega | assumption | (and_intros <;> first | rfl | omega | assumption))) H.size) (cwI 1 C.2.2.2.2 gX8_init_X6_init rfl rfl rfl (C.2.2.2.2 (.initialized RX6) (List.mem_of_getElem? (i := 6) rfl)) (C.2.2.2.2 (.methodLink RX8 11 yX6_init) (List.mem_of_getElem? (i := 9) rfl)) (C.2.2.2.2 (.instanceMethod yX6_init) (List.mem_of_getElem? (i := 10) rfl)) rfl (by decide +kernel) ⟨Nat.le_of_ble_eq_true rfl, Nat.le_of_ble_eq_true rfl⟩) (z_preI hK hO hW hA) rfl rfl hl.1 rfl (lv_room (Nat.le_of_ble_eq_true rfl)) dX8_init_26 ⟨Nat.le_of_ble_eq_true rfl, Nat.le_of_ble_eq_true rfl⟩) hW hA (fun u H locs hp hW => ?_)
  obtain ⟨q_26, rfl⟩ : ∃ q9, q9 = u := ⟨_, rfl⟩
  have hW : Wd G A s9.heap [(q9w, .inr (5, [.ref q_26, .int (iI 0)])), (q_26, .inl (G.2.1 0, 5000, .inl (iA (fun _ => 0)))), (q9v, .inr (5, [.ref q_12, .int (iI 0)])), (q_12, .inl (G.2.1 0, 5000, .inl (iA (fun _ => 0)))), (h, .inr (6, [.ref q9v, .null]))] H locs := hW
  refine z_putF C hK hW hin8 tyX8 tyX8_ok nmX8 4 rfl rfl 1 (by decide) (C.2.2.2.2 (.fieldLink RX8 20 "TellingRows$Speaker" "other" "LTellingRows$Sequence;") (List.mem_of_getElem? (i := 8) rfl)) (fun _ h9 => h9) rfl hnm9 rfl rfl rfl (Nat.le_of_ble_eq_true rfl) dX8_init_29 (fun H locs hW => ?_)
  have hW : Wd G A s9.heap [(q9w, .inr (5, [.ref q_26, .int (iI 0)])), (q_26, .inl (G.2.1 0, 5000, .inl (iA (fun _ => 0)))), (q9v, .inr (5, [.ref q_12, .int (iI 0)])), (q_12, .inl (G.2.1 0, 5000, .inl (iA (fun _ => 0)))), (h, .inr (6, [.ref q9v, .ref q9w]))] H locs := hW
  rw [hQ]
  have hP9 : True := trivial
  exact z_vretI C hr hlocks (Wd.sub hW [4, 2, 3, 0, 1] rfl (by decide)) (q9v, q_12, q9w, q_26) rfl hP9 ⟨Nat.le_of_ble_eq_true rfl, Nat.le_of_ble_eq_true rfl⟩ dX8_init_32
set_option maxHeartbeats 4000000 in
set_option maxRecDepth 100000 in
/-- X5_init -/
theorem c_X5_init (l : Launch) (G : GG) (h : Nat) : MIc l yX5_init wsX5_init 2 3 2008 G [.ref h] [(h, .inr (4, [.null, .null, .null, .int (iI 0), .int (iI 0)]))] (fun (u : Nat × Nat × Nat × (Int → Int)) => (u.2.2.2 0 = 1 ∧ u.2.2.2 1 = 1) ∧ (BD u.2.2.2)) (fun (u : Nat × Nat × Nat × (Int → Int)) => [(h, .inr (4, [.ref u.1, .ref u.2.2.1, .ref (G.2.2 0), .int (iI 0), .int (iI 0)])), (u.1, .inr (5, [.ref u.2.1, .int (iI 2)])), (u.2.1, .inl (G.2.1 0, 6, .inl (iA u.2.2.2))), (u.2.2.1, .inl (G.2.1 0, 2000, .inl (iA (fun _ => 0))))]) := by
  refine MIc.start (own := RX5) (by decide) rfl rfl (Nat.le_of_ble_eq_true rfl) rfl ?_
  intro p9 e9 s9 m9 args below meth c9 A Q C hK hW hA hr hlocks hnm9 hO hQ ls hl
  have hl : lv_has ls 1 [(0, .ref h)] := hl
  have hin5 : ∀ w ∈ wsX50, w ∈ wsX5_init := by decide +kernel
  have hin6 : ∀ w ∈ wsX60, w ∈ wsX5_init := by decide +kernel
  refine lv_aload_n C.1 C.2.1 dX5_init_0 rfl (lv_at hl 0 rfl) ?_
  refine z_obj C hl.1 (C.2.2.2.2 (.methodLink RX5 3 objectInit) (List.mem_of_getElem? (i := 1) rfl)) (C.2.2.2.2 (.instanceMethod objectInit) (List.mem_of_getElem? (i := 2) rfl)) (C.2.2.2.2 (.code objectInit ⟨#[0xb1]⟩ 1 none) (List.mem_of_getElem? (i := 3) rfl)) (Nat.le_of_ble_eq_true rfl) (Nat.le_of_ble_eq_true rfl) dX5_init_1 ?_
  refine lv_aload_n C.1 C.2.1 dX5_init_4 rfl (lv_at hl 0 rfl) ?_
  refine z_new C hK hW hA (ci := 5) (fs := [.null, .int (iI 0)]) hin6 tyX6 tyX6_ok (C.2.2.2.2 (.classLink RX5 9 RX6) (List.mem_of_getElem? (i := 4) rfl)) (C.2.2.2.2 (.instantiable RX6 2) (List.mem_of_getElem? (i := 5) rfl)) (C.2.2.2.2 (.initialized RX6) (List.mem_of_getElem? (i := 6) rfl)) rfl (fun j hj => by rcases (show j = 0 ∨ j = 1 by omega) with rfl | rfl <;> rfl) (Nat.le_of_ble_eq_true rfl) (Nat.le_of_ble_eq_true rfl) dX5_init_5 (fun q9v H hW => ?_)
  refine lv_dup C.1 C.2.1 dX5_init_8 rfl ?_
  refine lv_bipush (v := iI 6) C.1 C.2.1 dX5_init_9 (by decide +kernel) ?_
  have hW : Wd G A s9.heap ([(q9v, .inr (5, [.null, .int (iI 0)]))] ++ [(h, .inr (4, [.null, .null, .null, .int (iI 0), .int (iI 0)]))]) H [] := hW
  refine z_callI (va_runI (As := [.int (iI 6)]) (rest := [.ref q9v, .ref h]) C (c_X6_init l G q9v 6 6 (by first | omega | assumption | (intros; first | rfl | omega | assumption | (and_intros <;> first | rfl | omega | assumption))) H.size) (cwI 1 C.2.2.2.2 gX5_init_X6_init rfl rfl rfl (C.2.2.2.2 (.initialized RX6) (List.mem_of_getElem? (i := 6) rfl)) (C.2.2.2.2 (.methodLink RX5 11 yX6_init) (List.mem_of_getElem? (i := 12) rfl)) (C.2.2.2.2 (.instanceMethod yX6_init) (List.mem_of_getElem? (i := 13) rfl)) rfl (by decide +kernel) ⟨Nat.le_of_ble_eq_true rfl, Nat.le_of_ble_eq_true rfl⟩) (z_preI hK hO hW hA) rfl rfl hl.1 rfl (lv_room (Nat.le_of_ble_eq_true rfl)) dX5_init_11 ⟨Nat.le_of_ble_eq_true rfl, Nat.le_of_ble_eq_true rfl⟩) hW hA (fun u H locs hp hW => ?_)
  obtain ⟨q_11, rfl⟩ : ∃ q9, q9 = u := ⟨_, rfl⟩
  have hW : Wd G A s9.heap [(q9v, .inr (5, [.ref q_11, .int (iI 0)])), (q_11, .inl (G.2.1 0, 6, .inl (iA (fun _ => 0)))), (h, .inr (4, [.null, .null, .null, .int (iI 0), .int (iI 0)]))] H locs := hW
  refine z_putF C hK hW hin5 tyX5 tyX5_ok nmX5 2 rfl rfl 0 (by decide) (C.2.2.2.2 (.fieldLink RX5 14 "TellingRows$Row" "beginnings" "LTellingRows$Sequence;") (List.mem_of_getElem? (i := 7) rfl)) (fun _ h9 => h9) rfl hnm9 rfl rfl rfl (Nat.le_of_ble_eq_true rfl) dX5_init_14 (fun H locs hW => ?_)
  have hW : Wd G A s9.heap [(q9v, .inr (5, [.ref q_11, .int (iI 0)])), (q_11, .inl (G.2.1 0, 6, .inl (iA (fun _ => 0)))), (h, .inr (4, [.ref q9v, .null, .null, .int (iI 0), .int (iI 0)]))] H locs := hW
  refine lv_aload_n C.1 C.2.1 dX5_init_17 rfl (lv_at hl 0 rfl) ?_
  refine lv_sipush (v := iI 2000) C.1 C.2.1 dX5_init_18 (by decide +kernel) ?_
  refine z_newaI C hK hW hA (C.2.2.2.2 (.arrayClass .int) (List.mem_of_getElem? (i := 8) rfl)) 2000 ⟨rfl, by omega⟩ (Nat.le_of_ble_eq_true rfl) (Nat.le_of_ble_eq_true rfl) dX5_init_21 (fun q9w H hW => ?_)
  refine z_putF C hK hW hin5 tyX5 tyX5_ok nmX5 3 rfl rfl 1 (by decide) (C.2.2.2.2 (.fieldLink RX5 20 "TellingRows$Row" "numbers" "[I") (List.mem_of_getElem? (i := 9) rfl)) (fun _ h9 => h9) rfl hnm9 rfl rfl rfl (Nat.le_of_ble_eq_true rfl) dX5_init_23 (fun H locs hW => ?_)
  have hW : Wd G A s9.heap [(q9w, .inl (G.2.1 0, 2000, .inl (iA (fun _ => 0)))), (q9v, .inr (5, [.ref q_11, .int (iI 0)])), (q_11, .inl (G.2.1 0, 6, .inl (iA (fun _ => 0)))), (h, .inr (4, [.ref q9v, .ref q9w, .null, .int (iI 0), .int (iI 0)]))] H locs := hW
  refine lv_aload_n C.1 C.2.1 dX5_init_26 rfl (lv_at hl 0 rfl) ?_
  refine z_getse C hK hW 0 (by decide) rfl (C.2.2.2.2 (.fieldLink RX5 24 "TellingRows$Sort" "REACH" "LTellingRows$Sort;") (List.mem_of_getElem? (i := 10) rfl)) (fun _ h9 => h9) dX5_init_27 ?_
  refine z_put C hK hW hin5 tyX5 tyX5_ok nmX5 3 rfl rfl 2 (by decide) (C.2.2.2.2 (.fieldLink RX5 30 "TellingRows$Row" "sort" "LTellingRows$Sort;") (List.mem_of_getElem? (i := 11) rfl)) (fun _ h9 => h9) rfl rfl rfl (Nat.le_of_ble_eq_true rfl) dX5_init_30 (fun H locs hW => ?_)
  have hW : Wd G A s9.heap [(q9w, .inl (G.2.1 0, 2000, .inl (iA (fun _ => 0)))), (q9v, .inr (5, [.ref q_11, .int (iI 0)])), (q_11, .inl (G.2.1 0, 6, .inl (iA (fun _ => 0)))), (h, .inr (4, [.ref q9v, .ref q9w, .ref (G.2.2 0), .int (iI 0), .int (iI 0)]))] H locs := hW
  refine lv_aload_n C.1 C.2.1 dX5_init_33 rfl (lv_at hl 0 rfl) ?_
  refine z_get C hK hW hin5 (v := .ref q9v) 3 rfl rfl 0 (by decide) (C.2.2.2.2 (.fieldLink RX5 14 "TellingRows$Row" "beginnings" "LTellingRows$Sequence;") (List.mem_of_getElem? (i := 7) rfl)) (fun _ h9 => h9) rfl dX5_init_34 ?_
  refine lv_iconst (v := iI 1) C.1 C.2.1 dX5_init_37 rfl ?_
  refine z_call (va_runV (As := [.int (iI 1)]) (rest := []) C (c_X6_add l G q9v q_11 6 0 (fun _ => 0) 1 (by first | omega | assumption | (intros; first | rfl | omega | assumption | (and_intros <;> first | rfl | omega | assumption))) (by omega) (BD.cst (by omega)) (by first | omega | assumption | (intros; first | rfl | omega | assumption | (and_intros <;> first | rfl | omega | assumption))) H.size) (cwV 1 C.2.2.2.2 gX5_init_X6_add rfl rfl rfl (by decide +kernel) ⟨Nat.le_of_ble_eq_true rfl, Nat.le_of_ble_eq_true rfl⟩) (z_preV hK hW hA [1, 2] rfl (by decide) (ci := 5) (q0 := 1) rfl rfl) rfl rfl hl.1 rfl (lv_room (Nat.le_of_ble_eq_true rfl)) dX5_init_38 ⟨Nat.le_of_ble_eq_true rfl, Nat.le_of_ble_eq_true rfl⟩) hW hA [1, 2] rfl (by decide) (fun _ => rfl) (fun r u H locs hp hW => ?_)
  obtain ⟨n2_38, f2_38⟩ := u
  have hp : ∃ z : Int, r = some (.int (iI z)) ∧ (((0 : Int) < (6 : Int) → z = 1 ∧ n2_38 = (0 : Int) + 1 ∧ f2_38 = up (fun _ => 0) (0 : Int) (1 : Int))) ∧ ((¬ (0 : Int) < (6 : Int) → z = 0 ∧ n2_38 = (0 : Int) ∧ f2_38 = (fun _ => 0))) ∧ (BD f2_38) := hp
  obtain ⟨z_38, rfl, hz_38_0, hz_38_1, hz_38_2⟩ := hp
  have hW : Wd G A s9.heap [(q9w, .inl (G.2.1 0, 2000, .inl (iA (fun _ => 0)))), (q9v, .inr (5, [.ref q_11, .int (iI n2_38)])), (q_11, .inl (G.2.1 0, 6, .inl (iA f2_38))), (h, .inr (4, [.ref q9v, .ref q9w, .ref (G.2.2 0), .int (iI 0), .int (iI 0)]))] H locs := hW
  have h38 := hz_38_0 (by omega)
  have h38b := h38.2.1
  have h38c := h38.2.2
  refine lv_pop C.1 C.2.1 dX5_init_41 rfl ?_
  refine lv_aload_n C.1 C.2.1 dX5_init_42 rfl (lv_at hl 0 rfl) ?_
  refine z_get C hK hW hin5 (v := .ref q9v) 3 rfl rfl 0 (by decide) (C.2.2.2.2 (.fieldLink RX5 14 "TellingRows$Row" "beginnings" "LTellingRows$Sequence;") (List.mem_of_getElem? (i := 7) rfl)) (fun _ h9 => h9) rfl dX5_init_43 ?_
  refine lv_iconst (v := iI 1) C.1 C.2.1 dX5_init_46 rfl ?_
  refine z_call (va_runV (As := [.int (iI 1)]) (rest := []) C (c_X6_add l G q9v q_11 6 n2_38 f2_38 1 (by first | omega | assumption | (intros; first | rfl | omega | assumption | (and_intros <;> first | rfl | omega | assumption))) (by first | omega | assumption | (intros; first | rfl | omega | assumption | (and_intros <;> first | rfl | omega | assumption))) hz_38_2 (by first | omega | assumption | (intros; first | rfl | omega | assumption | (and_intros <;> first | rfl | omega | assumption))) H.size) (cwV 1 C.2.2.2.2 gX5_init_X6_add rfl rfl rfl (by decide +kernel) ⟨Nat.le_of_ble_eq_true rfl, Nat.le_of_ble_eq_true rfl⟩) (z_preV hK hW hA [1, 2] rfl (by decide) (ci := 5) (q0 := 1) rfl rfl) rfl rfl hl.1 rfl (lv_room (Nat.le_of_ble_eq_true rfl)) dX5_init_47 ⟨Nat.le_of_ble_eq_true rfl, Nat.le_of_ble_eq_true rfl⟩) hW hA [1, 2] rfl (by decide) (fun _ => rfl) (fun r u H locs hp hW => ?_)
  obtain ⟨n2_47, f2_47⟩ := u
  have hp : ∃ z : Int, r = some (.int (iI z)) ∧ ((n2_38 < (6 : Int) → z = 1 ∧ n2_47 = n2_38 + 1 ∧ f2_47 = up f2_38 n2_38 (1 : Int))) ∧ ((¬ n2_38 < (6 : Int) → z = 0 ∧ n2_47 = n2_38 ∧ f2_47 = f2_38)) ∧ (BD f2_47) := hp
  obtain ⟨z_47, rfl, hz_47_0, hz_47_1, hz_47_2⟩ := hp
  have hW : Wd G A s9.heap [(q9w, .inl (G.2.1 0, 2000, .inl (iA (fun _ => 0)))), (q9v, .inr (5, [.ref q_11, .int (iI n2_47)])), (q_11, .inl (G.2.1 0, 6, .inl (iA f2_47))), (h, .inr (4, [.ref q9v, .ref q9w, .ref (G.2.2 0), .int (iI 0), .int (iI 0)]))] H locs := hW
  have h47 := hz_47_0 (by omega)
  have h47b := h47.2.1
  have h47c := h47.2.2
  refine lv_pop C.1 C.2.1 dX5_init_50 rfl ?_
  have hn9 : n2_47 = 2 := by omega
  subst hn9
  rw [hQ]
  have hP9 : (f2_47 0 = 1 ∧ f2_47 1 = 1) ∧ (BD f2_47) := ⟨(by rw [h47c, h38c, h38b]; exact ⟨rfl, rfl⟩), hz_47_2⟩
  exact z_vretI C hr hlocks (Wd.sub hW [3, 1, 2, 0] rfl (by decide)) (q9v, q_11, q9w, f2_47) rfl hP9 ⟨Nat.le_of_ble_eq_true rfl, Nat.le_of_ble_eq_true rfl⟩ dX5_init_51
set_option maxHeartbeats 4000000 in
set_option maxRecDepth 100000 in
/-- X11_init -/
theorem c_X11_init (l : Launch) (G : GG) (h : Nat) : MIc l yX11_init wsX11_init 1 13 74822 G [.ref h] [(h, .inr (9, [.int (iI 0), .null, .int (iI 0), .null, .null, .int (iI 0), .int (iI 0), .int (iI 0), .null, .null, .int (iI 0), .null, .int (iI 0), .null, .int (iI 0), .null, .null, .null, .null, .null, .null]))] (fun (u : Nat × Nat × Nat × Nat × Nat × Nat × Nat × Nat × Nat × Nat × Nat × Nat × Nat × (Int → Int)) => (∀ r, 0 ≤ r → r ≤ 3 → u.2.2.2.2.2.2.2.2.2.2.2.2.2 (8 * r) = 0 ∧ u.2.2.2.2.2.2.2.2.2.2.2.2.2 (8 * r + 1) = 2 ∧ u.2.2.2.2.2.2.2.2.2.2.2.2.2 (8 * r + 2) = 1 ∧ u.2.2.2.2.2.2.2.2.2.2.2.2.2 (8 * r + 3) = 1) ∧ (BD u.2.2.2.2.2.2.2.2.2.2.2.2.2)) (fun (u : Nat × Nat × Nat × Nat × Nat × Nat × Nat × Nat × Nat × Nat × Nat × Nat × Nat × (Int → Int)) => [(h, .inr (9, [.int (iI 0), .ref u.1, .int (iI 0), .ref u.2.1, .ref u.2.2.1, .int (iI 0), .int (iI (-1)), .int (iI 0), .ref u.2.2.2.1, .ref u.2.2.2.2.1, .int (iI 0), .ref u.2.2.2.2.2.1, .int (iI 0), .ref u.2.2.2.2.2.2.1, .int (iI 0), .ref u.2.2.2.2.2.2.2.1, .ref u.2.2.2.2.2.2.2.2.1, .ref u.2.2.2.2.2.2.2.2.2.1, .ref u.2.2.2.2.2.2.2.2.2.2.1, .ref u.2.2.2.2.2.2.2.2.2.2.2.1, .ref u.2.2.2.2.2.2.2.2.2.2.2.2.1])), (u.1, .inl (G.2.1 1, 120, .inl (iA (fun _ => 0)))), (u.2.1, .inl (G.2.1 0, 32, .inl (iA u.2.2.2.2.2.2.2.2.2.2.2.2.2))), (u.2.2.1, .inl (G.2.1 0, 32, .inl (iA (fun _ => 0)))), (u.2.2.2.1, .inl (G.2.1 0, 2000, .inl (iA (fun _ => 0)))), (u.2.2.2.2.1, .inl (G.2.1 0, 60001, .inl (iA (fun _ => 0)))), (u.2.2.2.2.2.1, .inl (G.2.1 0, 40, .inl (iA (fun _ => 0)))), (u.2.2.2.2.2.2.1, .inl (G.2.1 0, 40, .inl (iA (fun _ => 0)))), (u.2.2.2.2.2.2.2.1, .inl (G.2.1 0, 5000, .inl (iA (fun _ => 0)))), (u.2.2.2.2.2.2.2.2.1, .inl (G.2.1 0, 5000, .inl (iA (fun _ => 0)))), (u.2.2.2.2.2.2.2.2.2.1, .inl (G.2.1 0, 62, .inl (iA (fun _ => 0)))), (u.2.2.2.2.2.2.2.2.2.2.1, .inl (G.2.1 0, 2480, .inl (iA (fun _ => 0)))), (u.2.2.2.2.2.2.2.2.2.2.2.1, .inl (G.2.1 0, 11, .inl (iA (fun _ => 0)))), (u.2.2.2.2.2.2.2.2.2.2.2.2.1, .inl (G.2.1 2, 4, .inl (iA (fun _ => 0))))]) := by
  refine MIc.start (own := RX11) (by decide) rfl rfl (Nat.le_of_ble_eq_true rfl) rfl ?_
  intro p9 e9 s9 m9 args below meth c9 A Q C hK hW hA hr hlocks hnm9 hO hQ ls hl
  have hl : lv_has ls 2 [(0, .ref h)] := hl
  have hin11 : ∀ w ∈ wsX110, w ∈ wsX11_init := by decide +kernel
  refine lv_aload_n C.1 C.2.1 dX11_init_0 rfl (lv_at hl 0 rfl) ?_
  refine z_obj C hl.1 (C.2.2.2.2 (.methodLink RX11 1 objectInit) (List.mem_of_getElem? (i := 1) rfl)) (C.2.2.2.2 (.instanceMethod objectInit) (List.mem_of_getElem? (i := 2) rfl)) (C.2.2.2.2 (.code objectInit ⟨#[0xb1]⟩ 1 none) (List.mem_of_getElem? (i := 3) rfl)) (Nat.le_of_ble_eq_true rfl) (Nat.le_of_ble_eq_true rfl) dX11_init_1 ?_
  refine lv_aload_n C.1 C.2.1 dX11_init_4 rfl (lv_at hl 0 rfl) ?_
  refine lv_bipush (v := iI 120) C.1 C.2.1 dX11_init_5 (by decide +kernel) ?_
  refine z_newaB C hK hW hA (C.2.2.2.2 (.arrayClass .byte) (List.mem_of_getElem? (i := 4) rfl)) 120 ⟨rfl, by omega⟩ (Nat.le_of_ble_eq_true rfl) (Nat.le_of_ble_eq_true rfl) dX11_init_7 (fun n_a1 H hW => ?_)
  refine z_putF C hK hW hin11 tyX11 tyX11_ok nmX11 1 rfl rfl 1 (by decide) (C.2.2.2.2 (.fieldLink RX11 7 "TellingRowsModel" "text" "[B") (List.mem_of_getElem? (i := 5) rfl)) (fun _ h9 => h9) rfl hnm9 rfl rfl rfl (Nat.le_of_ble_eq_true rfl) dX11_init_9 (fun H locs hW => ?_)
  have hW : Wd G A s9.heap [(n_a1, .inl (G.2.1 1, 120, .inl (iA (fun _ => 0)))), (h, .inr (9, [.int (iI 0), .ref n_a1, .int (iI 0), .null, .null, .int (iI 0), .int (iI 0), .int (iI 0), .null, .null, .int (iI 0), .null, .int (iI 0), .null, .int (iI 0), .null, .null, .null, .null, .null, .null]))] H locs := hW
  refine lv_aload_n C.1 C.2.1 dX11_init_12 rfl (lv_at hl 0 rfl) ?_
  refine lv_bipush (v := iI 32) C.1 C.2.1 dX11_init_13 (by decide +kernel) ?_
  refine z_newaI C hK hW hA (C.2.2.2.2 (.arrayClass .int) (List.mem_of_getElem? (i := 6) rfl)) 32 ⟨rfl, by omega⟩ (Nat.le_of_ble_eq_true rfl) (Nat.le_of_ble_eq_true rfl) dX11_init_15 (fun n_a3 H hW => ?_)
  refine z_putF C hK hW hin11 tyX11 tyX11_ok nmX11 2 rfl rfl 3 (by decide) (C.2.2.2.2 (.fieldLink RX11 13 "TellingRowsModel" "law" "[I") (List.mem_of_getElem? (i := 7) rfl)) (fun _ h9 => h9) rfl hnm9 rfl rfl rfl (Nat.le_of_ble_eq_true rfl) dX11_init_17 (fun H locs hW => ?_)
  have hW : Wd G A s9.heap [(n_a3, .inl (G.2.1 0, 32, .inl (iA (fun _ => 0)))), (n_a1, .inl (G.2.1 1, 120, .inl (iA (fun _ => 0)))), (h, .inr (9, [.int (iI 0), .ref n_a1, .int (iI 0), .ref n_a3, .null, .int (iI 0), .int (iI 0), .int (iI 0), .null, .null, .int (iI 0), .null, .int (iI 0), .null, .int (iI 0), .null, .null, .null, .null, .null, .null]))] H locs := hW
  refine lv_aload_n C.1 C.2.1 dX11_init_20 rfl (lv_at hl 0 rfl) ?_
  refine lv_bipush (v := iI 32) C.1 C.2.1 dX11_init_21 (by decide +kernel) ?_
  refine z_newaI C hK hW hA (C.2.2.2.2 (.arrayClass .int) (List.mem_of_getElem? (i := 6) rfl)) 32 ⟨rfl, by omega⟩ (Nat.le_of_ble_eq_true rfl) (Nat.le_of_ble_eq_true rfl) dX11_init_23 (fun n_a4 H hW => ?_)
  refine z_putF C hK hW hin11 tyX11 tyX11_ok nmX11 3 rfl rfl 4 (by decide) (C.2.2.2.2 (.fieldLink RX11 17 "TellingRowsModel" "read" "[I") (List.mem_of_getElem? (i := 8) rfl)) (fun _ h9 => h9) rfl hnm9 rfl rfl rfl (Nat.le_of_ble_eq_true rfl) dX11_init_25 (fun H locs hW => ?_)
  have hW : Wd G A s9.heap [(n_a4, .inl (G.2.1 0, 32, .inl (iA (fun _ => 0)))), (n_a3, .inl (G.2.1 0, 32, .inl (iA (fun _ => 0)))), (n_a1, .inl (G.2.1 1, 120, .inl (iA (fun _ => 0)))), (h, .inr (9, [.int (iI 0), .ref n_a1, .int (iI 0), .ref n_a3, .ref n_a4, .int (iI 0), .int (iI 0), .int (iI 0), .null, .null, .int (iI 0), .null, .int (iI 0), .null, .int (iI 0), .null, .null, .null, .null, .null, .null]))] H locs := hW
  refine lv_aload_n C.1 C.2.1 dX11_init_28 rfl (lv_at hl 0 rfl) ?_
  refine lv_iconst (v := iI (-1)) C.1 C.2.1 dX11_init_29 rfl ?_
  refine z_put C hK hW hin11 tyX11 tyX11_ok nmX11 3 rfl rfl 6 (by decide) (C.2.2.2.2 (.fieldLink RX11 20 "TellingRowsModel" "laid" "I") (List.mem_of_getElem? (i := 9) rfl)) (fun _ h9 => h9) rfl rfl rfl (Nat.le_of_ble_eq_true rfl) dX11_init_30 (fun H locs hW => ?_)
  have hW : Wd G A s9.heap [(n_a4, .inl (G.2.1 0, 32, .inl (iA (fun _ => 0)))), (n_a3, .inl (G.2.1 0, 32, .inl (iA (fun _ => 0)))), (n_a1, .inl (G.2.1 1, 120, .inl (iA (fun _ => 0)))), (h, .inr (9, [.int (iI 0), .ref n_a1, .int (iI 0), .ref n_a3, .ref n_a4, .int (iI 0), .int (iI (-1)), .int (iI 0), .null, .null, .int (iI 0), .null, .int (iI 0), .null, .int (iI 0), .null, .null, .null, .null, .null, .null]))] H locs := hW
  refine lv_aload_n C.1 C.2.1 dX11_init_33 rfl (lv_at hl 0 rfl) ?_
  refine lv_sipush (v := iI 2000) C.1 C.2.1 dX11_init_34 (by decide +kernel) ?_
  refine z_newaI C hK hW hA (C.2.2.2.2 (.arrayClass .int) (List.mem_of_getElem? (i := 6) rfl)) 2000 ⟨rfl, by omega⟩ (Nat.le_of_ble_eq_true rfl) (Nat.le_of_ble_eq_true rfl) dX11_init_37 (fun n_a8 H hW => ?_)
  refine z_putF C hK hW hin11 tyX11 tyX11_ok nmX11 4 rfl rfl 8 (by decide) (C.2.2.2.2 (.fieldLink RX11 24 "TellingRowsModel" "row" "[I") (List.mem_of_getElem? (i := 10) rfl)) (fun _ h9 => h9) rfl hnm9 rfl rfl rfl (Nat.le_of_ble_eq_true rfl) dX11_init_39 (fun H locs hW => ?_)
  have hW : Wd G A s9.heap [(n_a8, .inl (G.2.1 0, 2000, .inl (iA (fun _ => 0)))), (n_a4, .inl (G.2.1 0, 32, .inl (iA (fun _ => 0)))), (n_a3, .inl (G.2.1 0, 32, .inl (iA (fun _ => 0)))), (n_a1, .inl (G.2.1 1, 120, .inl (iA (fun _ => 0)))), (h, .inr (9, [.int (iI 0), .ref n_a1, .int (iI 0), .ref n_a3, .ref n_a4, .int (iI 0), .int (iI (-1)), .int (iI 0), .ref n_a8, .null, .int (iI 0), .null, .int (iI 0), .null, .int (iI 0), .null, .null, .null, .null, .null, .null]))] H locs := hW
  refine lv_aload_n C.1 C.2.1 dX11_init_42 rfl (lv_at hl 0 rfl) ?_
  refine z_ldc (z := 60001) C (C.2.2.2.2 (.constant RX11 27 (60001)) (List.mem_of_getElem? (i := 11) rfl)) (by decide +kernel) dX11_init_43 ?_
  refine z_newaI C hK hW hA (C.2.2.2.2 (.arrayClass .int) (List.mem_of_getElem? (i := 6) rfl)) 60001 ⟨rfl, by omega⟩ (Nat.le_of_ble_eq_true rfl) (Nat.le_of_ble_eq_true rfl) dX11_init_45 (fun n_a9 H hW => ?_)
  refine z_putF C hK hW hin11 tyX11 tyX11_ok nmX11 5 rfl rfl 9 (by decide) (C.2.2.2.2 (.fieldLink RX11 28 "TellingRowsModel" "seen" "[I") (List.mem_of_getElem? (i := 12) rfl)) (fun _ h9 => h9) rfl hnm9 rfl rfl rfl (Nat.le_of_ble_eq_true rfl) dX11_init_47 (fun H locs hW => ?_)
  have hW : Wd G A s9.heap [(n_a9, .inl (G.2.1 0, 60001, .inl (iA (fun _ => 0)))), (n_a8, .inl (G.2.1 0, 2000, .inl (iA (fun _ => 0)))), (n_a4, .inl (G.2.1 0, 32, .inl (iA (fun _ => 0)))), (n_a3, .inl (G.2.1 0, 32, .inl (iA (fun _ => 0)))), (n_a1, .inl (G.2.1 1, 120, .inl (iA (fun _ => 0)))), (h, .inr (9, [.int (iI 0), .ref n_a1, .int (iI 0), .ref n_a3, .ref n_a4, .int (iI 0), .int (iI (-1)), .int (iI 0), .ref n_a8, .ref n_a9, .int (iI 0), .null, .int (iI 0), .null, .int (iI 0), .null, .null, .null, .null, .null, .null]))] H locs := hW
  refine lv_aload_n C.1 C.2.1 dX11_init_50 rfl (lv_at hl 0 rfl) ?_
  refine lv_bipush (v := iI 40) C.1 C.2.1 dX11_init_51 (by decide +kernel) ?_
  refine z_newaI C hK hW hA (C.2.2.2.2 (.arrayClass .int) (List.mem_of_getElem? (i := 6) rfl)) 40 ⟨rfl, by omega⟩ (Nat.le_of_ble_eq_true rfl) (Nat.le_of_ble_eq_true rfl) dX11_init_53 (fun n_a11 H hW => ?_)
  refine z_putF C hK hW hin11 tyX11 tyX11_ok nmX11 6 rfl rfl 11 (by decide) (C.2.2.2.2 (.fieldLink RX11 31 "TellingRowsModel" "number" "[I") (List.mem_of_getElem? (i := 13) rfl)) (fun _ h9 => h9) rfl hnm9 rfl rfl rfl (Nat.le_of_ble_eq_true rfl) dX11_init_55 (fun H locs hW => ?_)
  have hW : Wd G A s9.heap [(n_a11, .inl (G.2.1 0, 40, .inl (iA (fun _ => 0)))), (n_a9, .inl (G.2.1 0, 60001, .inl (iA (fun _ => 0)))), (n_a8, .inl (G.2.1 0, 2000, .inl (iA (fun _ => 0)))), (n_a4, .inl (G.2.1 0, 32, .inl (iA (fun _ => 0)))), (n_a3, .inl (G.2.1 0, 32, .inl (iA (fun _ => 0)))), (n_a1, .inl (G.2.1 1, 120, .inl (iA (fun _ => 0)))), (h, .inr (9, [.int (iI 0), .ref n_a1, .int (iI 0), .ref n_a3, .ref n_a4, .int (iI 0), .int (iI (-1)), .int (iI 0), .ref n_a8, .ref n_a9, .int (iI 0), .ref n_a11, .int (iI 0), .null, .int (iI 0), .null, .null, .null, .null, .null, .null]))] H locs := hW
  refine lv_aload_n C.1 C.2.1 dX11_init_58 rfl (lv_at hl 0 rfl) ?_
  refine lv_bipush (v := iI 40) C.1 C.2.1 dX11_init_59 (by decide +kernel) ?_
  refine z_newaI C hK hW hA (C.2.2.2.2 (.arrayClass .int) (List.mem_of_getElem? (i := 6) rfl)) 40 ⟨rfl, by omega⟩ (Nat.le_of_ble_eq_true rfl) (Nat.le_of_ble_eq_true rfl) dX11_init_61 (fun n_a13 H hW => ?_)
  refine z_putF C hK hW hin11 tyX11 tyX11_ok nmX11 7 rfl rfl 13 (by decide) (C.2.2.2.2 (.fieldLink RX11 34 "TellingRowsModel" "figure" "[I") (List.mem_of_getElem? (i := 14) rfl)) (fun _ h9 => h9) rfl hnm9 rfl rfl rfl (Nat.le_of_ble_eq_true rfl) dX11_init_63 (fun H locs hW => ?_)
  have hW : Wd G A s9.heap [(n_a13, .inl (G.2.1 0, 40, .inl (iA (fun _ => 0)))), (n_a11, .inl (G.2.1 0, 40, .inl (iA (fun _ => 0)))), (n_a9, .inl (G.2.1 0, 60001, .inl (iA (fun _ => 0)))), (n_a8, .inl (G.2.1 0, 2000, .inl (iA (fun _ => 0)))), (n_a4, .inl (G.2.1 0, 32, .inl (iA (fun _ => 0)))), (n_a3, .inl (G.2.1 0, 32, .inl (iA (fun _ => 0)))), (n_a1, .inl (G.2.1 1, 120, .inl (iA (fun _ => 0)))), (h, .inr (9, [.int (iI 0), .ref n_a1, .int (iI 0), .ref n_a3, .ref n_a4, .int (iI 0), .int (iI (-1)), .int (iI 0), .ref n_a8, .ref n_a9, .int (iI 0), .ref n_a11, .int (iI 0), .ref n_a13, .int (iI 0), .null, .null, .null, .null, .null, .null]))] H locs := hW
  refine lv_aload_n C.1 C.2.1 dX11_init_66 rfl (lv_at hl 0 rfl) ?_
  refine lv_sipush (v := iI 5000) C.1 C.2.1 dX11_init_67 (by decide +kernel) ?_
  refine z_newaI C hK hW hA (C.2.2.2.2 (.arrayClass .int) (List.mem_of_getElem? (i := 6) rfl)) 5000 ⟨rfl, by omega⟩ (Nat.le_of_ble_eq_true rfl) (Nat.le_of_ble_eq_true rfl) dX11_init_70 (fun n_a15 H hW => ?_)
  refine z_putF C hK hW hin11 tyX11 tyX11_ok nmX11 8 rfl rfl 15 (by decide) (C.2.2.2.2 (.fieldLink RX11 37 "TellingRowsModel" "line" "[I") (List.mem_of_getElem? (i := 15) rfl)) (fun _ h9 => h9) rfl hnm9 rfl rfl rfl (Nat.le_of_ble_eq_true rfl) dX11_init_72 (fun H locs hW => ?_)
  have hW : Wd G A s9.heap [(n_a15, .inl (G.2.1 0, 5000, .inl (iA (fun _ => 0)))), (n_a13, .inl (G.2.1 0, 40, .inl (iA (fun _ => 0)))), (n_a11, .inl (G.2.1 0, 40, .inl (iA (fun _ => 0)))), (n_a9, .inl (G.2.1 0, 60001, .inl (iA (fun _ => 0)))), (n_a8, .inl (G.2.1 0, 2000, .inl (iA (fun _ => 0)))), (n_a4, .inl (G.2.1 0, 32, .inl (iA (fun _ => 0)))), (n_a3, .inl (G.2.1 0, 32, .inl (iA (fun _ => 0)))), (n_a1, .inl (G.2.1 1, 120, .inl (iA (fun _ => 0)))), (h, .inr (9, [.int (iI 0), .ref n_a1, .int (iI 0), .ref n_a3, .ref n_a4, .int (iI 0), .int (iI (-1)), .int (iI 0), .ref n_a8, .ref n_a9, .int (iI 0), .ref n_a11, .int (iI 0), .ref n_a13, .int (iI 0), .ref n_a15, .null, .null, .null, .null, .null]))] H locs := hW
  refine lv_aload_n C.1 C.2.1 dX11_init_75 rfl (lv_at hl 0 rfl) ?_
  refine lv_sipush (v := iI 5000) C.1 C.2.1 dX11_init_76 (by decide +kernel) ?_
  refine z_newaI C hK hW hA (C.2.2.2.2 (.arrayClass .int) (List.mem_of_getElem? (i := 6) rfl)) 5000 ⟨rfl, by omega⟩ (Nat.le_of_ble_eq_true rfl) (Nat.le_of_ble_eq_true rfl) dX11_init_79 (fun n_a16 H hW => ?_)
  refine z_putF C hK hW hin11 tyX11 tyX11_ok nmX11 9 rfl rfl 16 (by decide) (C.2.2.2.2 (.fieldLink RX11 40 "TellingRowsModel" "other" "[I") (List.mem_of_getElem? (i := 16) rfl)) (fun _ h9 => h9) rfl hnm9 rfl rfl rfl (Nat.le_of_ble_eq_true rfl) dX11_init_81 (fun H locs hW => ?_)
  have hW : Wd G A s9.heap [(n_a16, .inl (G.2.1 0, 5000, .inl (iA (fun _ => 0)))), (n_a15, .inl (G.2.1 0, 5000, .inl (iA (fun _ => 0)))), (n_a13, .inl (G.2.1 0, 40, .inl (iA (fun _ => 0)))), (n_a11, .inl (G.2.1 0, 40, .inl (iA (fun _ => 0)))), (n_a9, .inl (G.2.1 0, 60001, .inl (iA (fun _ => 0)))), (n_a8, .inl (G.2.1 0, 2000, .inl (iA (fun _ => 0)))), (n_a4, .inl (G.2.1 0, 32, .inl (iA (fun _ => 0)))), (n_a3, .inl (G.2.1 0, 32, .inl (iA (fun _ => 0)))), (n_a1, .inl (G.2.1 1, 120, .inl (iA (fun _ => 0)))), (h, .inr (9, [.int (iI 0), .ref n_a1, .int (iI 0), .ref n_a3, .ref n_a4, .int (iI 0), .int (iI (-1)), .int (iI 0), .ref n_a8, .ref n_a9, .int (iI 0), .ref n_a11, .int (iI 0), .ref n_a13, .int (iI 0), .ref n_a15, .ref n_a16, .null, .null, .null, .null]))] H locs := hW
  refine lv_aload_n C.1 C.2.1 dX11_init_84 rfl (lv_at hl 0 rfl) ?_
  refine lv_bipush (v := iI 62) C.1 C.2.1 dX11_init_85 (by decide +kernel) ?_
  refine z_newaI C hK hW hA (C.2.2.2.2 (.arrayClass .int) (List.mem_of_getElem? (i := 6) rfl)) 62 ⟨rfl, by omega⟩ (Nat.le_of_ble_eq_true rfl) (Nat.le_of_ble_eq_true rfl) dX11_init_87 (fun n_a17 H hW => ?_)
  refine z_putF C hK hW hin11 tyX11 tyX11_ok nmX11 10 rfl rfl 17 (by decide) (C.2.2.2.2 (.fieldLink RX11 43 "TellingRowsModel" "stepMany" "[I") (List.mem_of_getElem? (i := 17) rfl)) (fun _ h9 => h9) rfl hnm9 rfl rfl rfl (Nat.le_of_ble_eq_true rfl) dX11_init_89 (fun H locs hW => ?_)
  have hW : Wd G A s9.heap [(n_a17, .inl (G.2.1 0, 62, .inl (iA (fun _ => 0)))), (n_a16, .inl (G.2.1 0, 5000, .inl (iA (fun _ => 0)))), (n_a15, .inl (G.2.1 0, 5000, .inl (iA (fun _ => 0)))), (n_a13, .inl (G.2.1 0, 40, .inl (iA (fun _ => 0)))), (n_a11, .inl (G.2.1 0, 40, .inl (iA (fun _ => 0)))), (n_a9, .inl (G.2.1 0, 60001, .inl (iA (fun _ => 0)))), (n_a8, .inl (G.2.1 0, 2000, .inl (iA (fun _ => 0)))), (n_a4, .inl (G.2.1 0, 32, .inl (iA (fun _ => 0)))), (n_a3, .inl (G.2.1 0, 32, .inl (iA (fun _ => 0)))), (n_a1, .inl (G.2.1 1, 120, .inl (iA (fun _ => 0)))), (h, .inr (9, [.int (iI 0), .ref n_a1, .int (iI 0), .ref n_a3, .ref n_a4, .int (iI 0), .int (iI (-1)), .int (iI 0), .ref n_a8, .ref n_a9, .int (iI 0), .ref n_a11, .int (iI 0), .ref n_a13, .int (iI 0), .ref n_a15, .ref n_a16, .ref n_a17, .null, .null, .null]))] H locs := hW
  refine lv_aload_n C.1 C.2.1 dX11_init_92 rfl (lv_at hl 0 rfl) ?_
  refine lv_sipush (v := iI 2480) C.1 C.2.1 dX11_init_93 (by decide +kernel) ?_
  refine z_newaI C hK hW hA (C.2.2.2.2 (.arrayClass .int) (List.mem_of_getElem? (i := 6) rfl)) 2480 ⟨rfl, by omega⟩ (Nat.le_of_ble_eq_true rfl) (Nat.le_of_ble_eq_true rfl) dX11_init_96 (fun n_a18 H hW => ?_)
  refine z_putF C hK hW hin11 tyX11 tyX11_ok nmX11 11 rfl rfl 18 (by decide) (C.2.2.2.2 (.fieldLink RX11 46 "TellingRowsModel" "step" "[I") (List.mem_of_getElem? (i := 18) rfl)) (fun _ h9 => h9) rfl hnm9 rfl rfl rfl (Nat.le_of_ble_eq_true rfl) dX11_init_98 (fun H locs hW => ?_)
  have hW : Wd G A s9.heap [(n_a18, .inl (G.2.1 0, 2480, .inl (iA (fun _ => 0)))), (n_a17, .inl (G.2.1 0, 62, .inl (iA (fun _ => 0)))), (n_a16, .inl (G.2.1 0, 5000, .inl (iA (fun _ => 0)))), (n_a15, .inl (G.2.1 0, 5000, .inl (iA (fun _ => 0)))), (n_a13, .inl (G.2.1 0, 40, .inl (iA (fun _ => 0)))), (n_a11, .inl (G.2.1 0, 40, .inl (iA (fun _ => 0)))), (n_a9, .inl (G.2.1 0, 60001, .inl (iA (fun _ => 0)))), (n_a8, .inl (G.2.1 0, 2000, .inl (iA (fun _ => 0)))), (n_a4, .inl (G.2.1 0, 32, .inl (iA (fun _ => 0)))), (n_a3, .inl (G.2.1 0, 32, .inl (iA (fun _ => 0)))), (n_a1, .inl (G.2.1 1, 120, .inl (iA (fun _ => 0)))), (h, .inr (9, [.int (iI 0), .ref n_a1, .int (iI 0), .ref n_a3, .ref n_a4, .int (iI 0), .int (iI (-1)), .int (iI 0), .ref n_a8, .ref n_a9, .int (iI 0), .ref n_a11, .int (iI 0), .ref n_a13, .int (iI 0), .ref n_a15, .ref n_a16, .ref n_a17, .ref n_a18, .null, .null]))] H locs := hW
  refine lv_aload_n C.1 C.2.1 dX11_init_101 rfl (lv_at hl 0 rfl) ?_
  refine lv_bipush (v := iI 11) C.1 C.2.1 dX11_init_102 (by decide +kernel) ?_
  refine z_newaI C hK hW hA (C.2.2.2.2 (.arrayClass .int) (List.mem_of_getElem? (i := 6) rfl)) 11 ⟨rfl, by omega⟩ (Nat.le_of_ble_eq_true rfl) (Nat.le_of_ble_eq_true rfl) dX11_init_104 (fun n_a19 H hW => ?_)
  refine z_putF C hK hW hin11 tyX11 tyX11_ok nmX11 12 rfl rfl 19 (by decide) (C.2.2.2.2 (.fieldLink RX11 49 "TellingRowsModel" "digit" "[I") (List.mem_of_getElem? (i := 19) rfl)) (fun _ h9 => h9) rfl hnm9 rfl rfl rfl (Nat.le_of_ble_eq_true rfl) dX11_init_106 (fun H locs hW => ?_)
  have hW : Wd G A s9.heap [(n_a19, .inl (G.2.1 0, 11, .inl (iA (fun _ => 0)))), (n_a18, .inl (G.2.1 0, 2480, .inl (iA (fun _ => 0)))), (n_a17, .inl (G.2.1 0, 62, .inl (iA (fun _ => 0)))), (n_a16, .inl (G.2.1 0, 5000, .inl (iA (fun _ => 0)))), (n_a15, .inl (G.2.1 0, 5000, .inl (iA (fun _ => 0)))), (n_a13, .inl (G.2.1 0, 40, .inl (iA (fun _ => 0)))), (n_a11, .inl (G.2.1 0, 40, .inl (iA (fun _ => 0)))), (n_a9, .inl (G.2.1 0, 60001, .inl (iA (fun _ => 0)))), (n_a8, .inl (G.2.1 0, 2000, .inl (iA (fun _ => 0)))), (n_a4, .inl (G.2.1 0, 32, .inl (iA (fun _ => 0)))), (n_a3, .inl (G.2.1 0, 32, .inl (iA (fun _ => 0)))), (n_a1, .inl (G.2.1 1, 120, .inl (iA (fun _ => 0)))), (h, .inr (9, [.int (iI 0), .ref n_a1, .int (iI 0), .ref n_a3, .ref n_a4, .int (iI 0), .int (iI (-1)), .int (iI 0), .ref n_a8, .ref n_a9, .int (iI 0), .ref n_a11, .int (iI 0), .ref n_a13, .int (iI 0), .ref n_a15, .ref n_a16, .ref n_a17, .ref n_a18, .ref n_a19, .null]))] H locs := hW
  refine lv_aload_n C.1 C.2.1 dX11_init_109 rfl (lv_at hl 0 rfl) ?_
  refine lv_iconst (v := iI 4) C.1 C.2.1 dX11_init_110 rfl ?_
  refine z_newaZ C hK hW hA (C.2.2.2.2 (.arrayClass .boolean) (List.mem_of_getElem? (i := 20) rfl)) 4 ⟨rfl, by omega⟩ (Nat.le_of_ble_eq_true rfl) (Nat.le_of_ble_eq_true rfl) dX11_init_111 (fun n_a20 H hW => ?_)
  refine z_putF C hK hW hin11 tyX11 tyX11_ok nmX11 13 rfl rfl 20 (by decide) (C.2.2.2.2 (.fieldLink RX11 52 "TellingRowsModel" "isLaid" "[Z") (List.mem_of_getElem? (i := 21) rfl)) (fun _ h9 => h9) rfl hnm9 rfl rfl rfl (Nat.le_of_ble_eq_true rfl) dX11_init_113 (fun H locs hW => ?_)
  have hW : Wd G A s9.heap [(n_a20, .inl (G.2.1 2, 4, .inl (iA (fun _ => 0)))), (n_a19, .inl (G.2.1 0, 11, .inl (iA (fun _ => 0)))), (n_a18, .inl (G.2.1 0, 2480, .inl (iA (fun _ => 0)))), (n_a17, .inl (G.2.1 0, 62, .inl (iA (fun _ => 0)))), (n_a16, .inl (G.2.1 0, 5000, .inl (iA (fun _ => 0)))), (n_a15, .inl (G.2.1 0, 5000, .inl (iA (fun _ => 0)))), (n_a13, .inl (G.2.1 0, 40, .inl (iA (fun _ => 0)))), (n_a11, .inl (G.2.1 0, 40, .inl (iA (fun _ => 0)))), (n_a9, .inl (G.2.1 0, 60001, .inl (iA (fun _ => 0)))), (n_a8, .inl (G.2.1 0, 2000, .inl (iA (fun _ => 0)))), (n_a4, .inl (G.2.1 0, 32, .inl (iA (fun _ => 0)))), (n_a3, .inl (G.2.1 0, 32, .inl (iA (fun _ => 0)))), (n_a1, .inl (G.2.1 1, 120, .inl (iA (fun _ => 0)))), (h, .inr (9, [.int (iI 0), .ref n_a1, .int (iI 0), .ref n_a3, .ref n_a4, .int (iI 0), .int (iI (-1)), .int (iI 0), .ref n_a8, .ref n_a9, .int (iI 0), .ref n_a11, .int (iI 0), .ref n_a13, .int (iI 0), .ref n_a15, .ref n_a16, .ref n_a17, .ref n_a18, .ref n_a19, .ref n_a20]))] H locs := hW
  refine lv_iconst (v := iI 0) C.1 C.2.1 dX11_init_116 rfl ?_
  refine lv_istore_n (lv' := [(1, .int (iI 0)), (0, .ref h)]) C.1 C.2.1 dX11_init_117 rfl hl (by decide) rfl (fun ls hl => ?_)
  refine lv_iload_n C.1 C.2.1 dX11_init_118 rfl (lv_at hl 0 rfl) ?_
  refine lv_iconst (v := iI 4) C.1 C.2.1 dX11_init_119 rfl ?_
  refine z_icmp_ge (tgt := 165) C dX11_init_120 (by decide) (by omega) (fun c_120 => ?_) (fun c_120 => ?_)
  ·
    exfalso; exact absurd c_120 (by decide)
  ·
    refine lv_aload_n C.1 C.2.1 dX11_init_123 rfl (lv_at hl 1 rfl) ?_
    refine z_get C hK hW hin11 (v := .ref n_a3) 13 rfl rfl 3 (by decide) (C.2.2.2.2 (.fieldLink RX11 13 "TellingRowsModel" "law" "[I") (List.mem_of_getElem? (i := 7) rfl)) (fun _ h9 => h9) rfl dX11_init_124 ?_
    refine lv_bipush (v := iI 8) C.1 C.2.1 dX11_init_127 (by decide +kernel) ?_
    refine lv_iload_n C.1 C.2.1 dX11_init_129 rfl (lv_at hl 0 rfl) ?_
    refine z_imul C dX11_init_130 ?_
    refine lv_iconst (v := iI 1) C.1 C.2.1 dX11_init_131 rfl ?_
    refine z_iadd C dX11_init_132 ?_
    refine lv_iconst (v := iI 2) C.1 C.2.1 dX11_init_133 rfl ?_
    refine z_iast C hK hW 11 rfl (by omega) (by omega) dX11_init_134 (fun H locs hW => ?_)
    have hW : Wd G A s9.heap [(n_a20, .inl (G.2.1 2, 4, .inl (iA (fun _ => 0)))), (n_a19, .inl (G.2.1 0, 11, .inl (iA (fun _ => 0)))), (n_a18, .inl (G.2.1 0, 2480, .inl (iA (fun _ => 0)))), (n_a17, .inl (G.2.1 0, 62, .inl (iA (fun _ => 0)))), (n_a16, .inl (G.2.1 0, 5000, .inl (iA (fun _ => 0)))), (n_a15, .inl (G.2.1 0, 5000, .inl (iA (fun _ => 0)))), (n_a13, .inl (G.2.1 0, 40, .inl (iA (fun _ => 0)))), (n_a11, .inl (G.2.1 0, 40, .inl (iA (fun _ => 0)))), (n_a9, .inl (G.2.1 0, 60001, .inl (iA (fun _ => 0)))), (n_a8, .inl (G.2.1 0, 2000, .inl (iA (fun _ => 0)))), (n_a4, .inl (G.2.1 0, 32, .inl (iA (fun _ => 0)))), (n_a3, .inl (G.2.1 0, 32, .inl (iA (up (fun _ => 0) ((8 * 0) + 1) 2)))), (n_a1, .inl (G.2.1 1, 120, .inl (iA (fun _ => 0)))), (h, .inr (9, [.int (iI 0), .ref n_a1, .int (iI 0), .ref n_a3, .ref n_a4, .int (iI 0), .int (iI (-1)), .int (iI 0), .ref n_a8, .ref n_a9, .int (iI 0), .ref n_a11, .int (iI 0), .ref n_a13, .int (iI 0), .ref n_a15, .ref n_a16, .ref n_a17, .ref n_a18, .ref n_a19, .ref n_a20]))] H locs := hW
    refine lv_aload_n C.1 C.2.1 dX11_init_135 rfl (lv_at hl 1 rfl) ?_
    refine z_get C hK hW hin11 (v := .ref n_a3) 13 rfl rfl 3 (by decide) (C.2.2.2.2 (.fieldLink RX11 13 "TellingRowsModel" "law" "[I") (List.mem_of_getElem? (i := 7) rfl)) (fun _ h9 => h9) rfl dX11_init_136 ?_
    refine lv_bipush (v := iI 8) C.1 C.2.1 dX11_init_139 (by decide +kernel) ?_
    refine lv_iload_n C.1 C.2.1 dX11_init_141 rfl (lv_at hl 0 rfl) ?_
    refine z_imul C dX11_init_142 ?_
    refine lv_iconst (v := iI 2) C.1 C.2.1 dX11_init_143 rfl ?_
    refine z_iadd C dX11_init_144 ?_
    refine lv_iconst (v := iI 1) C.1 C.2.1 dX11_init_145 rfl ?_
    refine z_iast C hK hW 11 rfl (by omega) (by omega) dX11_init_146 (fun H locs hW => ?_)
    have hW : Wd G A s9.heap [(n_a20, .inl (G.2.1 2, 4, .inl (iA (fun _ => 0)))), (n_a19, .inl (G.2.1 0, 11, .inl (iA (fun _ => 0)))), (n_a18, .inl (G.2.1 0, 2480, .inl (iA (fun _ => 0)))), (n_a17, .inl (G.2.1 0, 62, .inl (iA (fun _ => 0)))), (n_a16, .inl (G.2.1 0, 5000, .inl (iA (fun _ => 0)))), (n_a15, .inl (G.2.1 0, 5000, .inl (iA (fun _ => 0)))), (n_a13, .inl (G.2.1 0, 40, .inl (iA (fun _ => 0)))), (n_a11, .inl (G.2.1 0, 40, .inl (iA (fun _ => 0)))), (n_a9, .inl (G.2.1 0, 60001, .inl (iA (fun _ => 0)))), (n_a8, .inl (G.2.1 0, 2000, .inl (iA (fun _ => 0)))), (n_a4, .inl (G.2.1 0, 32, .inl (iA (fun _ => 0)))), (n_a3, .inl (G.2.1 0, 32, .inl (iA (up (up (fun _ => 0) ((8 * 0) + 1) 2) ((8 * 0) + 2) 1)))), (n_a1, .inl (G.2.1 1, 120, .inl (iA (fun _ => 0)))), (h, .inr (9, [.int (iI 0), .ref n_a1, .int (iI 0), .ref n_a3, .ref n_a4, .int (iI 0), .int (iI (-1)), .int (iI 0), .ref n_a8, .ref n_a9, .int (iI 0), .ref n_a11, .int (iI 0), .ref n_a13, .int (iI 0), .ref n_a15, .ref n_a16, .ref n_a17, .ref n_a18, .ref n_a19, .ref n_a20]))] H locs := hW
    refine lv_aload_n C.1 C.2.1 dX11_init_147 rfl (lv_at hl 1 rfl) ?_
    refine z_get C hK hW hin11 (v := .ref n_a3) 13 rfl rfl 3 (by decide) (C.2.2.2.2 (.fieldLink RX11 13 "TellingRowsModel" "law" "[I") (List.mem_of_getElem? (i := 7) rfl)) (fun _ h9 => h9) rfl dX11_init_148 ?_
    refine lv_bipush (v := iI 8) C.1 C.2.1 dX11_init_151 (by decide +kernel) ?_
    refine lv_iload_n C.1 C.2.1 dX11_init_153 rfl (lv_at hl 0 rfl) ?_
    refine z_imul C dX11_init_154 ?_
    refine lv_iconst (v := iI 3) C.1 C.2.1 dX11_init_155 rfl ?_
    refine z_iadd C dX11_init_156 ?_
    refine lv_iconst (v := iI 1) C.1 C.2.1 dX11_init_157 rfl ?_
    refine z_iast C hK hW 11 rfl (by omega) (by omega) dX11_init_158 (fun H locs hW => ?_)
    have hW : Wd G A s9.heap [(n_a20, .inl (G.2.1 2, 4, .inl (iA (fun _ => 0)))), (n_a19, .inl (G.2.1 0, 11, .inl (iA (fun _ => 0)))), (n_a18, .inl (G.2.1 0, 2480, .inl (iA (fun _ => 0)))), (n_a17, .inl (G.2.1 0, 62, .inl (iA (fun _ => 0)))), (n_a16, .inl (G.2.1 0, 5000, .inl (iA (fun _ => 0)))), (n_a15, .inl (G.2.1 0, 5000, .inl (iA (fun _ => 0)))), (n_a13, .inl (G.2.1 0, 40, .inl (iA (fun _ => 0)))), (n_a11, .inl (G.2.1 0, 40, .inl (iA (fun _ => 0)))), (n_a9, .inl (G.2.1 0, 60001, .inl (iA (fun _ => 0)))), (n_a8, .inl (G.2.1 0, 2000, .inl (iA (fun _ => 0)))), (n_a4, .inl (G.2.1 0, 32, .inl (iA (fun _ => 0)))), (n_a3, .inl (G.2.1 0, 32, .inl (iA (up (up (up (fun _ => 0) ((8 * 0) + 1) 2) ((8 * 0) + 2) 1) ((8 * 0) + 3) 1)))), (n_a1, .inl (G.2.1 1, 120, .inl (iA (fun _ => 0)))), (h, .inr (9, [.int (iI 0), .ref n_a1, .int (iI 0), .ref n_a3, .ref n_a4, .int (iI 0), .int (iI (-1)), .int (iI 0), .ref n_a8, .ref n_a9, .int (iI 0), .ref n_a11, .int (iI 0), .ref n_a13, .int (iI 0), .ref n_a15, .ref n_a16, .ref n_a17, .ref n_a18, .ref n_a19, .ref n_a20]))] H locs := hW
    refine lv_iinc (v := iI 1) (lv' := [(1, .int (iI 1)), (0, .ref h)]) C.1 C.2.1 dX11_init_159 hl (k := 0) rfl (iI_add _ _) (by decide) rfl (fun ls hl => ?_)
    refine lv_goto (tgt := 118) C.1 C.2.1 dX11_init_162 (by decide) ?_
    refine lv_iload_n C.1 C.2.1 dX11_init_118 rfl (lv_at hl 0 rfl) ?_
    refine lv_iconst (v := iI 4) C.1 C.2.1 dX11_init_119 rfl ?_
    refine z_icmp_ge (tgt := 165) C dX11_init_120 (by decide) (by omega) (fun c_120 => ?_) (fun c_120 => ?_)
    ·
      exfalso; exact absurd c_120 (by decide)
    ·
      refine lv_aload_n C.1 C.2.1 dX11_init_123 rfl (lv_at hl 1 rfl) ?_
      refine z_get C hK hW hin11 (v := .ref n_a3) 13 rfl rfl 3 (by decide) (C.2.2.2.2 (.fieldLink RX11 13 "TellingRowsModel" "law" "[I") (List.mem_of_getElem? (i := 7) rfl)) (fun _ h9 => h9) rfl dX11_init_124 ?_
      refine lv_bipush (v := iI 8) C.1 C.2.1 dX11_init_127 (by decide +kernel) ?_
      refine lv_iload_n C.1 C.2.1 dX11_init_129 rfl (lv_at hl 0 rfl) ?_
      refine z_imul C dX11_init_130 ?_
      refine lv_iconst (v := iI 1) C.1 C.2.1 dX11_init_131 rfl ?_
      refine z_iadd C dX11_init_132 ?_
      refine lv_iconst (v := iI 2) C.1 C.2.1 dX11_init_133 rfl ?_
      refine z_iast C hK hW 11 rfl (by omega) (by omega) dX11_init_134 (fun H locs hW => ?_)
      have hW : Wd G A s9.heap [(n_a20, .inl (G.2.1 2, 4, .inl (iA (fun _ => 0)))), (n_a19, .inl (G.2.1 0, 11, .inl (iA (fun _ => 0)))), (n_a18, .inl (G.2.1 0, 2480, .inl (iA (fun _ => 0)))), (n_a17, .inl (G.2.1 0, 62, .inl (iA (fun _ => 0)))), (n_a16, .inl (G.2.1 0, 5000, .inl (iA (fun _ => 0)))), (n_a15, .inl (G.2.1 0, 5000, .inl (iA (fun _ => 0)))), (n_a13, .inl (G.2.1 0, 40, .inl (iA (fun _ => 0)))), (n_a11, .inl (G.2.1 0, 40, .inl (iA (fun _ => 0)))), (n_a9, .inl (G.2.1 0, 60001, .inl (iA (fun _ => 0)))), (n_a8, .inl (G.2.1 0, 2000, .inl (iA (fun _ => 0)))), (n_a4, .inl (G.2.1 0, 32, .inl (iA (fun _ => 0)))), (n_a3, .inl (G.2.1 0, 32, .inl (iA (up (up (up (up (fun _ => 0) ((8 * 0) + 1) 2) ((8 * 0) + 2) 1) ((8 * 0) + 3) 1) ((8 * 1) + 1) 2)))), (n_a1, .inl (G.2.1 1, 120, .inl (iA (fun _ => 0)))), (h, .inr (9, [.int (iI 0), .ref n_a1, .int (iI 0), .ref n_a3, .ref n_a4, .int (iI 0), .int (iI (-1)), .int (iI 0), .ref n_a8, .ref n_a9, .int (iI 0), .ref n_a11, .int (iI 0), .ref n_a13, .int (iI 0), .ref n_a15, .ref n_a16, .ref n_a17, .ref n_a18, .ref n_a19, .ref n_a20]))] H locs := hW
      refine lv_aload_n C.1 C.2.1 dX11_init_135 rfl (lv_at hl 1 rfl) ?_
      refine z_get C hK hW hin11 (v := .ref n_a3) 13 rfl rfl 3 (by decide) (C.2.2.2.2 (.fieldLink RX11 13 "TellingRowsModel" "law" "[I") (List.mem_of_getElem? (i := 7) rfl)) (fun _ h9 => h9) rfl dX11_init_136 ?_
      refine lv_bipush (v := iI 8) C.1 C.2.1 dX11_init_139 (by decide +kernel) ?_
      refine lv_iload_n C.1 C.2.1 dX11_init_141 rfl (lv_at hl 0 rfl) ?_
      refine z_imul C dX11_init_142 ?_
      refine lv_iconst (v := iI 2) C.1 C.2.1 dX11_init_143 rfl ?_
      refine z_iadd C dX11_init_144 ?_
      refine lv_iconst (v := iI 1) C.1 C.2.1 dX11_init_145 rfl ?_
      refine z_iast C hK hW 11 rfl (by omega) (by omega) dX11_init_146 (fun H locs hW => ?_)
      have hW : Wd G A s9.heap [(n_a20, .inl (G.2.1 2, 4, .inl (iA (fun _ => 0)))), (n_a19, .inl (G.2.1 0, 11, .inl (iA (fun _ => 0)))), (n_a18, .inl (G.2.1 0, 2480, .inl (iA (fun _ => 0)))), (n_a17, .inl (G.2.1 0, 62, .inl (iA (fun _ => 0)))), (n_a16, .inl (G.2.1 0, 5000, .inl (iA (fun _ => 0)))), (n_a15, .inl (G.2.1 0, 5000, .inl (iA (fun _ => 0)))), (n_a13, .inl (G.2.1 0, 40, .inl (iA (fun _ => 0)))), (n_a11, .inl (G.2.1 0, 40, .inl (iA (fun _ => 0)))), (n_a9, .inl (G.2.1 0, 60001, .inl (iA (fun _ => 0)))), (n_a8, .inl (G.2.1 0, 2000, .inl (iA (fun _ => 0)))), (n_a4, .inl (G.2.1 0, 32, .inl (iA (fun _ => 0)))), (n_a3, .inl (G.2.1 0, 32, .inl (iA (up (up (up (up (up (fun _ => 0) ((8 * 0) + 1) 2) ((8 * 0) + 2) 1) ((8 * 0) + 3) 1) ((8 * 1) + 1) 2) ((8 * 1) + 2) 1)))), (n_a1, .inl (G.2.1 1, 120, .inl (iA (fun _ => 0)))), (h, .inr (9, [.int (iI 0), .ref n_a1, .int (iI 0), .ref n_a3, .ref n_a4, .int (iI 0), .int (iI (-1)), .int (iI 0), .ref n_a8, .ref n_a9, .int (iI 0), .ref n_a11, .int (iI 0), .ref n_a13, .int (iI 0), .ref n_a15, .ref n_a16, .ref n_a17, .ref n_a18, .ref n_a19, .ref n_a20]))] H locs := hW
      refine lv_aload_n C.1 C.2.1 dX11_init_147 rfl (lv_at hl 1 rfl) ?_
      refine z_get C hK hW hin11 (v := .ref n_a3) 13 rfl rfl 3 (by decide) (C.2.2.2.2 (.fieldLink RX11 13 "TellingRowsModel" "law" "[I") (List.mem_of_getElem? (i := 7) rfl)) (fun _ h9 => h9) rfl dX11_init_148 ?_
      refine lv_bipush (v := iI 8) C.1 C.2.1 dX11_init_151 (by decide +kernel) ?_
      refine lv_iload_n C.1 C.2.1 dX11_init_153 rfl (lv_at hl 0 rfl) ?_
      refine z_imul C dX11_init_154 ?_
      refine lv_iconst (v := iI 3) C.1 C.2.1 dX11_init_155 rfl ?_
      refine z_iadd C dX11_init_156 ?_
      refine lv_iconst (v := iI 1) C.1 C.2.1 dX11_init_157 rfl ?_
      refine z_iast C hK hW 11 rfl (by omega) (by omega) dX11_init_158 (fun H locs hW => ?_)
      have hW : Wd G A s9.heap [(n_a20, .inl (G.2.1 2, 4, .inl (iA (fun _ => 0)))), (n_a19, .inl (G.2.1 0, 11, .inl (iA (fun _ => 0)))), (n_a18, .inl (G.2.1 0, 2480, .inl (iA (fun _ => 0)))), (n_a17, .inl (G.2.1 0, 62, .inl (iA (fun _ => 0)))), (n_a16, .inl (G.2.1 0, 5000, .inl (iA (fun _ => 0)))), (n_a15, .inl (G.2.1 0, 5000, .inl (iA (fun _ => 0)))), (n_a13, .inl (G.2.1 0, 40, .inl (iA (fun _ => 0)))), (n_a11, .inl (G.2.1 0, 40, .inl (iA (fun _ => 0)))), (n_a9, .inl (G.2.1 0, 60001, .inl (iA (fun _ => 0)))), (n_a8, .inl (G.2.1 0, 2000, .inl (iA (fun _ => 0)))), (n_a4, .inl (G.2.1 0, 32, .inl (iA (fun _ => 0)))), (n_a3, .inl (G.2.1 0, 32, .inl (iA (up (up (up (up (up (up (fun _ => 0) ((8 * 0) + 1) 2) ((8 * 0) + 2) 1) ((8 * 0) + 3) 1) ((8 * 1) + 1) 2) ((8 * 1) + 2) 1) ((8 * 1) + 3) 1)))), (n_a1, .inl (G.2.1 1, 120, .inl (iA (fun _ => 0)))), (h, .inr (9, [.int (iI 0), .ref n_a1, .int (iI 0), .ref n_a3, .ref n_a4, .int (iI 0), .int (iI (-1)), .int (iI 0), .ref n_a8, .ref n_a9, .int (iI 0), .ref n_a11, .int (iI 0), .ref n_a13, .int (iI 0), .ref n_a15, .ref n_a16, .ref n_a17, .ref n_a18, .ref n_a19, .ref n_a20]))] H locs := hW
      refine lv_iinc (v := iI 2) (lv' := [(1, .int (iI 2)), (0, .ref h)]) C.1 C.2.1 dX11_init_159 hl (k := 0) rfl (iI_add _ _) (by decide) rfl (fun ls hl => ?_)
      refine lv_goto (tgt := 118) C.1 C.2.1 dX11_init_162 (by decide) ?_
      refine lv_iload_n C.1 C.2.1 dX11_init_118 rfl (lv_at hl 0 rfl) ?_
      refine lv_iconst (v := iI 4) C.1 C.2.1 dX11_init_119 rfl ?_
      refine z_icmp_ge (tgt := 165) C dX11_init_120 (by decide) (by omega) (fun c_120 => ?_) (fun c_120 => ?_)
      ·
        exfalso; exact absurd c_120 (by decide)
      ·
        refine lv_aload_n C.1 C.2.1 dX11_init_123 rfl (lv_at hl 1 rfl) ?_
        refine z_get C hK hW hin11 (v := .ref n_a3) 13 rfl rfl 3 (by decide) (C.2.2.2.2 (.fieldLink RX11 13 "TellingRowsModel" "law" "[I") (List.mem_of_getElem? (i := 7) rfl)) (fun _ h9 => h9) rfl dX11_init_124 ?_
        refine lv_bipush (v := iI 8) C.1 C.2.1 dX11_init_127 (by decide +kernel) ?_
        refine lv_iload_n C.1 C.2.1 dX11_init_129 rfl (lv_at hl 0 rfl) ?_
        refine z_imul C dX11_init_130 ?_
        refine lv_iconst (v := iI 1) C.1 C.2.1 dX11_init_131 rfl ?_
        refine z_iadd C dX11_init_132 ?_
        refine lv_iconst (v := iI 2) C.1 C.2.1 dX11_init_133 rfl ?_
        refine z_iast C hK hW 11 rfl (by omega) (by omega) dX11_init_134 (fun H locs hW => ?_)
        have hW : Wd G A s9.heap [(n_a20, .inl (G.2.1 2, 4, .inl (iA (fun _ => 0)))), (n_a19, .inl (G.2.1 0, 11, .inl (iA (fun _ => 0)))), (n_a18, .inl (G.2.1 0, 2480, .inl (iA (fun _ => 0)))), (n_a17, .inl (G.2.1 0, 62, .inl (iA (fun _ => 0)))), (n_a16, .inl (G.2.1 0, 5000, .inl (iA (fun _ => 0)))), (n_a15, .inl (G.2.1 0, 5000, .inl (iA (fun _ => 0)))), (n_a13, .inl (G.2.1 0, 40, .inl (iA (fun _ => 0)))), (n_a11, .inl (G.2.1 0, 40, .inl (iA (fun _ => 0)))), (n_a9, .inl (G.2.1 0, 60001, .inl (iA (fun _ => 0)))), (n_a8, .inl (G.2.1 0, 2000, .inl (iA (fun _ => 0)))), (n_a4, .inl (G.2.1 0, 32, .inl (iA (fun _ => 0)))), (n_a3, .inl (G.2.1 0, 32, .inl (iA (up (up (up (up (up (up (up (fun _ => 0) ((8 * 0) + 1) 2) ((8 * 0) + 2) 1) ((8 * 0) + 3) 1) ((8 * 1) + 1) 2) ((8 * 1) + 2) 1) ((8 * 1) + 3) 1) ((8 * 2) + 1) 2)))), (n_a1, .inl (G.2.1 1, 120, .inl (iA (fun _ => 0)))), (h, .inr (9, [.int (iI 0), .ref n_a1, .int (iI 0), .ref n_a3, .ref n_a4, .int (iI 0), .int (iI (-1)), .int (iI 0), .ref n_a8, .ref n_a9, .int (iI 0), .ref n_a11, .int (iI 0), .ref n_a13, .int (iI 0), .ref n_a15, .ref n_a16, .ref n_a17, .ref n_a18, .ref n_a19, .ref n_a20]))] H locs := hW
        refine lv_aload_n C.1 C.2.1 dX11_init_135 rfl (lv_at hl 1 rfl) ?_
        refine z_get C hK hW hin11 (v := .ref n_a3) 13 rfl rfl 3 (by decide) (C.2.2.2.2 (.fieldLink RX11 13 "TellingRowsModel" "law" "[I") (List.mem_of_getElem? (i := 7) rfl)) (fun _ h9 => h9) rfl dX11_init_136 ?_
        refine lv_bipush (v := iI 8) C.1 C.2.1 dX11_init_139 (by decide +kernel) ?_
        refine lv_iload_n C.1 C.2.1 dX11_init_141 rfl (lv_at hl 0 rfl) ?_
        refine z_imul C dX11_init_142 ?_
        refine lv_iconst (v := iI 2) C.1 C.2.1 dX11_init_143 rfl ?_
        refine z_iadd C dX11_init_144 ?_
        refine lv_iconst (v := iI 1) C.1 C.2.1 dX11_init_145 rfl ?_
        refine z_iast C hK hW 11 rfl (by omega) (by omega) dX11_init_146 (fun H locs hW => ?_)
        have hW : Wd G A s9.heap [(n_a20, .inl (G.2.1 2, 4, .inl (iA (fun _ => 0)))), (n_a19, .inl (G.2.1 0, 11, .inl (iA (fun _ => 0)))), (n_a18, .inl (G.2.1 0, 2480, .inl (iA (fun _ => 0)))), (n_a17, .inl (G.2.1 0, 62, .inl (iA (fun _ => 0)))), (n_a16, .inl (G.2.1 0, 5000, .inl (iA (fun _ => 0)))), (n_a15, .inl (G.2.1 0, 5000, .inl (iA (fun _ => 0)))), (n_a13, .inl (G.2.1 0, 40, .inl (iA (fun _ => 0)))), (n_a11, .inl (G.2.1 0, 40, .inl (iA (fun _ => 0)))), (n_a9, .inl (G.2.1 0, 60001, .inl (iA (fun _ => 0)))), (n_a8, .inl (G.2.1 0, 2000, .inl (iA (fun _ => 0)))), (n_a4, .inl (G.2.1 0, 32, .inl (iA (fun _ => 0)))), (n_a3, .inl (G.2.1 0, 32, .inl (iA (up (up (up (up (up (up (up (up (fun _ => 0) ((8 * 0) + 1) 2) ((8 * 0) + 2) 1) ((8 * 0) + 3) 1) ((8 * 1) + 1) 2) ((8 * 1) + 2) 1) ((8 * 1) + 3) 1) ((8 * 2) + 1) 2) ((8 * 2) + 2) 1)))), (n_a1, .inl (G.2.1 1, 120, .inl (iA (fun _ => 0)))), (h, .inr (9, [.int (iI 0), .ref n_a1, .int (iI 0), .ref n_a3, .ref n_a4, .int (iI 0), .int (iI (-1)), .int (iI 0), .ref n_a8, .ref n_a9, .int (iI 0), .ref n_a11, .int (iI 0), .ref n_a13, .int (iI 0), .ref n_a15, .ref n_a16, .ref n_a17, .ref n_a18, .ref n_a19, .ref n_a20]))] H locs := hW
        refine lv_aload_n C.1 C.2.1 dX11_init_147 rfl (lv_at hl 1 rfl) ?_
        refine z_get C hK hW hin11 (v := .ref n_a3) 13 rfl rfl 3 (by decide) (C.2.2.2.2 (.fieldLink RX11 13 "TellingRowsModel" "law" "[I") (List.mem_of_getElem? (i := 7) rfl)) (fun _ h9 => h9) rfl dX11_init_148 ?_
        refine lv_bipush (v := iI 8) C.1 C.2.1 dX11_init_151 (by decide +kernel) ?_
        refine lv_iload_n C.1 C.2.1 dX11_init_153 rfl (lv_at hl 0 rfl) ?_
        refine z_imul C dX11_init_154 ?_
        refine lv_iconst (v := iI 3) C.1 C.2.1 dX11_init_155 rfl ?_
        refine z_iadd C dX11_init_156 ?_
        refine lv_iconst (v := iI 1) C.1 C.2.1 dX11_init_157 rfl ?_
        refine z_iast C hK hW 11 rfl (by omega) (by omega) dX11_init_158 (fun H locs hW => ?_)
        have hW : Wd G A s9.heap [(n_a20, .inl (G.2.1 2, 4, .inl (iA (fun _ => 0)))), (n_a19, .inl (G.2.1 0, 11, .inl (iA (fun _ => 0)))), (n_a18, .inl (G.2.1 0, 2480, .inl (iA (fun _ => 0)))), (n_a17, .inl (G.2.1 0, 62, .inl (iA (fun _ => 0)))), (n_a16, .inl (G.2.1 0, 5000, .inl (iA (fun _ => 0)))), (n_a15, .inl (G.2.1 0, 5000, .inl (iA (fun _ => 0)))), (n_a13, .inl (G.2.1 0, 40, .inl (iA (fun _ => 0)))), (n_a11, .inl (G.2.1 0, 40, .inl (iA (fun _ => 0)))), (n_a9, .inl (G.2.1 0, 60001, .inl (iA (fun _ => 0)))), (n_a8, .inl (G.2.1 0, 2000, .inl (iA (fun _ => 0)))), (n_a4, .inl (G.2.1 0, 32, .inl (iA (fun _ => 0)))), (n_a3, .inl (G.2.1 0, 32, .inl (iA (up (up (up (up (up (up (up (up (up (fun _ => 0) ((8 * 0) + 1) 2) ((8 * 0) + 2) 1) ((8 * 0) + 3) 1) ((8 * 1) + 1) 2) ((8 * 1) + 2) 1) ((8 * 1) + 3) 1) ((8 * 2) + 1) 2) ((8 * 2) + 2) 1) ((8 * 2) + 3) 1)))), (n_a1, .inl (G.2.1 1, 120, .inl (iA (fun _ => 0)))), (h, .inr (9, [.int (iI 0), .ref n_a1, .int (iI 0), .ref n_a3, .ref n_a4, .int (iI 0), .int (iI (-1)), .int (iI 0), .ref n_a8, .ref n_a9, .int (iI 0), .ref n_a11, .int (iI 0), .ref n_a13, .int (iI 0), .ref n_a15, .ref n_a16, .ref n_a17, .ref n_a18, .ref n_a19, .ref n_a20]))] H locs := hW
        refine lv_iinc (v := iI 3) (lv' := [(1, .int (iI 3)), (0, .ref h)]) C.1 C.2.1 dX11_init_159 hl (k := 0) rfl (iI_add _ _) (by decide) rfl (fun ls hl => ?_)
        refine lv_goto (tgt := 118) C.1 C.2.1 dX11_init_162 (by decide) ?_
        refine lv_iload_n C.1 C.2.1 dX11_init_118 rfl (lv_at hl 0 rfl) ?_
        refine lv_iconst (v := iI 4) C.1 C.2.1 dX11_init_119 rfl ?_
        refine z_icmp_ge (tgt := 165) C dX11_init_120 (by decide) (by omega) (fun c_120 => ?_) (fun c_120 => ?_)
        ·
          exfalso; exact absurd c_120 (by decide)
        ·
          refine lv_aload_n C.1 C.2.1 dX11_init_123 rfl (lv_at hl 1 rfl) ?_
          refine z_get C hK hW hin11 (v := .ref n_a3) 13 rfl rfl 3 (by decide) (C.2.2.2.2 (.fieldLink RX11 13 "TellingRowsModel" "law" "[I") (List.mem_of_getElem? (i := 7) rfl)) (fun _ h9 => h9) rfl dX11_init_124 ?_
          refine lv_bipush (v := iI 8) C.1 C.2.1 dX11_init_127 (by decide +kernel) ?_
          refine lv_iload_n C.1 C.2.1 dX11_init_129 rfl (lv_at hl 0 rfl) ?_
          refine z_imul C dX11_init_130 ?_
          refine lv_iconst (v := iI 1) C.1 C.2.1 dX11_init_131 rfl ?_
          refine z_iadd C dX11_init_132 ?_
          refine lv_iconst (v := iI 2) C.1 C.2.1 dX11_init_133 rfl ?_
          refine z_iast C hK hW 11 rfl (by omega) (by omega) dX11_init_134 (fun H locs hW => ?_)
          have hW : Wd G A s9.heap [(n_a20, .inl (G.2.1 2, 4, .inl (iA (fun _ => 0)))), (n_a19, .inl (G.2.1 0, 11, .inl (iA (fun _ => 0)))), (n_a18, .inl (G.2.1 0, 2480, .inl (iA (fun _ => 0)))), (n_a17, .inl (G.2.1 0, 62, .inl (iA (fun _ => 0)))), (n_a16, .inl (G.2.1 0, 5000, .inl (iA (fun _ => 0)))), (n_a15, .inl (G.2.1 0, 5000, .inl (iA (fun _ => 0)))), (n_a13, .inl (G.2.1 0, 40, .inl (iA (fun _ => 0)))), (n_a11, .inl (G.2.1 0, 40, .inl (iA (fun _ => 0)))), (n_a9, .inl (G.2.1 0, 60001, .inl (iA (fun _ => 0)))), (n_a8, .inl (G.2.1 0, 2000, .inl (iA (fun _ => 0)))), (n_a4, .inl (G.2.1 0, 32, .inl (iA (fun _ => 0)))), (n_a3, .inl (G.2.1 0, 32, .inl (iA (up (up (up (up (up (up (up (up (up (up (fun _ => 0) ((8 * 0) + 1) 2) ((8 * 0) + 2) 1) ((8 * 0) + 3) 1) ((8 * 1) + 1) 2) ((8 * 1) + 2) 1) ((8 * 1) + 3) 1) ((8 * 2) + 1) 2) ((8 * 2) + 2) 1) ((8 * 2) + 3) 1) ((8 * 3) + 1) 2)))), (n_a1, .inl (G.2.1 1, 120, .inl (iA (fun _ => 0)))), (h, .inr (9, [.int (iI 0), .ref n_a1, .int (iI 0), .ref n_a3, .ref n_a4, .int (iI 0), .int (iI (-1)), .int (iI 0), .ref n_a8, .ref n_a9, .int (iI 0), .ref n_a11, .int (iI 0), .ref n_a13, .int (iI 0), .ref n_a15, .ref n_a16, .ref n_a17, .ref n_a18, .ref n_a19, .ref n_a20]))] H locs := hW
          refine lv_aload_n C.1 C.2.1 dX11_init_135 rfl (lv_at hl 1 rfl) ?_
          refine z_get C hK hW hin11 (v := .ref n_a3) 13 rfl rfl 3 (by decide) (C.2.2.2.2 (.fieldLink RX11 13 "TellingRowsModel" "law" "[I") (List.mem_of_getElem? (i := 7) rfl)) (fun _ h9 => h9) rfl dX11_init_136 ?_
          refine lv_bipush (v := iI 8) C.1 C.2.1 dX11_init_139 (by decide +kernel) ?_
          refine lv_iload_n C.1 C.2.1 dX11_init_141 rfl (lv_at hl 0 rfl) ?_
          refine z_imul C dX11_init_142 ?_
          refine lv_iconst (v := iI 2) C.1 C.2.1 dX11_init_143 rfl ?_
          refine z_iadd C dX11_init_144 ?_
          refine lv_iconst (v := iI 1) C.1 C.2.1 dX11_init_145 rfl ?_
          refine z_iast C hK hW 11 rfl (by omega) (by omega) dX11_init_146 (fun H locs hW => ?_)
          have hW : Wd G A s9.heap [(n_a20, .inl (G.2.1 2, 4, .inl (iA (fun _ => 0)))), (n_a19, .inl (G.2.1 0, 11, .inl (iA (fun _ => 0)))), (n_a18, .inl (G.2.1 0, 2480, .inl (iA (fun _ => 0)))), (n_a17, .inl (G.2.1 0, 62, .inl (iA (fun _ => 0)))), (n_a16, .inl (G.2.1 0, 5000, .inl (iA (fun _ => 0)))), (n_a15, .inl (G.2.1 0, 5000, .inl (iA (fun _ => 0)))), (n_a13, .inl (G.2.1 0, 40, .inl (iA (fun _ => 0)))), (n_a11, .inl (G.2.1 0, 40, .inl (iA (fun _ => 0)))), (n_a9, .inl (G.2.1 0, 60001, .inl (iA (fun _ => 0)))), (n_a8, .inl (G.2.1 0, 2000, .inl (iA (fun _ => 0)))), (n_a4, .inl (G.2.1 0, 32, .inl (iA (fun _ => 0)))), (n_a3, .inl (G.2.1 0, 32, .inl (iA (up (up (up (up (up (up (up (up (up (up (up (fun _ => 0) ((8 * 0) + 1) 2) ((8 * 0) + 2) 1) ((8 * 0) + 3) 1) ((8 * 1) + 1) 2) ((8 * 1) + 2) 1) ((8 * 1) + 3) 1) ((8 * 2) + 1) 2) ((8 * 2) + 2) 1) ((8 * 2) + 3) 1) ((8 * 3) + 1) 2) ((8 * 3) + 2) 1)))), (n_a1, .inl (G.2.1 1, 120, .inl (iA (fun _ => 0)))), (h, .inr (9, [.int (iI 0), .ref n_a1, .int (iI 0), .ref n_a3, .ref n_a4, .int (iI 0), .int (iI (-1)), .int (iI 0), .ref n_a8, .ref n_a9, .int (iI 0), .ref n_a11, .int (iI 0), .ref n_a13, .int (iI 0), .ref n_a15, .ref n_a16, .ref n_a17, .ref n_a18, .ref n_a19, .ref n_a20]))] H locs := hW
          refine lv_aload_n C.1 C.2.1 dX11_init_147 rfl (lv_at hl 1 rfl) ?_
          refine z_get C hK hW hin11 (v := .ref n_a3) 13 rfl rfl 3 (by decide) (C.2.2.2.2 (.fieldLink RX11 13 "TellingRowsModel" "law" "[I") (List.mem_of_getElem? (i := 7) rfl)) (fun _ h9 => h9) rfl dX11_init_148 ?_
          refine lv_bipush (v := iI 8) C.1 C.2.1 dX11_init_151 (by decide +kernel) ?_
          refine lv_iload_n C.1 C.2.1 dX11_init_153 rfl (lv_at hl 0 rfl) ?_
          refine z_imul C dX11_init_154 ?_
          refine lv_iconst (v := iI 3) C.1 C.2.1 dX11_init_155 rfl ?_
          refine z_iadd C dX11_init_156 ?_
          refine lv_iconst (v := iI 1) C.1 C.2.1 dX11_init_157 rfl ?_
          refine z_iast C hK hW 11 rfl (by omega) (by omega) dX11_init_158 (fun H locs hW => ?_)
          have hW : Wd G A s9.heap [(n_a20, .inl (G.2.1 2, 4, .inl (iA (fun _ => 0)))), (n_a19, .inl (G.2.1 0, 11, .inl (iA (fun _ => 0)))), (n_a18, .inl (G.2.1 0, 2480, .inl (iA (fun _ => 0)))), (n_a17, .inl (G.2.1 0, 62, .inl (iA (fun _ => 0)))), (n_a16, .inl (G.2.1 0, 5000, .inl (iA (fun _ => 0)))), (n_a15, .inl (G.2.1 0, 5000, .inl (iA (fun _ => 0)))), (n_a13, .inl (G.2.1 0, 40, .inl (iA (fun _ => 0)))), (n_a11, .inl (G.2.1 0, 40, .inl (iA (fun _ => 0)))), (n_a9, .inl (G.2.1 0, 60001, .inl (iA (fun _ => 0)))), (n_a8, .inl (G.2.1 0, 2000, .inl (iA (fun _ => 0)))), (n_a4, .inl (G.2.1 0, 32, .inl (iA (fun _ => 0)))), (n_a3, .inl (G.2.1 0, 32, .inl (iA (up (up (up (up (up (up (up (up (up (up (up (up (fun _ => 0) ((8 * 0) + 1) 2) ((8 * 0) + 2) 1) ((8 * 0) + 3) 1) ((8 * 1) + 1) 2) ((8 * 1) + 2) 1) ((8 * 1) + 3) 1) ((8 * 2) + 1) 2) ((8 * 2) + 2) 1) ((8 * 2) + 3) 1) ((8 * 3) + 1) 2) ((8 * 3) + 2) 1) ((8 * 3) + 3) 1)))), (n_a1, .inl (G.2.1 1, 120, .inl (iA (fun _ => 0)))), (h, .inr (9, [.int (iI 0), .ref n_a1, .int (iI 0), .ref n_a3, .ref n_a4, .int (iI 0), .int (iI (-1)), .int (iI 0), .ref n_a8, .ref n_a9, .int (iI 0), .ref n_a11, .int (iI 0), .ref n_a13, .int (iI 0), .ref n_a15, .ref n_a16, .ref n_a17, .ref n_a18, .ref n_a19, .ref n_a20]))] H locs := hW
          refine lv_iinc (v := iI 4) (lv' := [(1, .int (iI 4)), (0, .ref h)]) C.1 C.2.1 dX11_init_159 hl (k := 0) rfl (iI_add _ _) (by decide) rfl (fun ls hl => ?_)
          refine lv_goto (tgt := 118) C.1 C.2.1 dX11_init_162 (by decide) ?_
          refine lv_iload_n C.1 C.2.1 dX11_init_118 rfl (lv_at hl 0 rfl) ?_
          refine lv_iconst (v := iI 4) C.1 C.2.1 dX11_init_119 rfl ?_
          refine z_icmp_ge (tgt := 165) C dX11_init_120 (by decide) (by omega) (fun c_120 => ?_) (fun c_120 => ?_)
          ·
            rw [hQ]
            have hP9 : (∀ r, 0 ≤ r → r ≤ 3 → (up (up (up (up (up (up (up (up (up (up (up (up (fun _ => 0) ((8 * 0) + 1) 2) ((8 * 0) + 2) 1) ((8 * 0) + 3) 1) ((8 * 1) + 1) 2) ((8 * 1) + 2) 1) ((8 * 1) + 3) 1) ((8 * 2) + 1) 2) ((8 * 2) + 2) 1) ((8 * 2) + 3) 1) ((8 * 3) + 1) 2) ((8 * 3) + 2) 1) ((8 * 3) + 3) 1) (8 * r) = 0 ∧ (up (up (up (up (up (up (up (up (up (up (up (up (fun _ => 0) ((8 * 0) + 1) 2) ((8 * 0) + 2) 1) ((8 * 0) + 3) 1) ((8 * 1) + 1) 2) ((8 * 1) + 2) 1) ((8 * 1) + 3) 1) ((8 * 2) + 1) 2) ((8 * 2) + 2) 1) ((8 * 2) + 3) 1) ((8 * 3) + 1) 2) ((8 * 3) + 2) 1) ((8 * 3) + 3) 1) (8 * r + 1) = 2 ∧ (up (up (up (up (up (up (up (up (up (up (up (up (fun _ => 0) ((8 * 0) + 1) 2) ((8 * 0) + 2) 1) ((8 * 0) + 3) 1) ((8 * 1) + 1) 2) ((8 * 1) + 2) 1) ((8 * 1) + 3) 1) ((8 * 2) + 1) 2) ((8 * 2) + 2) 1) ((8 * 2) + 3) 1) ((8 * 3) + 1) 2) ((8 * 3) + 2) 1) ((8 * 3) + 3) 1) (8 * r + 2) = 1 ∧ (up (up (up (up (up (up (up (up (up (up (up (up (fun _ => 0) ((8 * 0) + 1) 2) ((8 * 0) + 2) 1) ((8 * 0) + 3) 1) ((8 * 1) + 1) 2) ((8 * 1) + 2) 1) ((8 * 1) + 3) 1) ((8 * 2) + 1) 2) ((8 * 2) + 2) 1) ((8 * 2) + 3) 1) ((8 * 3) + 1) 2) ((8 * 3) + 2) 1) ((8 * 3) + 3) 1) (8 * r + 3) = 1) ∧ (BD (up (up (up (up (up (up (up (up (up (up (up (up (fun _ => 0) ((8 * 0) + 1) 2) ((8 * 0) + 2) 1) ((8 * 0) + 3) 1) ((8 * 1) + 1) 2) ((8 * 1) + 2) 1) ((8 * 1) + 3) 1) ((8 * 2) + 1) 2) ((8 * 2) + 2) 1) ((8 * 2) + 3) 1) ((8 * 3) + 1) 2) ((8 * 3) + 2) 1) ((8 * 3) + 3) 1)) := ⟨(fun r r0 r1 => by rcases (show r = 0 ∨ r = 1 ∨ r = 2 ∨ r = 3 by omega) with e | e | e | e <;> subst e <;> exact ⟨rfl, rfl, rfl, rfl⟩), (by (repeat (refine BD.up ?_ (by omega))); exact BD.cst (by omega))⟩
            exact z_vretI C hr hlocks (Wd.sub hW [13, 12, 11, 10, 9, 8, 7, 6, 5, 4, 3, 2, 1, 0] rfl (by decide)) (n_a1, n_a3, n_a4, n_a8, n_a9, n_a11, n_a13, n_a15, n_a16, n_a17, n_a18, n_a19, n_a20, (up (up (up (up (up (up (up (up (up (up (up (up (fun _ => 0) ((8 * 0) + 1) 2) ((8 * 0) + 2) 1) ((8 * 0) + 3) 1) ((8 * 1) + 1) 2) ((8 * 1) + 2) 1) ((8 * 1) + 3) 1) ((8 * 2) + 1) 2) ((8 * 2) + 2) 1) ((8 * 2) + 3) 1) ((8 * 3) + 1) 2) ((8 * 3) + 2) 1) ((8 * 3) + 3) 1)) rfl hP9 ⟨Nat.le_of_ble_eq_true rfl, Nat.le_of_ble_eq_true rfl⟩ dX11_init_165
          ·
            exfalso; exact absurd c_120 (by decide)
