set_option maxHeartbeats 4000000 in
set_option maxRecDepth 100000 in
/-- Sequence.size -/
theorem c_X6_size (l : Launch) (G : GG) (h : Nat) (a : Nat) (N : Nat) (n : Int) (f : Int → Int) : MRc l yX6_size wsX6_size 0 G [.ref h] [(h, .inr (5, [.ref a, .int (iI n)])), (a, .inl (G.2.1 0, N, .inl (iA f)))] (fun r => ∃ z : Int, r = some (.int (iI z)) ∧ (z = n)) := by
  refine MRc.start (own := RX6) (by decide) rfl rfl (Nat.le_of_ble_eq_true rfl) ?_
  intro p9 e9 s9 m9 args below meth c9 A Q C hK hW hA hr hlocks hQ ls hl
  have hl : lv_has ls 1 [(0, .ref h)] := hl
  have hin6 : ∀ w ∈ wsX60, w ∈ wsX6_size := by decide +kernel
  refine lv_aload_n C.1 C.2.1 dX6_size_0 rfl (lv_at hl 0 rfl) ?_
  refine z_get C hK hW hin6 (v := .int (iI n)) 0 rfl rfl 1 (by decide) (C.2.2.2.2 (.fieldLink RX6 21 "TellingRows$Sequence" "size" "I") (List.mem_of_getElem? (i := 1) rfl)) (fun _ h9 => h9) rfl dX6_size_1 ?_
  rw [hQ]
  have hP9 : ∃ z : Int, (some (Value.int (iI n))) = some (.int (iI z)) ∧ (z = n) := ⟨_, rfl, (by first | omega | assumption | (intros; first | rfl | omega | assumption | (and_intros <;> first | rfl | omega | assumption)))⟩
  exact z_iretR C hr hlocks hP9 dX6_size_4
set_option maxHeartbeats 4000000 in
set_option maxRecDepth 100000 in
/-- Sequence.get -/
theorem c_X6_get (l : Launch) (G : GG) (h : Nat) (a : Nat) (N : Nat) (n : Int) (f : Int → Int) (i : Int) (hN : N ≤ 2147483647) (hn : 0 ≤ n ∧ n ≤ (N : Int)) (hf : BD f) (hi : -2147483648 ≤ i ∧ i ≤ 2147483647) : MRc l yX6_get wsX6_get 0 G [.ref h, .int (iI i)] [(h, .inr (5, [.ref a, .int (iI n)])), (a, .inl (G.2.1 0, N, .inl (iA f)))] (fun r => ∃ z : Int, r = some (.int (iI z)) ∧ ((0 ≤ i ∧ i < n → z = f i)) ∧ ((¬ (0 ≤ i ∧ i < n) → z = -4)) ∧ (-2147483648 ≤ z ∧ z ≤ 2147483647)) := by
  refine MRc.start (own := RX6) (by decide) rfl rfl (Nat.le_of_ble_eq_true rfl) ?_
  intro p9 e9 s9 m9 args below meth c9 A Q C hK hW hA hr hlocks hQ ls hl
  have hl : lv_has ls 2 [(0, .ref h), (1, .int (iI i))] := hl
  have hin6 : ∀ w ∈ wsX60, w ∈ wsX6_get := by decide +kernel
  refine lv_iload_n C.1 C.2.1 dX6_get_0 rfl (lv_at hl 1 rfl) ?_
  refine z_if_lt (tgt := 30) C dX6_get_1 (by decide) (by omega) (fun c_1 => ?_) (fun c_1 => ?_)
  ·
    refine lv_bipush (v := iI (-4)) C.1 C.2.1 dX6_get_30 (by decide +kernel) ?_
    rw [hQ]
    have hP9 : ∃ z : Int, (some (Value.int (iI (-4)))) = some (.int (iI z)) ∧ ((0 ≤ i ∧ i < n → z = f i)) ∧ ((¬ (0 ≤ i ∧ i < n) → z = -4)) ∧ (-2147483648 ≤ z ∧ z ≤ 2147483647) := ⟨_, rfl, (by first | omega | assumption | (intros; first | rfl | omega | assumption | (and_intros <;> first | rfl | omega | assumption))), (by first | omega | assumption | (intros; first | rfl | omega | assumption | (and_intros <;> first | rfl | omega | assumption))), (by first | omega | assumption | (intros; first | rfl | omega | assumption | (and_intros <;> first | rfl | omega | assumption)))⟩
    exact z_iretR C hr hlocks hP9 dX6_get_32
  ·
    refine lv_iload_n C.1 C.2.1 dX6_get_4 rfl (lv_at hl 1 rfl) ?_
    refine lv_aload_n C.1 C.2.1 dX6_get_5 rfl (lv_at hl 0 rfl) ?_
    refine z_get C hK hW hin6 (v := .int (iI n)) 0 rfl rfl 1 (by decide) (C.2.2.2.2 (.fieldLink RX6 21 "TellingRows$Sequence" "size" "I") (List.mem_of_getElem? (i := 1) rfl)) (fun _ h9 => h9) rfl dX6_get_6 ?_
    refine z_icmp_ge (tgt := 30) C dX6_get_9 (by decide) (by omega) (fun c_9 => ?_) (fun c_9 => ?_)
    ·
      refine lv_bipush (v := iI (-4)) C.1 C.2.1 dX6_get_30 (by decide +kernel) ?_
      rw [hQ]
      have hP9 : ∃ z : Int, (some (Value.int (iI (-4)))) = some (.int (iI z)) ∧ ((0 ≤ i ∧ i < n → z = f i)) ∧ ((¬ (0 ≤ i ∧ i < n) → z = -4)) ∧ (-2147483648 ≤ z ∧ z ≤ 2147483647) := ⟨_, rfl, (by first | omega | assumption | (intros; first | rfl | omega | assumption | (and_intros <;> first | rfl | omega | assumption))), (by first | omega | assumption | (intros; first | rfl | omega | assumption | (and_intros <;> first | rfl | omega | assumption))), (by first | omega | assumption | (intros; first | rfl | omega | assumption | (and_intros <;> first | rfl | omega | assumption)))⟩
      exact z_iretR C hr hlocks hP9 dX6_get_32
    ·
      refine lv_iload_n C.1 C.2.1 dX6_get_12 rfl (lv_at hl 1 rfl) ?_
      refine lv_aload_n C.1 C.2.1 dX6_get_13 rfl (lv_at hl 0 rfl) ?_
      refine z_get C hK hW hin6 (v := .ref a) 0 rfl rfl 0 (by decide) (C.2.2.2.2 (.fieldLink RX6 15 "TellingRows$Sequence" "items" "[I") (List.mem_of_getElem? (i := 2) rfl)) (fun _ h9 => h9) rfl dX6_get_14 ?_
      refine z_alen C hK hW 1 0 rfl rfl dX6_get_17 ?_
      refine z_icmp_ge (tgt := 30) C dX6_get_18 (by decide) (by omega) (fun c_18 => ?_) (fun c_18 => ?_)
      ·
        refine lv_bipush (v := iI (-4)) C.1 C.2.1 dX6_get_30 (by decide +kernel) ?_
        rw [hQ]
        have hP9 : ∃ z : Int, (some (Value.int (iI (-4)))) = some (.int (iI z)) ∧ ((0 ≤ i ∧ i < n → z = f i)) ∧ ((¬ (0 ≤ i ∧ i < n) → z = -4)) ∧ (-2147483648 ≤ z ∧ z ≤ 2147483647) := ⟨_, rfl, (by first | omega | assumption | (intros; first | rfl | omega | assumption | (and_intros <;> first | rfl | omega | assumption))), (by first | omega | assumption | (intros; first | rfl | omega | assumption | (and_intros <;> first | rfl | omega | assumption))), (by first | omega | assumption | (intros; first | rfl | omega | assumption | (and_intros <;> first | rfl | omega | assumption)))⟩
        exact z_iretR C hr hlocks hP9 dX6_get_32
      ·
        refine lv_aload_n C.1 C.2.1 dX6_get_21 rfl (lv_at hl 0 rfl) ?_
        refine z_get C hK hW hin6 (v := .ref a) 0 rfl rfl 0 (by decide) (C.2.2.2.2 (.fieldLink RX6 15 "TellingRows$Sequence" "items" "[I") (List.mem_of_getElem? (i := 2) rfl)) (fun _ h9 => h9) rfl dX6_get_22 ?_
        refine lv_iload_n C.1 C.2.1 dX6_get_25 rfl (lv_at hl 1 rfl) ?_
        refine z_iald C hK hW 1 rfl (by omega) (by omega) dX6_get_26 ?_
        have hb_26 := hf i
        have hb_26 := hf i
        refine lv_goto (tgt := 32) C.1 C.2.1 dX6_get_27 (by decide) ?_
        rw [hQ]
        have hP9 : ∃ z : Int, (some (Value.int (iI (f i)))) = some (.int (iI z)) ∧ ((0 ≤ i ∧ i < n → z = f i)) ∧ ((¬ (0 ≤ i ∧ i < n) → z = -4)) ∧ (-2147483648 ≤ z ∧ z ≤ 2147483647) := ⟨_, rfl, (by first | omega | assumption | (intros; first | rfl | omega | assumption | (and_intros <;> first | rfl | omega | assumption))), (by first | omega | assumption | (intros; first | rfl | omega | assumption | (and_intros <;> first | rfl | omega | assumption))), (by first | omega | assumption | (intros; first | rfl | omega | assumption | (and_intros <;> first | rfl | omega | assumption)))⟩
        exact z_iretR C hr hlocks hP9 dX6_get_32
set_option maxHeartbeats 4000000 in
set_option maxRecDepth 100000 in
/-- Sequence.add -/
theorem c_X6_add (l : Launch) (G : GG) (h : Nat) (a : Nat) (N : Nat) (n : Int) (f : Int → Int) (x : Int) (hN : N ≤ 2147483647) (hn : 0 ≤ n ∧ n ≤ (N : Int)) (hf : BD f) (hx : -2147483648 ≤ x ∧ x ≤ 2147483647) : MQc l yX6_add wsX6_add 0 G [.ref h, .int (iI x)] [(h, .inr (5, [.ref a, .int (iI n)])), (a, .inl (G.2.1 0, N, .inl (iA f)))] (fun r (u : Int × (Int → Int)) => ∃ z : Int, r = some (.int (iI z)) ∧ ((n < (N : Int) → z = 1 ∧ u.1 = n + 1 ∧ u.2 = up f n x)) ∧ ((¬ n < (N : Int) → z = 0 ∧ u.1 = n ∧ u.2 = f)) ∧ (BD u.2)) (fun u => [(h, .inr (5, [.ref a, .int (iI u.1)])), (a, .inl (G.2.1 0, N, .inl (iA u.2)))]) := by
  refine MQc.start (own := RX6) (by decide) rfl rfl (Nat.le_of_ble_eq_true rfl) ?_
  intro p9 e9 s9 m9 args below meth c9 A Q C hK hW hA hr hlocks hQ ls hl
  have hl : lv_has ls 2 [(0, .ref h), (1, .int (iI x))] := hl
  have hin6 : ∀ w ∈ wsX60, w ∈ wsX6_add := by decide +kernel
  refine lv_aload_n C.1 C.2.1 dX6_add_0 rfl (lv_at hl 0 rfl) ?_
  refine z_get C hK hW hin6 (v := .int (iI n)) 0 rfl rfl 1 (by decide) (C.2.2.2.2 (.fieldLink RX6 21 "TellingRows$Sequence" "size" "I") (List.mem_of_getElem? (i := 1) rfl)) (fun _ h9 => h9) rfl dX6_add_1 ?_
  refine z_if_lt (tgt := 19) C dX6_add_4 (by decide) (by omega) (fun c_4 => ?_) (fun c_4 => ?_)
  ·
    exfalso; omega
  ·
    refine lv_aload_n C.1 C.2.1 dX6_add_7 rfl (lv_at hl 0 rfl) ?_
    refine z_get C hK hW hin6 (v := .int (iI n)) 0 rfl rfl 1 (by decide) (C.2.2.2.2 (.fieldLink RX6 21 "TellingRows$Sequence" "size" "I") (List.mem_of_getElem? (i := 1) rfl)) (fun _ h9 => h9) rfl dX6_add_8 ?_
    refine lv_aload_n C.1 C.2.1 dX6_add_11 rfl (lv_at hl 0 rfl) ?_
    refine z_get C hK hW hin6 (v := .ref a) 0 rfl rfl 0 (by decide) (C.2.2.2.2 (.fieldLink RX6 15 "TellingRows$Sequence" "items" "[I") (List.mem_of_getElem? (i := 2) rfl)) (fun _ h9 => h9) rfl dX6_add_12 ?_
    refine z_alen C hK hW 1 0 rfl rfl dX6_add_15 ?_
    refine z_icmp_lt (tgt := 21) C dX6_add_16 (by decide) (by omega) (fun c_16 => ?_) (fun c_16 => ?_)
    ·
      refine lv_aload_n C.1 C.2.1 dX6_add_21 rfl (lv_at hl 0 rfl) ?_
      refine z_get C hK hW hin6 (v := .ref a) 0 rfl rfl 0 (by decide) (C.2.2.2.2 (.fieldLink RX6 15 "TellingRows$Sequence" "items" "[I") (List.mem_of_getElem? (i := 2) rfl)) (fun _ h9 => h9) rfl dX6_add_22 ?_
      refine lv_aload_n C.1 C.2.1 dX6_add_25 rfl (lv_at hl 0 rfl) ?_
      refine z_get C hK hW hin6 (v := .int (iI n)) 0 rfl rfl 1 (by decide) (C.2.2.2.2 (.fieldLink RX6 21 "TellingRows$Sequence" "size" "I") (List.mem_of_getElem? (i := 1) rfl)) (fun _ h9 => h9) rfl dX6_add_26 ?_
      refine lv_iload_n C.1 C.2.1 dX6_add_29 rfl (lv_at hl 1 rfl) ?_
      refine z_iast C hK hW 1 rfl (by omega) (by omega) dX6_add_30 (fun H locs hW => ?_)
      have hbd_30 : BD (up f n x) := BD.up hf (by omega)
      have hW : Wd G A s9.heap [(h, .inr (5, [.ref a, .int (iI n)])), (a, .inl (G.2.1 0, N, .inl (iA (up f n x))))] H locs := hW
      refine lv_aload_n C.1 C.2.1 dX6_add_31 rfl (lv_at hl 0 rfl) ?_
      refine lv_dup C.1 C.2.1 dX6_add_32 rfl ?_
      refine z_get C hK hW hin6 (v := .int (iI n)) 0 rfl rfl 1 (by decide) (C.2.2.2.2 (.fieldLink RX6 21 "TellingRows$Sequence" "size" "I") (List.mem_of_getElem? (i := 1) rfl)) (fun _ h9 => h9) rfl dX6_add_33 ?_
      refine lv_iconst (v := iI 1) C.1 C.2.1 dX6_add_36 rfl ?_
      refine z_iadd C dX6_add_37 ?_
      refine z_put C hK hW hin6 tyX6 tyX6_ok nmX6 0 rfl rfl 1 (by decide) (C.2.2.2.2 (.fieldLink RX6 21 "TellingRows$Sequence" "size" "I") (List.mem_of_getElem? (i := 1) rfl)) (fun _ h9 => h9) rfl rfl rfl (Nat.le_of_ble_eq_true rfl) dX6_add_38 (fun H locs hW => ?_)
      have hW : Wd G A s9.heap [(h, .inr (5, [.ref a, .int (iI (n + 1))])), (a, .inl (G.2.1 0, N, .inl (iA (up f n x))))] H locs := hW
      refine lv_iconst (v := iI 1) C.1 C.2.1 dX6_add_41 rfl ?_
      rw [hQ]
      have hP9 : ∃ z : Int, (some (Value.int (iI 1))) = some (.int (iI z)) ∧ ((n < (N : Int) → z = 1 ∧ (n + 1) = n + 1 ∧ (up f n x) = up f n x)) ∧ ((¬ n < (N : Int) → z = 0 ∧ (n + 1) = n ∧ (up f n x) = f)) ∧ (BD (up f n x)) := ⟨_, rfl, (fun _ => ⟨rfl, rfl, rfl⟩), (fun h9 => by omega), hbd_30⟩
      exact z_zret C hr rfl hlocks hW (n + 1, (up f n x)) rfl hP9 dX6_add_42
    ·
      refine lv_iconst (v := iI 0) C.1 C.2.1 dX6_add_19 rfl ?_
      rw [hQ]
      have hP9 : ∃ z : Int, (some (Value.int (iI 0))) = some (.int (iI z)) ∧ ((n < (N : Int) → z = 1 ∧ n = n + 1 ∧ f = up f n x)) ∧ ((¬ n < (N : Int) → z = 0 ∧ n = n ∧ f = f)) ∧ (BD f) := ⟨_, rfl, (fun h9 => by omega), (fun _ => ⟨rfl, rfl, rfl⟩), hf⟩
      exact z_zret C hr rfl hlocks hW (n, f) rfl hP9 dX6_add_20
set_option maxHeartbeats 4000000 in
set_option maxRecDepth 100000 in
/-- Sequence.clear -/
theorem c_X6_clear (l : Launch) (G : GG) (h : Nat) (a : Nat) (N : Nat) (n : Int) (f : Int → Int) : MQc l yX6_clear wsX6_clear 0 G [.ref h] [(h, .inr (5, [.ref a, .int (iI n)])), (a, .inl (G.2.1 0, N, .inl (iA f)))] (fun r (u : Unit) => ∃ z : Int, r = some (.int (iI z)) ∧ (z = n)) (fun u => [(h, .inr (5, [.ref a, .int (iI 0)])), (a, .inl (G.2.1 0, N, .inl (iA f)))]) := by
  refine MQc.start (own := RX6) (by decide) rfl rfl (Nat.le_of_ble_eq_true rfl) ?_
  intro p9 e9 s9 m9 args below meth c9 A Q C hK hW hA hr hlocks hQ ls hl
  have hl : lv_has ls 2 [(0, .ref h)] := hl
  have hin6 : ∀ w ∈ wsX60, w ∈ wsX6_clear := by decide +kernel
  refine lv_aload_n C.1 C.2.1 dX6_clear_0 rfl (lv_at hl 0 rfl) ?_
  refine z_get C hK hW hin6 (v := .int (iI n)) 0 rfl rfl 1 (by decide) (C.2.2.2.2 (.fieldLink RX6 21 "TellingRows$Sequence" "size" "I") (List.mem_of_getElem? (i := 1) rfl)) (fun _ h9 => h9) rfl dX6_clear_1 ?_
  refine lv_istore_n (lv' := [(1, .int (iI n)), (0, .ref h)]) C.1 C.2.1 dX6_clear_4 rfl hl (by decide) rfl (fun ls hl => ?_)
  refine lv_aload_n C.1 C.2.1 dX6_clear_5 rfl (lv_at hl 1 rfl) ?_
  refine lv_iconst (v := iI 0) C.1 C.2.1 dX6_clear_6 rfl ?_
  refine z_put C hK hW hin6 tyX6 tyX6_ok nmX6 0 rfl rfl 1 (by decide) (C.2.2.2.2 (.fieldLink RX6 21 "TellingRows$Sequence" "size" "I") (List.mem_of_getElem? (i := 1) rfl)) (fun _ h9 => h9) rfl rfl rfl (Nat.le_of_ble_eq_true rfl) dX6_clear_7 (fun H locs hW => ?_)
  have hW : Wd G A s9.heap [(h, .inr (5, [.ref a, .int (iI 0)])), (a, .inl (G.2.1 0, N, .inl (iA f)))] H locs := hW
  refine lv_iload_n C.1 C.2.1 dX6_clear_10 rfl (lv_at hl 0 rfl) ?_
  rw [hQ]
  have hP9 : ∃ z : Int, (some (Value.int (iI n))) = some (.int (iI z)) ∧ (z = n) := ⟨_, rfl, (by first | omega | assumption | (intros; first | rfl | omega | assumption | (and_intros <;> first | rfl | omega | assumption)))⟩
  exact z_iret C hr hlocks hW () rfl hP9 dX6_clear_11
set_option maxHeartbeats 4000000 in
set_option maxRecDepth 100000 in
/-- Sequence.copy -/
theorem c_X6_copy (l : Launch) (G : GG) (h : Nat) (a : Nat) (N : Nat) (n : Int) (f : Int → Int) (h2 : Nat) (a2 : Nat) (N2 : Nat) (m : Int) (g : Int → Int) (hN : N ≤ 2147483647) (hN2 : N2 ≤ 2147483647) (hm : 0 ≤ m ∧ m ≤ (N2 : Int) ∧ m ≤ (N : Int)) (hf : BD f) (hg : BD g) : MQc l yX6_copy wsX6_copy 1 G [.ref h, .ref h2] [(h, .inr (5, [.ref a, .int (iI n)])), (a, .inl (G.2.1 0, N, .inl (iA f))), (h2, .inr (5, [.ref a2, .int (iI m)])), (a2, .inl (G.2.1 0, N2, .inl (iA g)))] (fun r (u : (Int → Int)) => r = none ∧ (BD u) ∧ ((∀ j, 0 ≤ j → j < m → u j = g j))) (fun u => [(h, .inr (5, [.ref a, .int (iI m)])), (a, .inl (G.2.1 0, N, .inl (iA u))), (h2, .inr (5, [.ref a2, .int (iI m)])), (a2, .inl (G.2.1 0, N2, .inl (iA g)))]) := by
  refine MQc.start (own := RX6) (by decide) rfl rfl (Nat.le_of_ble_eq_true rfl) ?_
  intro p9 e9 s9 m9 args below meth c9 A Q C hK hW hA hr hlocks hQ ls hl
  have hl : lv_has ls 3 [(0, .ref h), (1, .ref h2)] := hl
  have hin6 : ∀ w ∈ wsX60, w ∈ wsX6_copy := by decide +kernel
  refine lv_aload_n C.1 C.2.1 dX6_copy_0 rfl (lv_at hl 0 rfl) ?_
  refine lv_iconst (v := iI 0) C.1 C.2.1 dX6_copy_1 rfl ?_
  refine z_put C hK hW hin6 tyX6 tyX6_ok nmX6 0 rfl rfl 1 (by decide) (C.2.2.2.2 (.fieldLink RX6 21 "TellingRows$Sequence" "size" "I") (List.mem_of_getElem? (i := 1) rfl)) (fun _ h9 => h9) rfl rfl rfl (Nat.le_of_ble_eq_true rfl) dX6_copy_2 (fun H locs hW => ?_)
  have hW : Wd G A s9.heap [(h, .inr (5, [.ref a, .int (iI 0)])), (a, .inl (G.2.1 0, N, .inl (iA f))), (h2, .inr (5, [.ref a2, .int (iI m)])), (a2, .inl (G.2.1 0, N2, .inl (iA g)))] H locs := hW
  refine lv_iconst (v := iI 0) C.1 C.2.1 dX6_copy_5 rfl ?_
  refine lv_istore_n (lv' := [(2, .int (iI 0)), (0, .ref h), (1, .ref h2)]) C.1 C.2.1 dX6_copy_6 rfl hl (by decide) rfl (fun ls hl => ?_)
  have cut_7 : ∀ (n9 : Nat) (i : Int) (k : Int) (f1 : Int → Int), (k = i) → (0 ≤ i ∧ i ≤ m) → (BD f1) → (∀ j, 0 ≤ j → j < i → f1 j = g j) → (m - i < (n9 : Int)) → ∀ (H : Heap) (locs : List Loc) (ls : Array Slot), Wd G A s9.heap [(h, .inr (5, [.ref a, .int (iI k)])), (a, .inl (G.2.1 0, N, .inl (iA f1))), (h2, .inr (5, [.ref a2, .int (iI m)])), (a2, .inl (G.2.1 0, N2, .inl (iA g)))] H locs → lv_has ls 3 [(2, .int (iI i)), (0, .ref h), (1, .ref h2)] → W p9 l e9 (rmL 1) s9 m9 args below meth c9 H locs 0 0 Q (F0 m9 7 ls []) := by
    intro n9
    induction n9 with
    | zero => intro i k f1 hk hi hf1 he hmu; intros; exfalso; omega
    | succ n9 ih_7 =>
      intro i k f1 hk hi hf1 he hmu H locs ls hW hl
      refine lv_iload_n C.1 C.2.1 dX6_copy_7 rfl (lv_at hl 0 rfl) ?_
      refine lv_aload_n C.1 C.2.1 dX6_copy_8 rfl (lv_at hl 2 rfl) ?_
      refine z_get C hK hW hin6 (v := .int (iI m)) 2 rfl rfl 1 (by decide) (C.2.2.2.2 (.fieldLink RX6 21 "TellingRows$Sequence" "size" "I") (List.mem_of_getElem? (i := 1) rfl)) (fun _ h9 => h9) rfl dX6_copy_9 ?_
      refine z_icmp_ge (tgt := 31) C dX6_copy_12 (by decide) (by omega) (fun c_12 => ?_) (fun c_12 => ?_)
      ·
        have hkm : m = k := by omega
        subst hkm
        rw [hQ]
        have hP9 : (none : Option Value) = none ∧ (BD f1) ∧ ((∀ j, 0 ≤ j → j < m → f1 j = g j)) := ⟨rfl, hf1, (fun j h0 h1 => he j h0 (by omega))⟩
        exact z_vret C hr hlocks hW f1 rfl hP9 dX6_copy_31
      ·
        refine lv_aload_n C.1 C.2.1 dX6_copy_15 rfl (lv_at hl 1 rfl) ?_
        refine lv_aload_n C.1 C.2.1 dX6_copy_16 rfl (lv_at hl 2 rfl) ?_
        refine lv_iload_n C.1 C.2.1 dX6_copy_17 rfl (lv_at hl 0 rfl) ?_
        refine z_callR (va_runV (As := [.int (iI i)]) (rest := [.ref h]) C (c_X6_get l G h2 a2 N2 m g i hN2 (by first | omega | assumption | (intros; first | rfl | omega | assumption | (and_intros <;> first | rfl | omega | assumption))) hg (by first | omega | assumption | (intros; first | rfl | omega | assumption | (and_intros <;> first | rfl | omega | assumption))) H.size) (cwV 1 C.2.2.2.2 gX6_copy_X6_get rfl rfl rfl (by decide +kernel) ⟨Nat.le_of_ble_eq_true rfl, Nat.le_of_ble_eq_true rfl⟩) (z_preV hK hW hA [2, 3] rfl (by decide) (ci := 5) (q0 := 2) rfl rfl) rfl rfl hl.1 rfl (lv_room (Nat.le_of_ble_eq_true rfl)) dX6_copy_18 ⟨Nat.zero_le _, Nat.zero_le _⟩) (fun r hp => ?_)
        have hp : ∃ z : Int, r = some (.int (iI z)) ∧ ((0 ≤ i ∧ i < m → z = g i)) ∧ ((¬ (0 ≤ i ∧ i < m) → z = -4)) ∧ (-2147483648 ≤ z ∧ z ≤ 2147483647) := hp
        obtain ⟨z_18, rfl, hz_18_0, hz_18_1, hz_18_2⟩ := hp
        refine z_call (va_runV (As := [.int (iI z_18)]) (rest := []) C (c_X6_add l G h a N k f1 z_18 hN (by first | omega | assumption | (intros; first | rfl | omega | assumption | (and_intros <;> first | rfl | omega | assumption))) hf1 hz_18_2 H.size) (cwV 1 C.2.2.2.2 gX6_copy_X6_add rfl rfl rfl (by decide +kernel) ⟨Nat.le_of_ble_eq_true rfl, Nat.le_of_ble_eq_true rfl⟩) (z_preV hK hW hA [0, 1] rfl (by decide) (ci := 5) (q0 := 0) rfl rfl) rfl rfl hl.1 rfl (lv_room (Nat.le_of_ble_eq_true rfl)) dX6_copy_21 ⟨Nat.zero_le _, Nat.zero_le _⟩) hW hA [0, 1] rfl (by decide) (fun _ => rfl) (fun r u H locs hp hW => ?_)
        obtain ⟨n2_21, f2_21⟩ := u
        have hp : ∃ z : Int, r = some (.int (iI z)) ∧ ((k < (N : Int) → z = 1 ∧ n2_21 = k + 1 ∧ f2_21 = up f1 k z_18)) ∧ ((¬ k < (N : Int) → z = 0 ∧ n2_21 = k ∧ f2_21 = f1)) ∧ (BD f2_21) := hp
        obtain ⟨z_21, rfl, hz_21_0, hz_21_1, hz_21_2⟩ := hp
        have hW : Wd G A s9.heap [(h, .inr (5, [.ref a, .int (iI n2_21)])), (a, .inl (G.2.1 0, N, .inl (iA f2_21))), (h2, .inr (5, [.ref a2, .int (iI m)])), (a2, .inl (G.2.1 0, N2, .inl (iA g)))] H locs := hW
        have h21 := hz_21_0 (by omega)
        refine lv_pop C.1 C.2.1 dX6_copy_24 rfl ?_
        refine lv_iinc (v := iI (i + 1)) (lv' := [(2, .int (iI (i + 1))), (0, .ref h), (1, .ref h2)]) C.1 C.2.1 dX6_copy_25 hl (k := 0) rfl (iI_add _ _) (by decide) rfl (fun ls hl => ?_)
        refine lv_goto (tgt := 7) C.1 C.2.1 dX6_copy_28 (by decide) ?_
        exact ih_7 (i + 1) n2_21 f2_21 (by first | omega | assumption | (intros; first | rfl | omega | assumption | (and_intros <;> first | rfl | omega | assumption))) (by first | omega | assumption | (intros; first | rfl | omega | assumption | (and_intros <;> first | rfl | omega | assumption))) hz_21_2 (by obtain ⟨_, e1, e2⟩ := h21; rw [e2, hk]; exact up_pre he (hz_18_0 (by omega))) (by omega) _ _ _ hW (lv_sub hl [0, 1, 2] rfl)
  exact cut_7 (((m - 0) + 1 : Int)).toNat 0 0 f (by first | omega | assumption | (intros; first | rfl | omega | assumption | (and_intros <;> first | rfl | omega | assumption))) (by first | omega | assumption | (intros; first | rfl | omega | assumption | (and_intros <;> first | rfl | omega | assumption))) hf (fun j h0 h1 => by omega) (by omega) _ _ _ hW (lv_sub hl [0, 1, 2] rfl)
set_option maxHeartbeats 4000000 in
set_option maxRecDepth 100000 in
/-- Sequence.same -/
theorem c_X6_same (l : Launch) (G : GG) (h : Nat) (a : Nat) (N : Nat) (n : Int) (f : Int → Int) (h2 : Nat) (a2 : Nat) (N2 : Nat) (m : Int) (g : Int → Int) (hN : N ≤ 2147483647) (hn : 0 ≤ n ∧ n ≤ (N : Int)) (hf : BD f) (hN2 : N2 ≤ 2147483647) (hm : 0 ≤ m ∧ m ≤ (N2 : Int)) (hg : BD g) : MRc l yX6_same wsX6_same 1 G [.ref h, .ref h2] [(h, .inr (5, [.ref a, .int (iI n)])), (a, .inl (G.2.1 0, N, .inl (iA f))), (h2, .inr (5, [.ref a2, .int (iI m)])), (a2, .inl (G.2.1 0, N2, .inl (iA g)))] (fun r => ∃ z : Int, r = some (.int (iI z)) ∧ ((z = 1 ∧ n = m ∧ (∀ j, 0 ≤ j → j < n → f j = g j)) ∨ (z = 0 ∧ ¬ (n = m ∧ (∀ j, 0 ≤ j → j < n → f j = g j))))) := by
  refine MRc.start (own := RX6) (by decide) rfl rfl (Nat.le_of_ble_eq_true rfl) ?_
  intro p9 e9 s9 m9 args below meth c9 A Q C hK hW hA hr hlocks hQ ls hl
  have hl : lv_has ls 3 [(0, .ref h), (1, .ref h2)] := hl
  have hin6 : ∀ w ∈ wsX60, w ∈ wsX6_same := by decide +kernel
  refine lv_aload_n C.1 C.2.1 dX6_same_0 rfl (lv_at hl 0 rfl) ?_
  refine z_get C hK hW hin6 (v := .int (iI n)) 0 rfl rfl 1 (by decide) (C.2.2.2.2 (.fieldLink RX6 21 "TellingRows$Sequence" "size" "I") (List.mem_of_getElem? (i := 1) rfl)) (fun _ h9 => h9) rfl dX6_same_1 ?_
  refine lv_aload_n C.1 C.2.1 dX6_same_4 rfl (lv_at hl 1 rfl) ?_
  refine z_get C hK hW hin6 (v := .int (iI m)) 2 rfl rfl 1 (by decide) (C.2.2.2.2 (.fieldLink RX6 21 "TellingRows$Sequence" "size" "I") (List.mem_of_getElem? (i := 1) rfl)) (fun _ h9 => h9) rfl dX6_same_5 ?_
  refine z_icmp_eq (tgt := 13) C dX6_same_8 (by decide) (by omega) (fun c_8 => ?_) (fun c_8 => ?_)
  ·
    refine lv_iconst (v := iI 0) C.1 C.2.1 dX6_same_13 rfl ?_
    refine lv_istore_n (lv' := [(2, .int (iI 0)), (0, .ref h), (1, .ref h2)]) C.1 C.2.1 dX6_same_14 rfl hl (by decide) rfl (fun ls hl => ?_)
    have cut_15 : ∀ (n9 : Nat) (i : Int), (0 ≤ i ∧ i ≤ n) → (∀ j, 0 ≤ j → j < i → f j = g j) → (n - i < (n9 : Int)) → ∀ (ls : Array Slot), lv_has ls 3 [(2, .int (iI i)), (0, .ref h), (1, .ref h2)] → W p9 l e9 (rmL 1) s9 m9 args below meth c9 s9.heap [] 0 0 Q (F0 m9 15 ls []) := by
      intro n9
      induction n9 with
      | zero => intro i hi he hmu; intros; exfalso; omega
      | succ n9 ih_15 =>
        intro i hi he hmu ls hl
        refine lv_iload_n C.1 C.2.1 dX6_same_15 rfl (lv_at hl 0 rfl) ?_
        refine lv_aload_n C.1 C.2.1 dX6_same_16 rfl (lv_at hl 1 rfl) ?_
        refine z_get C hK hW hin6 (v := .int (iI n)) 0 rfl rfl 1 (by decide) (C.2.2.2.2 (.fieldLink RX6 21 "TellingRows$Sequence" "size" "I") (List.mem_of_getElem? (i := 1) rfl)) (fun _ h9 => h9) rfl dX6_same_17 ?_
        refine z_icmp_ge (tgt := 44) C dX6_same_20 (by decide) (by omega) (fun c_20 => ?_) (fun c_20 => ?_)
        ·
          refine lv_iconst (v := iI 1) C.1 C.2.1 dX6_same_44 rfl ?_
          rw [hQ]
          have hP9 : ∃ z : Int, (some (Value.int (iI 1))) = some (.int (iI z)) ∧ ((z = 1 ∧ n = m ∧ (∀ j, 0 ≤ j → j < n → f j = g j)) ∨ (z = 0 ∧ ¬ (n = m ∧ (∀ j, 0 ≤ j → j < n → f j = g j)))) := ⟨_, rfl, (Or.inl ⟨rfl, by omega, fun j h0 h1 => he j h0 (by omega)⟩)⟩
          exact z_zretR C hr rfl hlocks hP9 dX6_same_45
        ·
          refine lv_aload_n C.1 C.2.1 dX6_same_23 rfl (lv_at hl 1 rfl) ?_
          refine lv_iload_n C.1 C.2.1 dX6_same_24 rfl (lv_at hl 0 rfl) ?_
          refine z_callR (va_runV (As := [.int (iI i)]) (rest := []) C (c_X6_get l G h a N n f i hN hn hf (by first | omega | assumption | (intros; first | rfl | omega | assumption | (and_intros <;> first | rfl | omega | assumption))) s9.heap.size) (cwV 1 C.2.2.2.2 gX6_same_X6_get rfl rfl rfl (by decide +kernel) ⟨Nat.le_of_ble_eq_true rfl, Nat.le_of_ble_eq_true rfl⟩) (z_preV hK hW hA [0, 1] rfl (by decide) (ci := 5) (q0 := 0) rfl rfl) rfl rfl hl.1 rfl (lv_room (Nat.le_of_ble_eq_true rfl)) dX6_same_25 ⟨Nat.zero_le _, Nat.zero_le _⟩) (fun r hp => ?_)
          have hp : ∃ z : Int, r = some (.int (iI z)) ∧ ((0 ≤ i ∧ i < n → z = f i)) ∧ ((¬ (0 ≤ i ∧ i < n) → z = -4)) ∧ (-2147483648 ≤ z ∧ z ≤ 2147483647) := hp
          obtain ⟨z_25, rfl, hz_25_0, hz_25_1, hz_25_2⟩ := hp
          refine lv_aload_n C.1 C.2.1 dX6_same_28 rfl (lv_at hl 2 rfl) ?_
          refine lv_iload_n C.1 C.2.1 dX6_same_29 rfl (lv_at hl 0 rfl) ?_
          refine z_callR (va_runV (As := [.int (iI i)]) (rest := [.int (iI z_25)]) C (c_X6_get l G h2 a2 N2 m g i hN2 hm hg (by first | omega | assumption | (intros; first | rfl | omega | assumption | (and_intros <;> first | rfl | omega | assumption))) s9.heap.size) (cwV 1 C.2.2.2.2 gX6_same_X6_get rfl rfl rfl (by decide +kernel) ⟨Nat.le_of_ble_eq_true rfl, Nat.le_of_ble_eq_true rfl⟩) (z_preV hK hW hA [2, 3] rfl (by decide) (ci := 5) (q0 := 2) rfl rfl) rfl rfl hl.1 rfl (lv_room (Nat.le_of_ble_eq_true rfl)) dX6_same_30 ⟨Nat.zero_le _, Nat.zero_le _⟩) (fun r hp => ?_)
          have hp : ∃ z : Int, r = some (.int (iI z)) ∧ ((0 ≤ i ∧ i < m → z = g i)) ∧ ((¬ (0 ≤ i ∧ i < m) → z = -4)) ∧ (-2147483648 ≤ z ∧ z ≤ 2147483647) := hp
          obtain ⟨z_30, rfl, hz_30_0, hz_30_1, hz_30_2⟩ := hp
          refine z_icmp_eq (tgt := 38) C dX6_same_33 (by decide) (by omega) (fun c_33 => ?_) (fun c_33 => ?_)
          ·
            refine lv_iinc (v := iI (i + 1)) (lv' := [(2, .int (iI (i + 1))), (0, .ref h), (1, .ref h2)]) C.1 C.2.1 dX6_same_38 hl (k := 0) rfl (iI_add _ _) (by decide) rfl (fun ls hl => ?_)
            refine lv_goto (tgt := 15) C.1 C.2.1 dX6_same_41 (by decide) ?_
            exact ih_15 (i + 1) (by first | omega | assumption | (intros; first | rfl | omega | assumption | (and_intros <;> first | rfl | omega | assumption))) (fun j h0 h1 => (Int.lt_or_le j i).elim (fun q => he j h0 q) (fun q => by have := hz_25_0 (by omega); have := hz_30_0 (by omega); rw [show j = i by omega]; omega)) (by omega) _ (lv_sub hl [0, 1, 2] rfl)
          ·
            refine lv_iconst (v := iI 0) C.1 C.2.1 dX6_same_36 rfl ?_
            rw [hQ]
            have hP9 : ∃ z : Int, (some (Value.int (iI 0))) = some (.int (iI z)) ∧ ((z = 1 ∧ n = m ∧ (∀ j, 0 ≤ j → j < n → f j = g j)) ∨ (z = 0 ∧ ¬ (n = m ∧ (∀ j, 0 ≤ j → j < n → f j = g j)))) := ⟨_, rfl, (Or.inr ⟨rfl, fun h9 => c_33 (by have := h9.2 i (by omega) (by omega); have := hz_25_0 (by omega); have := hz_30_0 (by omega); omega)⟩)⟩
            exact z_zretR C hr rfl hlocks hP9 dX6_same_37
    exact cut_15 (((n - 0) + 1 : Int)).toNat 0 (by first | omega | assumption | (intros; first | rfl | omega | assumption | (and_intros <;> first | rfl | omega | assumption))) (fun j h0 h1 => by omega) (by omega) _ (lv_sub hl [0, 1, 2] rfl)
  ·
    refine lv_iconst (v := iI 0) C.1 C.2.1 dX6_same_11 rfl ?_
    rw [hQ]
    have hP9 : ∃ z : Int, (some (Value.int (iI 0))) = some (.int (iI z)) ∧ ((z = 1 ∧ n = m ∧ (∀ j, 0 ≤ j → j < n → f j = g j)) ∨ (z = 0 ∧ ¬ (n = m ∧ (∀ j, 0 ≤ j → j < n → f j = g j)))) := ⟨_, rfl, (Or.inr ⟨rfl, fun h9 => by omega⟩)⟩
    exact z_zretR C hr rfl hlocks hP9 dX6_same_12
set_option maxHeartbeats 4000000 in
set_option maxRecDepth 100000 in
/-- Arrays.fill -/
theorem c_J7_fill_53178 (l : Launch) (G : GG) (a : Nat) (N : Nat) (f : Int → Int) (x : Int) (hN : N ≤ 2147483647) (hf : BD f) (hx : -2147483648 ≤ x ∧ x ≤ 2147483647) : MQc l yJ7_fill_53178 wsJ7_fill_53178 0 G [.ref a, .int (iI x)] [(a, .inl (G.2.1 0, N, .inl (iA f)))] (fun r (u : (Int → Int)) => r = none ∧ ((∀ j, 0 ≤ j → j < (N : Int) → u j = x)) ∧ (BD u)) (fun u => [(a, .inl (G.2.1 0, N, .inl (iA u)))]) := by
  refine MQc.start (own := RJ7) (by decide) rfl rfl (Nat.le_of_ble_eq_true rfl) ?_
  intro p9 e9 s9 m9 args below meth c9 A Q C hK hW hA hr hlocks hQ ls hl
  have hl : lv_has ls 4 [(0, .ref a), (1, .int (iI x))] := hl
  refine lv_iconst (v := iI 0) C.1 C.2.1 dJ7_fill_53178_0 rfl ?_
  refine lv_istore_n (lv' := [(2, .int (iI 0)), (0, .ref a), (1, .int (iI x))]) C.1 C.2.1 dJ7_fill_53178_1 rfl hl (by decide) rfl (fun ls hl => ?_)
  refine lv_aload_n C.1 C.2.1 dJ7_fill_53178_2 rfl (lv_at hl 1 rfl) ?_
  refine z_alen C hK hW 0 0 rfl rfl dJ7_fill_53178_3 ?_
  refine lv_istore_n (lv' := [(3, .int (iI ((N : Nat) : Int))), (2, .int (iI 0)), (0, .ref a), (1, .int (iI x))]) C.1 C.2.1 dJ7_fill_53178_4 rfl hl (by decide) rfl (fun ls hl => ?_)
  have cut_5 : ∀ (n9 : Nat) (i : Int) (f1 : Int → Int), (0 ≤ i ∧ i ≤ (N : Int)) → (BD f1) → (∀ j, 0 ≤ j → j < i → f1 j = x) → ((N : Int) - i < (n9 : Int)) → ∀ (H : Heap) (locs : List Loc) (ls : Array Slot), Wd G A s9.heap [(a, .inl (G.2.1 0, N, .inl (iA f1)))] H locs → lv_has ls 4 [(3, .int (iI ((N : Nat) : Int))), (2, .int (iI i)), (0, .ref a), (1, .int (iI x))] → W p9 l e9 (rmL 0) s9 m9 args below meth c9 H locs 0 0 Q (F0 m9 5 ls []) := by
    intro n9
    induction n9 with
    | zero => intro i f1 hi hf1 he hmu; intros; exfalso; omega
    | succ n9 ih_5 =>
      intro i f1 hi hf1 he hmu H locs ls hW hl
      refine lv_iload_n C.1 C.2.1 dJ7_fill_53178_5 rfl (lv_at hl 1 rfl) ?_
      refine lv_iload_n C.1 C.2.1 dJ7_fill_53178_6 rfl (lv_at hl 0 rfl) ?_
      refine z_icmp_ge (tgt := 20) C dJ7_fill_53178_7 (by decide) (by omega) (fun c_7 => ?_) (fun c_7 => ?_)
      ·
        rw [hQ]
        have hP9 : (none : Option Value) = none ∧ ((∀ j, 0 ≤ j → j < (N : Int) → f1 j = x)) ∧ (BD f1) := ⟨rfl, (fun j h0 h1 => he j h0 (by omega)), hf1⟩
        exact z_vret C hr hlocks hW f1 rfl hP9 dJ7_fill_53178_20
      ·
        refine lv_aload_n C.1 C.2.1 dJ7_fill_53178_10 rfl (lv_at hl 2 rfl) ?_
        refine lv_iload_n C.1 C.2.1 dJ7_fill_53178_11 rfl (lv_at hl 1 rfl) ?_
        refine lv_iload_n C.1 C.2.1 dJ7_fill_53178_12 rfl (lv_at hl 3 rfl) ?_
        refine z_iast C hK hW 0 rfl (by omega) (by omega) dJ7_fill_53178_13 (fun H locs hW => ?_)
        have hbd_13 : BD (up f1 i x) := BD.up hf1 (by omega)
        have hW : Wd G A s9.heap [(a, .inl (G.2.1 0, N, .inl (iA (up f1 i x))))] H locs := hW
        refine lv_iinc (v := iI (i + 1)) (lv' := [(2, .int (iI (i + 1))), (3, .int (iI ((N : Nat) : Int))), (0, .ref a), (1, .int (iI x))]) C.1 C.2.1 dJ7_fill_53178_14 hl (k := 1) rfl (iI_add _ _) (by decide) rfl (fun ls hl => ?_)
        refine lv_goto (tgt := 5) C.1 C.2.1 dJ7_fill_53178_17 (by decide) ?_
        exact ih_5 (i + 1) (up f1 i x) (by first | omega | assumption | (intros; first | rfl | omega | assumption | (and_intros <;> first | rfl | omega | assumption))) hbd_13 (up_pre (g := fun _ => x) he rfl) (by omega) _ _ _ hW (lv_sub hl [1, 0, 2, 3] rfl)
  exact cut_5 ((((N : Int) - 0) + 1 : Int)).toNat 0 f (by first | omega | assumption | (intros; first | rfl | omega | assumption | (and_intros <;> first | rfl | omega | assumption))) hf (fun j h0 h1 => by omega) (by omega) _ _ _ hW (lv_sub hl [0, 1, 2, 3] rfl)
set_option maxHeartbeats 4000000 in
set_option maxRecDepth 100000 in
/-- Marks.clear -/
theorem c_X3_clear (l : Launch) (G : GG) (h : Nat) (a : Nat) (g : Int → Int) (hg : BD g) : MQc l yX3_clear wsX3_clear 1 G [.ref h] [(h, .inr (2, [.ref a])), (a, .inl (G.2.1 0, 60001, .inl (iA g)))] (fun r (u : (Int → Int)) => r = none ∧ ((∀ j, 0 ≤ j → j ≤ 60000 → u j = 0)) ∧ (BD u)) (fun u => [(h, .inr (2, [.ref a])), (a, .inl (G.2.1 0, 60001, .inl (iA u)))]) := by
  refine MQc.start (own := RX3) (by decide) rfl rfl (Nat.le_of_ble_eq_true rfl) ?_
  intro p9 e9 s9 m9 args below meth c9 A Q C hK hW hA hr hlocks hQ ls hl
  have hl : lv_has ls 1 [(0, .ref h)] := hl
  have hin3 : ∀ w ∈ wsX30, w ∈ wsX3_clear := by decide +kernel
  refine lv_aload_n C.1 C.2.1 dX3_clear_0 rfl (lv_at hl 0 rfl) ?_
  refine z_get C hK hW hin3 (v := .ref a) 0 rfl rfl 0 (by decide) (C.2.2.2.2 (.fieldLink RX3 10 "TellingRows$Marks" "marks" "[I") (List.mem_of_getElem? (i := 1) rfl)) (fun _ h9 => h9) rfl dX3_clear_1 ?_
  refine lv_iconst (v := iI 0) C.1 C.2.1 dX3_clear_4 rfl ?_
  refine z_call (va_runS (As := [.ref a, .int (iI 0)]) (rest := []) C (c_J7_fill_53178 l G a 60001 g 0 (by first | omega | assumption | (intros; first | rfl | omega | assumption | (and_intros <;> first | rfl | omega | assumption))) hg (by first | omega | assumption | (intros; first | rfl | omega | assumption | (and_intros <;> first | rfl | omega | assumption))) s9.heap.size) (va_cwS 2 C.2.2.2.2 gX3_clear_J7_fill_53178 rfl rfl rfl (by decide +kernel) ⟨Nat.le_of_ble_eq_true rfl, Nat.le_of_ble_eq_true rfl⟩) (z_preS hK hW hA [1] rfl (by decide)) rfl rfl hl.1 rfl (lv_room (Nat.le_of_ble_eq_true rfl)) dX3_clear_5 ⟨Nat.zero_le _, Nat.zero_le _⟩) hW hA [1] rfl (by decide) (fun _ => rfl) (fun r u H locs hp hW => ?_)
  obtain ⟨f2_5, rfl⟩ : ∃ q9, q9 = u := ⟨_, rfl⟩
  have hp : r = none ∧ ((∀ j, 0 ≤ j → j < (60001 : Int) → f2_5 j = 0)) ∧ (BD f2_5) := hp
  obtain ⟨rfl, hz_5_0, hz_5_1⟩ := hp
  have hW : Wd G A s9.heap [(h, .inr (2, [.ref a])), (a, .inl (G.2.1 0, 60001, .inl (iA f2_5)))] H locs := hW
  rw [hQ]
  have hP9 : (none : Option Value) = none ∧ ((∀ j, 0 ≤ j → j ≤ 60000 → f2_5 j = 0)) ∧ (BD f2_5) := ⟨rfl, (fun j h0 h1 => hz_5_0 j h0 (by omega)), hz_5_1⟩
  exact z_vret C hr hlocks hW f2_5 rfl hP9 dX3_clear_8
set_option maxHeartbeats 4000000 in
set_option maxRecDepth 100000 in
/-- Marks.of -/
theorem c_X3_of (l : Launch) (G : GG) (h : Nat) (a : Nat) (g : Int → Int) (v : Int) (hg : BD g) (hv : -2147483648 ≤ v ∧ v ≤ 2147483647) : MRc l yX3_of wsX3_of 0 G [.ref h, .int (iI v)] [(h, .inr (2, [.ref a])), (a, .inl (G.2.1 0, 60001, .inl (iA g)))] (fun r => ∃ z : Int, r = some (.int (iI z)) ∧ ((0 ≤ v ∧ v ≤ 60000 → z = g v)) ∧ ((¬ (0 ≤ v ∧ v ≤ 60000) → z = 0)) ∧ (-2147483648 ≤ z ∧ z ≤ 2147483647)) := by
  refine MRc.start (own := RX3) (by decide) rfl rfl (Nat.le_of_ble_eq_true rfl) ?_
  intro p9 e9 s9 m9 args below meth c9 A Q C hK hW hA hr hlocks hQ ls hl
  have hl : lv_has ls 2 [(0, .ref h), (1, .int (iI v))] := hl
  have hin3 : ∀ w ∈ wsX30, w ∈ wsX3_of := by decide +kernel
  refine lv_iload_n C.1 C.2.1 dX3_of_0 rfl (lv_at hl 1 rfl) ?_
  refine z_if_lt (tgt := 22) C dX3_of_1 (by decide) (by omega) (fun c_1 => ?_) (fun c_1 => ?_)
  ·
    refine lv_iconst (v := iI 0) C.1 C.2.1 dX3_of_22 rfl ?_
    rw [hQ]
    have hP9 : ∃ z : Int, (some (Value.int (iI 0))) = some (.int (iI z)) ∧ ((0 ≤ v ∧ v ≤ 60000 → z = g v)) ∧ ((¬ (0 ≤ v ∧ v ≤ 60000) → z = 0)) ∧ (-2147483648 ≤ z ∧ z ≤ 2147483647) := ⟨_, rfl, (by first | omega | assumption | (intros; first | rfl | omega | assumption | (and_intros <;> first | rfl | omega | assumption))), (by first | omega | assumption | (intros; first | rfl | omega | assumption | (and_intros <;> first | rfl | omega | assumption))), (by first | omega | assumption | (intros; first | rfl | omega | assumption | (and_intros <;> first | rfl | omega | assumption)))⟩
    exact z_iretR C hr hlocks hP9 dX3_of_23
  ·
    refine lv_iload_n C.1 C.2.1 dX3_of_4 rfl (lv_at hl 1 rfl) ?_
    refine lv_aload_n C.1 C.2.1 dX3_of_5 rfl (lv_at hl 0 rfl) ?_
    refine z_get C hK hW hin3 (v := .ref a) 0 rfl rfl 0 (by decide) (C.2.2.2.2 (.fieldLink RX3 10 "TellingRows$Marks" "marks" "[I") (List.mem_of_getElem? (i := 1) rfl)) (fun _ h9 => h9) rfl dX3_of_6 ?_
    refine z_alen C hK hW 1 0 rfl rfl dX3_of_9 ?_
    refine z_icmp_ge (tgt := 22) C dX3_of_10 (by decide) (by omega) (fun c_10 => ?_) (fun c_10 => ?_)
    ·
      refine lv_iconst (v := iI 0) C.1 C.2.1 dX3_of_22 rfl ?_
      rw [hQ]
      have hP9 : ∃ z : Int, (some (Value.int (iI 0))) = some (.int (iI z)) ∧ ((0 ≤ v ∧ v ≤ 60000 → z = g v)) ∧ ((¬ (0 ≤ v ∧ v ≤ 60000) → z = 0)) ∧ (-2147483648 ≤ z ∧ z ≤ 2147483647) := ⟨_, rfl, (by first | omega | assumption | (intros; first | rfl | omega | assumption | (and_intros <;> first | rfl | omega | assumption))), (by first | omega | assumption | (intros; first | rfl | omega | assumption | (and_intros <;> first | rfl | omega | assumption))), (by first | omega | assumption | (intros; first | rfl | omega | assumption | (and_intros <;> first | rfl | omega | assumption)))⟩
      exact z_iretR C hr hlocks hP9 dX3_of_23
    ·
      refine lv_aload_n C.1 C.2.1 dX3_of_13 rfl (lv_at hl 0 rfl) ?_
      refine z_get C hK hW hin3 (v := .ref a) 0 rfl rfl 0 (by decide) (C.2.2.2.2 (.fieldLink RX3 10 "TellingRows$Marks" "marks" "[I") (List.mem_of_getElem? (i := 1) rfl)) (fun _ h9 => h9) rfl dX3_of_14 ?_
      refine lv_iload_n C.1 C.2.1 dX3_of_17 rfl (lv_at hl 1 rfl) ?_
      refine z_iald C hK hW 1 rfl (by omega) (by omega) dX3_of_18 ?_
      have hb_18 := hg v
      refine lv_goto (tgt := 23) C.1 C.2.1 dX3_of_19 (by decide) ?_
      rw [hQ]
      have hP9 : ∃ z : Int, (some (Value.int (iI (g v)))) = some (.int (iI z)) ∧ ((0 ≤ v ∧ v ≤ 60000 → z = g v)) ∧ ((¬ (0 ≤ v ∧ v ≤ 60000) → z = 0)) ∧ (-2147483648 ≤ z ∧ z ≤ 2147483647) := ⟨_, rfl, (by first | omega | assumption | (intros; first | rfl | omega | assumption | (and_intros <;> first | rfl | omega | assumption))), (by first | omega | assumption | (intros; first | rfl | omega | assumption | (and_intros <;> first | rfl | omega | assumption))), (by first | omega | assumption | (intros; first | rfl | omega | assumption | (and_intros <;> first | rfl | omega | assumption)))⟩
      exact z_iretR C hr hlocks hP9 dX3_of_23
set_option maxHeartbeats 4000000 in
set_option maxRecDepth 100000 in
/-- Marks.put -/
theorem c_X3_put (l : Launch) (G : GG) (h : Nat) (a : Nat) (g : Int → Int) (v : Int) (x : Int) (hg : BD g) (hv : -2147483648 ≤ v ∧ v ≤ 2147483647) (hx : -2147483648 ≤ x ∧ x ≤ 2147483647) : MQc l yX3_put wsX3_put 0 G [.ref h, .int (iI v), .int (iI x)] [(h, .inr (2, [.ref a])), (a, .inl (G.2.1 0, 60001, .inl (iA g)))] (fun r (u : (Int → Int)) => r = none ∧ ((0 ≤ v ∧ v ≤ 60000 → u = up g v x)) ∧ ((¬ (0 ≤ v ∧ v ≤ 60000) → u = g)) ∧ (BD u)) (fun u => [(h, .inr (2, [.ref a])), (a, .inl (G.2.1 0, 60001, .inl (iA u)))]) := by
  refine MQc.start (own := RX3) (by decide) rfl rfl (Nat.le_of_ble_eq_true rfl) ?_
  intro p9 e9 s9 m9 args below meth c9 A Q C hK hW hA hr hlocks hQ ls hl
  have hl : lv_has ls 3 [(0, .ref h), (1, .int (iI v)), (2, .int (iI x))] := hl
  have hin3 : ∀ w ∈ wsX30, w ∈ wsX3_put := by decide +kernel
  refine lv_iload_n C.1 C.2.1 dX3_put_0 rfl (lv_at hl 1 rfl) ?_
  refine z_if_lt (tgt := 20) C dX3_put_1 (by decide) (by omega) (fun c_1 => ?_) (fun c_1 => ?_)
  ·
    rw [hQ]
    have hP9 : (none : Option Value) = none ∧ ((0 ≤ v ∧ v ≤ 60000 → g = up g v x)) ∧ ((¬ (0 ≤ v ∧ v ≤ 60000) → g = g)) ∧ (BD g) := ⟨rfl, (by first | omega | assumption | (intros; first | rfl | omega | assumption | (and_intros <;> first | rfl | omega | assumption))), (by first | omega | assumption | (intros; first | rfl | omega | assumption | (and_intros <;> first | rfl | omega | assumption))), hg⟩
    exact z_vret C hr hlocks hW g rfl hP9 dX3_put_20
  ·
    refine lv_iload_n C.1 C.2.1 dX3_put_4 rfl (lv_at hl 1 rfl) ?_
    refine lv_aload_n C.1 C.2.1 dX3_put_5 rfl (lv_at hl 0 rfl) ?_
    refine z_get C hK hW hin3 (v := .ref a) 0 rfl rfl 0 (by decide) (C.2.2.2.2 (.fieldLink RX3 10 "TellingRows$Marks" "marks" "[I") (List.mem_of_getElem? (i := 1) rfl)) (fun _ h9 => h9) rfl dX3_put_6 ?_
    refine z_alen C hK hW 1 0 rfl rfl dX3_put_9 ?_
    refine z_icmp_ge (tgt := 20) C dX3_put_10 (by decide) (by omega) (fun c_10 => ?_) (fun c_10 => ?_)
    ·
      rw [hQ]
      have hP9 : (none : Option Value) = none ∧ ((0 ≤ v ∧ v ≤ 60000 → g = up g v x)) ∧ ((¬ (0 ≤ v ∧ v ≤ 60000) → g = g)) ∧ (BD g) := ⟨rfl, (by first | omega | assumption | (intros; first | rfl | omega | assumption | (and_intros <;> first | rfl | omega | assumption))), (by first | omega | assumption | (intros; first | rfl | omega | assumption | (and_intros <;> first | rfl | omega | assumption))), hg⟩
      exact z_vret C hr hlocks hW g rfl hP9 dX3_put_20
    ·
      refine lv_aload_n C.1 C.2.1 dX3_put_13 rfl (lv_at hl 0 rfl) ?_
      refine z_get C hK hW hin3 (v := .ref a) 0 rfl rfl 0 (by decide) (C.2.2.2.2 (.fieldLink RX3 10 "TellingRows$Marks" "marks" "[I") (List.mem_of_getElem? (i := 1) rfl)) (fun _ h9 => h9) rfl dX3_put_14 ?_
      refine lv_iload_n C.1 C.2.1 dX3_put_17 rfl (lv_at hl 1 rfl) ?_
      refine lv_iload_n C.1 C.2.1 dX3_put_18 rfl (lv_at hl 2 rfl) ?_
      refine z_iast C hK hW 1 rfl (by omega) (by omega) dX3_put_19 (fun H locs hW => ?_)
      have hbd_19 : BD (up g v x) := BD.up hg (by omega)
      have hW : Wd G A s9.heap [(h, .inr (2, [.ref a])), (a, .inl (G.2.1 0, 60001, .inl (iA (up g v x))))] H locs := hW
      rw [hQ]
      have hP9 : (none : Option Value) = none ∧ ((0 ≤ v ∧ v ≤ 60000 → (up g v x) = up g v x)) ∧ ((¬ (0 ≤ v ∧ v ≤ 60000) → (up g v x) = g)) ∧ (BD (up g v x)) := ⟨rfl, (by first | omega | assumption | (intros; first | rfl | omega | assumption | (and_intros <;> first | rfl | omega | assumption))), (by first | omega | assumption | (intros; first | rfl | omega | assumption | (and_intros <;> first | rfl | omega | assumption))), hbd_19⟩
      exact z_vret C hr hlocks hW (up g v x) rfl hP9 dX3_put_20
set_option maxHeartbeats 4000000 in
set_option maxRecDepth 100000 in
/-- Marks.raise -/
theorem c_X3_raise (l : Launch) (G : GG) (h : Nat) (a : Nat) (g : Int → Int) (v : Int) (hg : BD g) (hv : -2147483648 ≤ v ∧ v ≤ 2147483647) (hb : 0 ≤ v → v ≤ 60000 → g v ≤ 2147483646) : MQc l yX3_raise wsX3_raise 0 G [.ref h, .int (iI v)] [(h, .inr (2, [.ref a])), (a, .inl (G.2.1 0, 60001, .inl (iA g)))] (fun r (u : (Int → Int)) => r = none ∧ ((0 ≤ v ∧ v ≤ 60000 → u = up g v (g v + 1))) ∧ ((¬ (0 ≤ v ∧ v ≤ 60000) → u = g)) ∧ (BD u)) (fun u => [(h, .inr (2, [.ref a])), (a, .inl (G.2.1 0, 60001, .inl (iA u)))]) := by
  refine MQc.start (own := RX3) (by decide) rfl rfl (Nat.le_of_ble_eq_true rfl) ?_
  intro p9 e9 s9 m9 args below meth c9 A Q C hK hW hA hr hlocks hQ ls hl
  have hl : lv_has ls 2 [(0, .ref h), (1, .int (iI v))] := hl
  have hin3 : ∀ w ∈ wsX30, w ∈ wsX3_raise := by decide +kernel
  refine lv_iload_n C.1 C.2.1 dX3_raise_0 rfl (lv_at hl 1 rfl) ?_
  refine z_if_lt (tgt := 23) C dX3_raise_1 (by decide) (by omega) (fun c_1 => ?_) (fun c_1 => ?_)
  ·
    rw [hQ]
    have hP9 : (none : Option Value) = none ∧ ((0 ≤ v ∧ v ≤ 60000 → g = up g v (g v + 1))) ∧ ((¬ (0 ≤ v ∧ v ≤ 60000) → g = g)) ∧ (BD g) := ⟨rfl, (by first | omega | assumption | (intros; first | rfl | omega | assumption | (and_intros <;> first | rfl | omega | assumption))), (by first | omega | assumption | (intros; first | rfl | omega | assumption | (and_intros <;> first | rfl | omega | assumption))), hg⟩
    exact z_vret C hr hlocks hW g rfl hP9 dX3_raise_23
  ·
    refine lv_iload_n C.1 C.2.1 dX3_raise_4 rfl (lv_at hl 1 rfl) ?_
    refine lv_aload_n C.1 C.2.1 dX3_raise_5 rfl (lv_at hl 0 rfl) ?_
    refine z_get C hK hW hin3 (v := .ref a) 0 rfl rfl 0 (by decide) (C.2.2.2.2 (.fieldLink RX3 10 "TellingRows$Marks" "marks" "[I") (List.mem_of_getElem? (i := 1) rfl)) (fun _ h9 => h9) rfl dX3_raise_6 ?_
    refine z_alen C hK hW 1 0 rfl rfl dX3_raise_9 ?_
    refine z_icmp_ge (tgt := 23) C dX3_raise_10 (by decide) (by omega) (fun c_10 => ?_) (fun c_10 => ?_)
    ·
      rw [hQ]
      have hP9 : (none : Option Value) = none ∧ ((0 ≤ v ∧ v ≤ 60000 → g = up g v (g v + 1))) ∧ ((¬ (0 ≤ v ∧ v ≤ 60000) → g = g)) ∧ (BD g) := ⟨rfl, (by first | omega | assumption | (intros; first | rfl | omega | assumption | (and_intros <;> first | rfl | omega | assumption))), (by first | omega | assumption | (intros; first | rfl | omega | assumption | (and_intros <;> first | rfl | omega | assumption))), hg⟩
      exact z_vret C hr hlocks hW g rfl hP9 dX3_raise_23
    ·
      refine lv_aload_n C.1 C.2.1 dX3_raise_13 rfl (lv_at hl 0 rfl) ?_
      refine z_get C hK hW hin3 (v := .ref a) 0 rfl rfl 0 (by decide) (C.2.2.2.2 (.fieldLink RX3 10 "TellingRows$Marks" "marks" "[I") (List.mem_of_getElem? (i := 1) rfl)) (fun _ h9 => h9) rfl dX3_raise_14 ?_
      refine lv_iload_n C.1 C.2.1 dX3_raise_17 rfl (lv_at hl 1 rfl) ?_
      refine lv_dup2_11 C.1 C.2.1 dX3_raise_18 rfl rfl ?_
      refine z_iald C hK hW 1 rfl (by omega) (by omega) dX3_raise_19 ?_
      have hb_19 := hg v
      have hbr := hb (by omega) (by omega)
      refine lv_iconst (v := iI 1) C.1 C.2.1 dX3_raise_20 rfl ?_
      refine z_iadd C dX3_raise_21 ?_
      refine z_iast C hK hW 1 rfl (by omega) (by omega) dX3_raise_22 (fun H locs hW => ?_)
      have hbd_22 : BD (up g v ((g v) + 1)) := BD.up hg (by omega)
      have hW : Wd G A s9.heap [(h, .inr (2, [.ref a])), (a, .inl (G.2.1 0, 60001, .inl (iA (up g v ((g v) + 1)))))] H locs := hW
      rw [hQ]
      have hP9 : (none : Option Value) = none ∧ ((0 ≤ v ∧ v ≤ 60000 → (up g v ((g v) + 1)) = up g v (g v + 1))) ∧ ((¬ (0 ≤ v ∧ v ≤ 60000) → (up g v ((g v) + 1)) = g)) ∧ (BD (up g v ((g v) + 1))) := ⟨rfl, (by first | omega | assumption | (intros; first | rfl | omega | assumption | (and_intros <;> first | rfl | omega | assumption))), (by first | omega | assumption | (intros; first | rfl | omega | assumption | (and_intros <;> first | rfl | omega | assumption))), hbd_22⟩
      exact z_vret C hr hlocks hW (up g v ((g v) + 1)) rfl hP9 dX3_raise_23
