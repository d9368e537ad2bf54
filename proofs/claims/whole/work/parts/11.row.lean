set_option maxHeartbeats 4000000 in
set_option maxRecDepth 100000 in
/-- Row.numberAt -/
theorem c_X5_numberAt (l : Launch) (G : GG) (h : Nat) (bo : Nat) (no : Nat) (so : Nat) (M : Int) (L : Int) (g : Int → Int) (i : Int) (hL : 0 ≤ L ∧ L ≤ 2000) (hg : BD g) (hi : -2147483648 ≤ i ∧ i ≤ 2147483647) : MRc l yX5_numberAt wsX5_numberAt 0 G [.ref h, .int (iI i)] [(h, .inr (4, [.ref bo, .ref no, .ref so, .int (iI M), .int (iI L)])), (no, .inl (G.2.1 0, 2000, .inl (iA g)))] (fun r => ∃ z : Int, r = some (.int (iI z)) ∧ (0 ≤ i ∧ i < L → z = g i) ∧ (¬ (0 ≤ i ∧ i < L) → z = -4) ∧ (-2147483648 ≤ z ∧ z ≤ 2147483647)) := by
  refine MRc.start (own := RX5) (by decide) rfl rfl (Nat.le_of_ble_eq_true rfl) ?_
  intro p9 e9 s9 m9 args below meth c9 A Q C hK hW hA hr hlocks hQ ls hl
  have hl : lv_has ls 2 [(0, .ref h), (1, .int (iI i))] := hl
  have hin5 : ∀ w ∈ wsX50, w ∈ wsX5_numberAt := by decide +kernel
  refine lv_iload_n C.1 C.2.1 dX5_numberAt_0 rfl (lv_at hl 1 rfl) ?_
  refine z_if_lt (tgt := 28) C dX5_numberAt_1 (by decide) (by omega) (fun c_1 => ?_) (fun c_1 => ?_)
  ·
    refine lv_bipush (v := iI (-4)) C.1 C.2.1 dX5_numberAt_28 (by decide +kernel) ?_
    rw [hQ]
    have hP9 : ∃ z : Int, (some (Value.int (iI (-4)))) = some (.int (iI z)) ∧ (0 ≤ i ∧ i < L → z = g i) ∧ (¬ (0 ≤ i ∧ i < L) → z = -4) ∧ (-2147483648 ≤ z ∧ z ≤ 2147483647) := ⟨_, rfl, (by first | omega | assumption | (intros; first | rfl | omega | assumption | (and_intros <;> first | rfl | omega | assumption))), (by first | omega | assumption | (intros; first | rfl | omega | assumption | (and_intros <;> first | rfl | omega | assumption))), (by first | omega | assumption | (intros; first | rfl | omega | assumption | (and_intros <;> first | rfl | omega | assumption)))⟩
    exact z_iretR C hr hlocks hP9 dX5_numberAt_30
  ·
    refine lv_iload_n C.1 C.2.1 dX5_numberAt_4 rfl (lv_at hl 1 rfl) ?_
    refine lv_aload_n C.1 C.2.1 dX5_numberAt_5 rfl (lv_at hl 0 rfl) ?_
    refine z_get C hK hW hin5 (v := .int (iI L)) 0 rfl rfl 4 (by decide) (C.2.2.2.2 (.fieldLink RX5 51 "TellingRows$Row" "length" "I") (List.mem_of_getElem? (i := 1) rfl)) (fun _ h9 => h9) rfl dX5_numberAt_6 ?_
    refine z_icmp_ge (tgt := 28) C dX5_numberAt_9 (by decide) (by omega) (fun c_9 => ?_) (fun c_9 => ?_)
    ·
      refine lv_bipush (v := iI (-4)) C.1 C.2.1 dX5_numberAt_28 (by decide +kernel) ?_
      rw [hQ]
      have hP9 : ∃ z : Int, (some (Value.int (iI (-4)))) = some (.int (iI z)) ∧ (0 ≤ i ∧ i < L → z = g i) ∧ (¬ (0 ≤ i ∧ i < L) → z = -4) ∧ (-2147483648 ≤ z ∧ z ≤ 2147483647) := ⟨_, rfl, (by first | omega | assumption | (intros; first | rfl | omega | assumption | (and_intros <;> first | rfl | omega | assumption))), (by first | omega | assumption | (intros; first | rfl | omega | assumption | (and_intros <;> first | rfl | omega | assumption))), (by first | omega | assumption | (intros; first | rfl | omega | assumption | (and_intros <;> first | rfl | omega | assumption)))⟩
      exact z_iretR C hr hlocks hP9 dX5_numberAt_30
    ·
      refine lv_iload_n C.1 C.2.1 dX5_numberAt_12 rfl (lv_at hl 1 rfl) ?_
      refine lv_sipush (v := iI 2000) C.1 C.2.1 dX5_numberAt_13 (by decide +kernel) ?_
      refine z_icmp_ge (tgt := 28) C dX5_numberAt_16 (by decide) (by omega) (fun c_16 => ?_) (fun c_16 => ?_)
      ·
        refine lv_bipush (v := iI (-4)) C.1 C.2.1 dX5_numberAt_28 (by decide +kernel) ?_
        rw [hQ]
        have hP9 : ∃ z : Int, (some (Value.int (iI (-4)))) = some (.int (iI z)) ∧ (0 ≤ i ∧ i < L → z = g i) ∧ (¬ (0 ≤ i ∧ i < L) → z = -4) ∧ (-2147483648 ≤ z ∧ z ≤ 2147483647) := ⟨_, rfl, (by first | omega | assumption | (intros; first | rfl | omega | assumption | (and_intros <;> first | rfl | omega | assumption))), (by first | omega | assumption | (intros; first | rfl | omega | assumption | (and_intros <;> first | rfl | omega | assumption))), (by first | omega | assumption | (intros; first | rfl | omega | assumption | (and_intros <;> first | rfl | omega | assumption)))⟩
        exact z_iretR C hr hlocks hP9 dX5_numberAt_30
      ·
        refine lv_aload_n C.1 C.2.1 dX5_numberAt_19 rfl (lv_at hl 0 rfl) ?_
        refine z_get C hK hW hin5 (v := .ref no) 0 rfl rfl 1 (by decide) (C.2.2.2.2 (.fieldLink RX5 20 "TellingRows$Row" "numbers" "[I") (List.mem_of_getElem? (i := 2) rfl)) (fun _ h9 => h9) rfl dX5_numberAt_20 ?_
        refine lv_iload_n C.1 C.2.1 dX5_numberAt_23 rfl (lv_at hl 1 rfl) ?_
        refine z_iald C hK hW 1 rfl (by omega) (by omega) dX5_numberAt_24 ?_
        have hb_24 := hg i
        refine lv_goto (tgt := 30) C.1 C.2.1 dX5_numberAt_25 (by decide) ?_
        rw [hQ]
        have hP9 : ∃ z : Int, (some (Value.int (iI (g i)))) = some (.int (iI z)) ∧ (0 ≤ i ∧ i < L → z = g i) ∧ (¬ (0 ≤ i ∧ i < L) → z = -4) ∧ (-2147483648 ≤ z ∧ z ≤ 2147483647) := ⟨_, rfl, (by first | omega | assumption | (intros; first | rfl | omega | assumption | (and_intros <;> first | rfl | omega | assumption))), (by first | omega | assumption | (intros; first | rfl | omega | assumption | (and_intros <;> first | rfl | omega | assumption))), (by first | omega | assumption | (intros; first | rfl | omega | assumption | (and_intros <;> first | rfl | omega | assumption)))⟩
        exact z_iretR C hr hlocks hP9 dX5_numberAt_30
set_option maxHeartbeats 4000000 in
set_option maxRecDepth 100000 in
/-- Row.placeOf -/
theorem c_X5_placeOf (l : Launch) (G : GG) (h : Nat) (bo : Nat) (no : Nat) (so : Nat) (M : Int) (L : Int) (g : Int → Int) (v : Int) (hL : 0 ≤ L ∧ L ≤ 2000) (hg : BD g) (hv : -2147483648 ≤ v ∧ v ≤ 2147483647) : MRc l yX5_placeOf wsX5_placeOf 1 G [.ref h, .int (iI v)] [(h, .inr (4, [.ref bo, .ref no, .ref so, .int (iI M), .int (iI L)])), (no, .inl (G.2.1 0, 2000, .inl (iA g)))] (fun r => ∃ z : Int, r = some (.int (iI z)) ∧ (FirstR g L v z)) := by
  refine MRc.start (own := RX5) (by decide) rfl rfl (Nat.le_of_ble_eq_true rfl) ?_
  intro p9 e9 s9 m9 args below meth c9 A Q C hK hW hA hr hlocks hQ ls hl
  have hl : lv_has ls 3 [(0, .ref h), (1, .int (iI v))] := hl
  have hin5 : ∀ w ∈ wsX50, w ∈ wsX5_placeOf := by decide +kernel
  refine lv_iconst (v := iI 0) C.1 C.2.1 dX5_placeOf_0 rfl ?_
  refine lv_istore_n (lv' := [(2, .int (iI 0)), (0, .ref h), (1, .int (iI v))]) C.1 C.2.1 dX5_placeOf_1 rfl hl (by decide) rfl (fun ls hl => ?_)
  have cut_2 : ∀ (n9 : Nat) (i : Int), (0 ≤ i ∧ i ≤ L) → (∀ j, 0 ≤ j → j < i → g j ≠ v) → (L - i < (n9 : Int)) → ∀ (ls : Array Slot), lv_has ls 3 [(2, .int (iI i)), (0, .ref h), (1, .int (iI v))] → W p9 l e9 (rmL 1) s9 m9 args below meth c9 s9.heap [] 0 0 Q (F0 m9 2 ls []) := by
    intro n9
    induction n9 with
    | zero => intro i hi he hmu; intros; exfalso; omega
    | succ n9 ih_2 =>
      intro i hi he hmu ls hl
      refine lv_iload_n C.1 C.2.1 dX5_placeOf_2 rfl (lv_at hl 0 rfl) ?_
      refine lv_aload_n C.1 C.2.1 dX5_placeOf_3 rfl (lv_at hl 1 rfl) ?_
      refine z_get C hK hW hin5 (v := .int (iI L)) 0 rfl rfl 4 (by decide) (C.2.2.2.2 (.fieldLink RX5 51 "TellingRows$Row" "length" "I") (List.mem_of_getElem? (i := 1) rfl)) (fun _ h9 => h9) rfl dX5_placeOf_4 ?_
      refine z_icmp_ge (tgt := 27) C dX5_placeOf_7 (by decide) (by omega) (fun c_7 => ?_) (fun c_7 => ?_)
      ·
        refine lv_bipush (v := iI (-4)) C.1 C.2.1 dX5_placeOf_27 (by decide +kernel) ?_
        rw [hQ]
        have hP9 : ∃ z : Int, (some (Value.int (iI (-4)))) = some (.int (iI z)) ∧ (FirstR g L v z) := ⟨_, rfl, (Or.inr ⟨rfl, fun j h0 h1 => he j h0 (by omega)⟩)⟩
        exact z_iretR C hr hlocks hP9 dX5_placeOf_29
      ·
        refine lv_aload_n C.1 C.2.1 dX5_placeOf_10 rfl (lv_at hl 1 rfl) ?_
        refine lv_iload_n C.1 C.2.1 dX5_placeOf_11 rfl (lv_at hl 0 rfl) ?_
        refine z_callR (va_runV (As := [.int (iI i)]) (rest := []) C (c_X5_numberAt l G h bo no so M L g i hL hg (by first | omega | assumption | (intros; first | rfl | omega | assumption | (and_intros <;> first | rfl | omega | assumption))) s9.heap.size) (cwV 1 C.2.2.2.2 gX5_placeOf_X5_numberAt rfl rfl rfl (by decide +kernel) ⟨Nat.le_of_ble_eq_true rfl, Nat.le_of_ble_eq_true rfl⟩) (z_preV hK hW hA [0, 1] rfl (by decide) (ci := 4) (q0 := 0) rfl rfl) rfl rfl hl.1 rfl (lv_room (Nat.le_of_ble_eq_true rfl)) dX5_placeOf_12 ⟨Nat.zero_le _, Nat.zero_le _⟩) (fun r hp => ?_)
        have hp : ∃ z : Int, r = some (.int (iI z)) ∧ (0 ≤ i ∧ i < L → z = g i) ∧ (¬ (0 ≤ i ∧ i < L) → z = -4) ∧ (-2147483648 ≤ z ∧ z ≤ 2147483647) := hp
        obtain ⟨z_12, rfl, hz_12_0, hz_12_1, hz_12_2⟩ := hp
        refine lv_iload_n C.1 C.2.1 dX5_placeOf_15 rfl (lv_at hl 2 rfl) ?_
        refine z_icmp_ne (tgt := 21) C dX5_placeOf_16 (by decide) (by omega) (fun c_16 => ?_) (fun c_16 => ?_)
        ·
          refine lv_iinc (v := iI (i + 1)) (lv' := [(2, .int (iI (i + 1))), (0, .ref h), (1, .int (iI v))]) C.1 C.2.1 dX5_placeOf_21 hl (k := 0) rfl (iI_add _ _) (by decide) rfl (fun ls hl => ?_)
          refine lv_goto (tgt := 2) C.1 C.2.1 dX5_placeOf_24 (by decide) ?_
          exact ih_2 (i + 1) (by first | omega | assumption | (intros; first | rfl | omega | assumption | (and_intros <;> first | rfl | omega | assumption))) (fun j h0 h1 => (Int.lt_or_le j i).elim (fun q => he j h0 q) (fun q => by have := hz_12_0 (by omega); rw [show j = i by omega]; omega)) (by omega) _ (lv_sub hl [0, 1, 2] rfl)
        ·
          refine lv_iload_n C.1 C.2.1 dX5_placeOf_19 rfl (lv_at hl 0 rfl) ?_
          rw [hQ]
          have hP9 : ∃ z : Int, (some (Value.int (iI i))) = some (.int (iI z)) ∧ (FirstR g L v z) := ⟨_, rfl, (Or.inl ⟨by omega, by omega, by have := hz_12_0 (by omega); omega, he⟩)⟩
          exact z_iretR C hr hlocks hP9 dX5_placeOf_20
  exact cut_2 (((L - 0) + 1 : Int)).toNat 0 (by first | omega | assumption | (intros; first | rfl | omega | assumption | (and_intros <;> first | rfl | omega | assumption))) (fun j h0 h1 => by omega) (by omega) _ (lv_sub hl [0, 1, 2] rfl)
set_option maxHeartbeats 4000000 in
set_option maxRecDepth 100000 in
/-- Row.countOf -/
theorem c_X5_countOf (l : Launch) (G : GG) (h : Nat) (bo : Nat) (no : Nat) (so : Nat) (M : Int) (L : Int) (g : Int → Int) (v : Int) (n : Int) (hL : 0 ≤ L ∧ L ≤ 2000) (hg : BD g) (hv : -2147483648 ≤ v ∧ v ≤ 2147483647) (hn : 0 ≤ n ∧ n ≤ 2000) : MRc l yX5_countOf wsX5_countOf 1 G [.ref h, .int (iI v), .int (iI n)] [(h, .inr (4, [.ref bo, .ref no, .ref so, .int (iI M), .int (iI L)])), (no, .inl (G.2.1 0, 2000, .inl (iA g)))] (fun r => ∃ z : Int, r = some (.int (iI z)) ∧ (z = oc g v (min n L))) := by
  refine MRc.start (own := RX5) (by decide) rfl rfl (Nat.le_of_ble_eq_true rfl) ?_
  intro p9 e9 s9 m9 args below meth c9 A Q C hK hW hA hr hlocks hQ ls hl
  have hl : lv_has ls 5 [(0, .ref h), (1, .int (iI v)), (2, .int (iI n))] := hl
  have hin5 : ∀ w ∈ wsX50, w ∈ wsX5_countOf := by decide +kernel
  refine lv_iconst (v := iI 0) C.1 C.2.1 dX5_countOf_0 rfl ?_
  refine lv_istore_n (lv' := [(3, .int (iI 0)), (0, .ref h), (1, .int (iI v)), (2, .int (iI n))]) C.1 C.2.1 dX5_countOf_1 rfl hl (by decide) rfl (fun ls hl => ?_)
  refine lv_iconst (v := iI 0) C.1 C.2.1 dX5_countOf_2 rfl ?_
  refine lv_istore (lv' := [(4, .int (iI 0)), (3, .int (iI 0)), (0, .ref h), (1, .int (iI v)), (2, .int (iI n))]) C.1 C.2.1 dX5_countOf_3 hl (by decide) rfl (fun ls hl => ?_)
  have cut_5 : ∀ (n9 : Nat) (i : Int) (k : Int), (0 ≤ i ∧ i ≤ L ∧ i ≤ n) → (k = oc g v i) → (L - i < (n9 : Int)) → ∀ (ls : Array Slot), lv_has ls 5 [(4, .int (iI i)), (3, .int (iI k)), (0, .ref h), (1, .int (iI v)), (2, .int (iI n))] → W p9 l e9 (rmL 1) s9 m9 args below meth c9 s9.heap [] 0 0 Q (F0 m9 5 ls []) := by
    intro n9
    induction n9 with
    | zero => intro i k hi hk hmu; intros; exfalso; omega
    | succ n9 ih_5 =>
      intro i k hi hk hmu ls hl
      refine lv_iload C.1 C.2.1 dX5_countOf_5 (lv_at hl 0 rfl) ?_
      refine lv_iload_n C.1 C.2.1 dX5_countOf_7 rfl (lv_at hl 4 rfl) ?_
      refine z_icmp_ge (tgt := 39) C dX5_countOf_8 (by decide) (by omega) (fun c_8 => ?_) (fun c_8 => ?_)
      ·
        refine lv_iload_n C.1 C.2.1 dX5_countOf_39 rfl (lv_at hl 1 rfl) ?_
        rw [hQ]
        have hP9 : ∃ z : Int, (some (Value.int (iI k))) = some (.int (iI z)) ∧ (z = oc g v (min n L)) := ⟨_, rfl, (by rw [hk]; congr 1; omega)⟩
        exact z_iretR C hr hlocks hP9 dX5_countOf_40
      ·
        refine lv_iload C.1 C.2.1 dX5_countOf_11 (lv_at hl 0 rfl) ?_
        refine lv_aload_n C.1 C.2.1 dX5_countOf_13 rfl (lv_at hl 2 rfl) ?_
        refine z_get C hK hW hin5 (v := .int (iI L)) 0 rfl rfl 4 (by decide) (C.2.2.2.2 (.fieldLink RX5 51 "TellingRows$Row" "length" "I") (List.mem_of_getElem? (i := 1) rfl)) (fun _ h9 => h9) rfl dX5_countOf_14 ?_
        refine z_icmp_ge (tgt := 39) C dX5_countOf_17 (by decide) (by omega) (fun c_17 => ?_) (fun c_17 => ?_)
        ·
          refine lv_iload_n C.1 C.2.1 dX5_countOf_39 rfl (lv_at hl 1 rfl) ?_
          rw [hQ]
          have hP9 : ∃ z : Int, (some (Value.int (iI k))) = some (.int (iI z)) ∧ (z = oc g v (min n L)) := ⟨_, rfl, (by rw [hk]; congr 1; omega)⟩
          exact z_iretR C hr hlocks hP9 dX5_countOf_40
        ·
          refine lv_aload_n C.1 C.2.1 dX5_countOf_20 rfl (lv_at hl 2 rfl) ?_
          refine lv_iload C.1 C.2.1 dX5_countOf_21 (lv_at hl 0 rfl) ?_
          refine z_callR (va_runV (As := [.int (iI i)]) (rest := []) C (c_X5_numberAt l G h bo no so M L g i hL hg (by first | omega | assumption | (intros; first | rfl | omega | assumption | (and_intros <;> first | rfl | omega | assumption))) s9.heap.size) (cwV 1 C.2.2.2.2 gX5_countOf_X5_numberAt rfl rfl rfl (by decide +kernel) ⟨Nat.le_of_ble_eq_true rfl, Nat.le_of_ble_eq_true rfl⟩) (z_preV hK hW hA [0, 1] rfl (by decide) (ci := 4) (q0 := 0) rfl rfl) rfl rfl hl.1 rfl (lv_room (Nat.le_of_ble_eq_true rfl)) dX5_countOf_23 ⟨Nat.zero_le _, Nat.zero_le _⟩) (fun r hp => ?_)
          have hp : ∃ z : Int, r = some (.int (iI z)) ∧ (0 ≤ i ∧ i < L → z = g i) ∧ (¬ (0 ≤ i ∧ i < L) → z = -4) ∧ (-2147483648 ≤ z ∧ z ≤ 2147483647) := hp
          obtain ⟨z_23, rfl, hz_23_0, hz_23_1, hz_23_2⟩ := hp
          refine lv_iload_n C.1 C.2.1 dX5_countOf_26 rfl (lv_at hl 3 rfl) ?_
          refine z_icmp_ne (tgt := 33) C dX5_countOf_27 (by decide) (by omega) (fun c_27 => ?_) (fun c_27 => ?_)
          ·
            refine lv_iinc (v := iI (i + 1)) (lv' := [(4, .int (iI (i + 1))), (3, .int (iI k)), (0, .ref h), (1, .int (iI v)), (2, .int (iI n))]) C.1 C.2.1 dX5_countOf_33 hl (k := 0) rfl (iI_add _ _) (by decide) rfl (fun ls hl => ?_)
            refine lv_goto (tgt := 5) C.1 C.2.1 dX5_countOf_36 (by decide) ?_
            exact ih_5 (i + 1) k (by first | omega | assumption | (intros; first | rfl | omega | assumption | (and_intros <;> first | rfl | omega | assumption))) (by have h1 := hz_23_0 (by omega); rw [oc_s (by omega)]; split <;> omega) (by omega) _ (lv_sub hl [0, 1, 2, 3, 4] rfl)
          ·
            refine lv_iinc (v := iI (k + 1)) (lv' := [(3, .int (iI (k + 1))), (4, .int (iI i)), (0, .ref h), (1, .int (iI v)), (2, .int (iI n))]) C.1 C.2.1 dX5_countOf_30 hl (k := 1) rfl (iI_add _ _) (by decide) rfl (fun ls hl => ?_)
            refine lv_iinc (v := iI (i + 1)) (lv' := [(4, .int (iI (i + 1))), (3, .int (iI (k + 1))), (0, .ref h), (1, .int (iI v)), (2, .int (iI n))]) C.1 C.2.1 dX5_countOf_33 hl (k := 1) rfl (iI_add _ _) (by decide) rfl (fun ls hl => ?_)
            refine lv_goto (tgt := 5) C.1 C.2.1 dX5_countOf_36 (by decide) ?_
            exact ih_5 (i + 1) (k + 1) (by first | omega | assumption | (intros; first | rfl | omega | assumption | (and_intros <;> first | rfl | omega | assumption))) (by have h1 := hz_23_0 (by omega); rw [oc_s (by omega)]; split <;> omega) (by omega) _ (lv_sub hl [0, 1, 2, 3, 4] rfl)
  exact cut_5 (((L - 0) + 1 : Int)).toNat 0 0 (by first | omega | assumption | (intros; first | rfl | omega | assumption | (and_intros <;> first | rfl | omega | assumption))) (by rw [oc_0 (by omega)]) (by omega) _ (lv_sub hl [0, 1, 2, 3, 4] rfl)
set_option maxHeartbeats 4000000 in
set_option maxRecDepth 100000 in
/-- Row.runEnd -/
theorem c_X5_runEnd (l : Launch) (G : GG) (h : Nat) (bo : Nat) (no : Nat) (so : Nat) (M : Int) (L : Int) (g : Int → Int) (s0 : Int) (en : Int) (hL : 0 ≤ L ∧ L ≤ 2000) (hg : BD g) (hs : 0 ≤ s0 ∧ s0 < en ∧ en ≤ L) : MRc l yX5_runEnd wsX5_runEnd 1 G [.ref h, .int (iI s0), .int (iI en)] [(h, .inr (4, [.ref bo, .ref no, .ref so, .int (iI M), .int (iI L)])), (no, .inl (G.2.1 0, 2000, .inl (iA g)))] (fun r => ∃ z : Int, r = some (.int (iI z)) ∧ (RunE g s0 en z)) := by
  refine MRc.start (own := RX5) (by decide) rfl rfl (Nat.le_of_ble_eq_true rfl) ?_
  intro p9 e9 s9 m9 args below meth c9 A Q C hK hW hA hr hlocks hQ ls hl
  have hl : lv_has ls 4 [(0, .ref h), (1, .int (iI s0)), (2, .int (iI en))] := hl
  have hin5 : ∀ w ∈ wsX50, w ∈ wsX5_runEnd := by decide +kernel
  refine lv_iload_n C.1 C.2.1 dX5_runEnd_0 rfl (lv_at hl 1 rfl) ?_
  refine lv_iconst (v := iI 1) C.1 C.2.1 dX5_runEnd_1 rfl ?_
  refine z_iadd C dX5_runEnd_2 ?_
  refine lv_istore_n (lv' := [(3, .int (iI (s0 + 1))), (0, .ref h), (1, .int (iI s0)), (2, .int (iI en))]) C.1 C.2.1 dX5_runEnd_3 rfl hl (by decide) rfl (fun ls hl => ?_)
  have cut_4 : ∀ (n9 : Nat) (i : Int), (s0 < i ∧ i ≤ en) → (∀ j, s0 ≤ j → j < i → g j = g s0) → (en - i < (n9 : Int)) → ∀ (ls : Array Slot), lv_has ls 4 [(3, .int (iI i)), (0, .ref h), (1, .int (iI s0)), (2, .int (iI en))] → W p9 l e9 (rmL 1) s9 m9 args below meth c9 s9.heap [] 0 0 Q (F0 m9 4 ls []) := by
    intro n9
    induction n9 with
    | zero => intro i hi he hmu; intros; exfalso; omega
    | succ n9 ih_4 =>
      intro i hi he hmu ls hl
      refine lv_iload_n C.1 C.2.1 dX5_runEnd_4 rfl (lv_at hl 0 rfl) ?_
      refine lv_iload_n C.1 C.2.1 dX5_runEnd_5 rfl (lv_at hl 3 rfl) ?_
      refine z_icmp_ge (tgt := 28) C dX5_runEnd_6 (by decide) (by omega) (fun c_6 => ?_) (fun c_6 => ?_)
      ·
        refine lv_iload_n C.1 C.2.1 dX5_runEnd_28 rfl (lv_at hl 0 rfl) ?_
        rw [hQ]
        have hP9 : ∃ z : Int, (some (Value.int (iI i))) = some (.int (iI z)) ∧ (RunE g s0 en z) := ⟨_, rfl, ⟨by omega, by omega, he, fun h9 => by first | omega | (have h1 := hz_11_0 (by omega); have h2 := hz_16_0 (by omega); omega)⟩⟩
        exact z_iretR C hr hlocks hP9 dX5_runEnd_29
      ·
        refine lv_aload_n C.1 C.2.1 dX5_runEnd_9 rfl (lv_at hl 1 rfl) ?_
        refine lv_iload_n C.1 C.2.1 dX5_runEnd_10 rfl (lv_at hl 0 rfl) ?_
        refine z_callR (va_runV (As := [.int (iI i)]) (rest := []) C (c_X5_numberAt l G h bo no so M L g i hL hg (by first | omega | assumption | (intros; first | rfl | omega | assumption | (and_intros <;> first | rfl | omega | assumption))) s9.heap.size) (cwV 1 C.2.2.2.2 gX5_runEnd_X5_numberAt rfl rfl rfl (by decide +kernel) ⟨Nat.le_of_ble_eq_true rfl, Nat.le_of_ble_eq_true rfl⟩) (z_preV hK hW hA [0, 1] rfl (by decide) (ci := 4) (q0 := 0) rfl rfl) rfl rfl hl.1 rfl (lv_room (Nat.le_of_ble_eq_true rfl)) dX5_runEnd_11 ⟨Nat.zero_le _, Nat.zero_le _⟩) (fun r hp => ?_)
        have hp : ∃ z : Int, r = some (.int (iI z)) ∧ (0 ≤ i ∧ i < L → z = g i) ∧ (¬ (0 ≤ i ∧ i < L) → z = -4) ∧ (-2147483648 ≤ z ∧ z ≤ 2147483647) := hp
        obtain ⟨z_11, rfl, hz_11_0, hz_11_1, hz_11_2⟩ := hp
        refine lv_aload_n C.1 C.2.1 dX5_runEnd_14 rfl (lv_at hl 1 rfl) ?_
        refine lv_iload_n C.1 C.2.1 dX5_runEnd_15 rfl (lv_at hl 2 rfl) ?_
        refine z_callR (va_runV (As := [.int (iI s0)]) (rest := [.int (iI z_11)]) C (c_X5_numberAt l G h bo no so M L g s0 hL hg (by first | omega | assumption | (intros; first | rfl | omega | assumption | (and_intros <;> first | rfl | omega | assumption))) s9.heap.size) (cwV 1 C.2.2.2.2 gX5_runEnd_X5_numberAt rfl rfl rfl (by decide +kernel) ⟨Nat.le_of_ble_eq_true rfl, Nat.le_of_ble_eq_true rfl⟩) (z_preV hK hW hA [0, 1] rfl (by decide) (ci := 4) (q0 := 0) rfl rfl) rfl rfl hl.1 rfl (lv_room (Nat.le_of_ble_eq_true rfl)) dX5_runEnd_16 ⟨Nat.zero_le _, Nat.zero_le _⟩) (fun r hp => ?_)
        have hp : ∃ z : Int, r = some (.int (iI z)) ∧ (0 ≤ s0 ∧ s0 < L → z = g s0) ∧ (¬ (0 ≤ s0 ∧ s0 < L) → z = -4) ∧ (-2147483648 ≤ z ∧ z ≤ 2147483647) := hp
        obtain ⟨z_16, rfl, hz_16_0, hz_16_1, hz_16_2⟩ := hp
        refine z_icmp_ne (tgt := 28) C dX5_runEnd_19 (by decide) (by omega) (fun c_19 => ?_) (fun c_19 => ?_)
        ·
          refine lv_iload_n C.1 C.2.1 dX5_runEnd_28 rfl (lv_at hl 0 rfl) ?_
          rw [hQ]
          have hP9 : ∃ z : Int, (some (Value.int (iI i))) = some (.int (iI z)) ∧ (RunE g s0 en z) := ⟨_, rfl, ⟨by omega, by omega, he, fun h9 => by first | omega | (have h1 := hz_11_0 (by omega); have h2 := hz_16_0 (by omega); omega)⟩⟩
          exact z_iretR C hr hlocks hP9 dX5_runEnd_29
        ·
          refine lv_iinc (v := iI (i + 1)) (lv' := [(3, .int (iI (i + 1))), (0, .ref h), (1, .int (iI s0)), (2, .int (iI en))]) C.1 C.2.1 dX5_runEnd_22 hl (k := 0) rfl (iI_add _ _) (by decide) rfl (fun ls hl => ?_)
          refine lv_goto (tgt := 4) C.1 C.2.1 dX5_runEnd_25 (by decide) ?_
          exact ih_4 (i + 1) (by first | omega | assumption | (intros; first | rfl | omega | assumption | (and_intros <;> first | rfl | omega | assumption))) (fun j h0 h1 => (Int.lt_or_le j i).elim (fun q => he j h0 q) (fun q => by have h1 := hz_11_0 (by omega); have h2 := hz_16_0 (by omega); rw [show j = i by omega]; omega)) (by omega) _ (lv_sub hl [0, 1, 2, 3] rfl)
  exact cut_4 (((en - (s0 + 1)) + 1 : Int)).toNat (s0 + 1) (by first | omega | assumption | (intros; first | rfl | omega | assumption | (and_intros <;> first | rfl | omega | assumption))) (fun j h0 h1 => by rw [show j = s0 by omega]) (by omega) _ (lv_sub hl [0, 1, 2, 3] rfl)
set_option maxHeartbeats 4000000 in
set_option maxRecDepth 100000 in
/-- Row.runStart -/
theorem c_X5_runStart (l : Launch) (G : GG) (h : Nat) (bo : Nat) (no : Nat) (so : Nat) (M : Int) (L : Int) (g : Int → Int) (k : Int) (hL : 0 ≤ L ∧ L ≤ 2000) (hg : BD g) (hk : 0 ≤ k ∧ k ≤ 2147483647) : MRc l yX5_runStart wsX5_runStart 2 G [.ref h, .int (iI k)] [(h, .inr (4, [.ref bo, .ref no, .ref so, .int (iI M), .int (iI L)])), (no, .inl (G.2.1 0, 2000, .inl (iA g)))] (fun r => ∃ z : Int, r = some (.int (iI z)) ∧ (StartR g L k z)) := by
  refine MRc.start (own := RX5) (by decide) rfl rfl (Nat.le_of_ble_eq_true rfl) ?_
  intro p9 e9 s9 m9 args below meth c9 A Q C hK hW hA hr hlocks hQ ls hl
  have hl : lv_has ls 4 [(0, .ref h), (1, .int (iI k))] := hl
  have hin5 : ∀ w ∈ wsX50, w ∈ wsX5_runStart := by decide +kernel
  refine lv_iconst (v := iI 0) C.1 C.2.1 dX5_runStart_0 rfl ?_
  refine lv_istore_n (lv' := [(2, .int (iI 0)), (0, .ref h), (1, .int (iI k))]) C.1 C.2.1 dX5_runStart_1 rfl hl (by decide) rfl (fun ls hl => ?_)
  refine lv_iconst (v := iI 0) C.1 C.2.1 dX5_runStart_2 rfl ?_
  refine lv_istore_n (lv' := [(3, .int (iI 0)), (2, .int (iI 0)), (0, .ref h), (1, .int (iI k))]) C.1 C.2.1 dX5_runStart_3 rfl hl (by decide) rfl (fun ls hl => ?_)
  have cut_4 : ∀ (n9 : Nat) (st : Int) (t : Int), (0 ≤ t ∧ t ≤ k) → (0 ≤ st ∧ st ≤ L ∧ t ≤ st) → (RunAt g L t.toNat st) → (L - st < (n9 : Int)) → ∀ (ls : Array Slot), lv_has ls 4 [(3, .int (iI t)), (2, .int (iI st)), (0, .ref h), (1, .int (iI k))] → W p9 l e9 (rmL 2) s9 m9 args below meth c9 s9.heap [] 0 0 Q (F0 m9 4 ls []) := by
    intro n9
    induction n9 with
    | zero => intro st t ht hs hr2 hmu; intros; exfalso; omega
    | succ n9 ih_4 =>
      intro st t ht hs hr2 hmu ls hl
      refine lv_iload_n C.1 C.2.1 dX5_runStart_4 rfl (lv_at hl 0 rfl) ?_
      refine lv_iload_n C.1 C.2.1 dX5_runStart_5 rfl (lv_at hl 3 rfl) ?_
      refine z_icmp_ge (tgt := 33) C dX5_runStart_6 (by decide) (by omega) (fun c_6 => ?_) (fun c_6 => ?_)
      ·
        refine lv_iload_n C.1 C.2.1 dX5_runStart_33 rfl (lv_at hl 1 rfl) ?_
        refine lv_aload_n C.1 C.2.1 dX5_runStart_34 rfl (lv_at hl 2 rfl) ?_
        refine z_get C hK hW hin5 (v := .int (iI L)) 0 rfl rfl 4 (by decide) (C.2.2.2.2 (.fieldLink RX5 51 "TellingRows$Row" "length" "I") (List.mem_of_getElem? (i := 1) rfl)) (fun _ h9 => h9) rfl dX5_runStart_35 ?_
        refine z_icmp_ge (tgt := 45) C dX5_runStart_38 (by decide) (by omega) (fun c_38 => ?_) (fun c_38 => ?_)
        ·
          refine lv_bipush (v := iI (-4)) C.1 C.2.1 dX5_runStart_45 (by decide +kernel) ?_
          rw [hQ]
          have hP9 : ∃ z : Int, (some (Value.int (iI (-4)))) = some (.int (iI z)) ∧ (StartR g L k z) := ⟨_, rfl, (by first | exact Or.inl ⟨by omega, by omega, by rw [show k.toNat = t.toNat by omega]; exact hr2⟩ | exact Or.inr ⟨rfl, by rw [show k.toNat = t.toNat + (k - t).toNat by omega]; exact fun s9 h9 => RunAt_end hr2 (by omega) _ s9 h9⟩)⟩
          exact z_iretR C hr hlocks hP9 dX5_runStart_47
        ·
          refine lv_iload_n C.1 C.2.1 dX5_runStart_41 rfl (lv_at hl 1 rfl) ?_
          refine lv_goto (tgt := 47) C.1 C.2.1 dX5_runStart_42 (by decide) ?_
          rw [hQ]
          have hP9 : ∃ z : Int, (some (Value.int (iI st))) = some (.int (iI z)) ∧ (StartR g L k z) := ⟨_, rfl, (by first | exact Or.inl ⟨by omega, by omega, by rw [show k.toNat = t.toNat by omega]; exact hr2⟩ | exact Or.inr ⟨rfl, by rw [show k.toNat = t.toNat + (k - t).toNat by omega]; exact fun s9 h9 => RunAt_end hr2 (by omega) _ s9 h9⟩)⟩
          exact z_iretR C hr hlocks hP9 dX5_runStart_47
      ·
        refine lv_iload_n C.1 C.2.1 dX5_runStart_9 rfl (lv_at hl 1 rfl) ?_
        refine lv_aload_n C.1 C.2.1 dX5_runStart_10 rfl (lv_at hl 2 rfl) ?_
        refine z_get C hK hW hin5 (v := .int (iI L)) 0 rfl rfl 4 (by decide) (C.2.2.2.2 (.fieldLink RX5 51 "TellingRows$Row" "length" "I") (List.mem_of_getElem? (i := 1) rfl)) (fun _ h9 => h9) rfl dX5_runStart_11 ?_
        refine z_icmp_ge (tgt := 33) C dX5_runStart_14 (by decide) (by omega) (fun c_14 => ?_) (fun c_14 => ?_)
        ·
          refine lv_iload_n C.1 C.2.1 dX5_runStart_33 rfl (lv_at hl 1 rfl) ?_
          refine lv_aload_n C.1 C.2.1 dX5_runStart_34 rfl (lv_at hl 2 rfl) ?_
          refine z_get C hK hW hin5 (v := .int (iI L)) 0 rfl rfl 4 (by decide) (C.2.2.2.2 (.fieldLink RX5 51 "TellingRows$Row" "length" "I") (List.mem_of_getElem? (i := 1) rfl)) (fun _ h9 => h9) rfl dX5_runStart_35 ?_
          refine z_icmp_ge (tgt := 45) C dX5_runStart_38 (by decide) (by omega) (fun c_38 => ?_) (fun c_38 => ?_)
          ·
            refine lv_bipush (v := iI (-4)) C.1 C.2.1 dX5_runStart_45 (by decide +kernel) ?_
            rw [hQ]
            have hP9 : ∃ z : Int, (some (Value.int (iI (-4)))) = some (.int (iI z)) ∧ (StartR g L k z) := ⟨_, rfl, (by first | exact Or.inl ⟨by omega, by omega, by rw [show k.toNat = t.toNat by omega]; exact hr2⟩ | exact Or.inr ⟨rfl, by rw [show k.toNat = t.toNat + (k - t).toNat by omega]; exact fun s9 h9 => RunAt_end hr2 (by omega) _ s9 h9⟩)⟩
            exact z_iretR C hr hlocks hP9 dX5_runStart_47
          ·
            refine lv_iload_n C.1 C.2.1 dX5_runStart_41 rfl (lv_at hl 1 rfl) ?_
            refine lv_goto (tgt := 47) C.1 C.2.1 dX5_runStart_42 (by decide) ?_
            rw [hQ]
            have hP9 : ∃ z : Int, (some (Value.int (iI st))) = some (.int (iI z)) ∧ (StartR g L k z) := ⟨_, rfl, (by first | exact Or.inl ⟨by omega, by omega, by rw [show k.toNat = t.toNat by omega]; exact hr2⟩ | exact Or.inr ⟨rfl, by rw [show k.toNat = t.toNat + (k - t).toNat by omega]; exact fun s9 h9 => RunAt_end hr2 (by omega) _ s9 h9⟩)⟩
            exact z_iretR C hr hlocks hP9 dX5_runStart_47
        ·
          refine lv_aload_n C.1 C.2.1 dX5_runStart_17 rfl (lv_at hl 2 rfl) ?_
          refine lv_iload_n C.1 C.2.1 dX5_runStart_18 rfl (lv_at hl 1 rfl) ?_
          refine lv_aload_n C.1 C.2.1 dX5_runStart_19 rfl (lv_at hl 2 rfl) ?_
          refine z_get C hK hW hin5 (v := .int (iI L)) 0 rfl rfl 4 (by decide) (C.2.2.2.2 (.fieldLink RX5 51 "TellingRows$Row" "length" "I") (List.mem_of_getElem? (i := 1) rfl)) (fun _ h9 => h9) rfl dX5_runStart_20 ?_
          refine z_callR (va_runV (As := [.int (iI st), .int (iI L)]) (rest := []) C (c_X5_runEnd l G h bo no so M L g st L hL hg (by first | omega | assumption | (intros; first | rfl | omega | assumption | (and_intros <;> first | rfl | omega | assumption))) s9.heap.size) (cwV 2 C.2.2.2.2 gX5_runStart_X5_runEnd rfl rfl rfl (by decide +kernel) ⟨Nat.le_of_ble_eq_true rfl, Nat.le_of_ble_eq_true rfl⟩) (z_preV hK hW hA [0, 1] rfl (by decide) (ci := 4) (q0 := 0) rfl rfl) rfl rfl hl.1 rfl (lv_room (Nat.le_of_ble_eq_true rfl)) dX5_runStart_23 ⟨Nat.zero_le _, Nat.zero_le _⟩) (fun r hp => ?_)
          have hp : ∃ z : Int, r = some (.int (iI z)) ∧ (RunE g st L z) := hp
          obtain ⟨z_23, rfl, hz_23_0⟩ := hp
          have hq23 := hz_23_0.1
          have hq23b := hz_23_0.2.1
          refine lv_istore_n (lv' := [(2, .int (iI z_23)), (3, .int (iI t)), (0, .ref h), (1, .int (iI k))]) C.1 C.2.1 dX5_runStart_26 rfl hl (by decide) rfl (fun ls hl => ?_)
          refine lv_iinc (v := iI (t + 1)) (lv' := [(3, .int (iI (t + 1))), (2, .int (iI z_23)), (0, .ref h), (1, .int (iI k))]) C.1 C.2.1 dX5_runStart_27 hl (k := 1) rfl (iI_add _ _) (by decide) rfl (fun ls hl => ?_)
          refine lv_goto (tgt := 4) C.1 C.2.1 dX5_runStart_30 (by decide) ?_
          exact ih_4 z_23 (t + 1) (by first | omega | assumption | (intros; first | rfl | omega | assumption | (and_intros <;> first | rfl | omega | assumption))) (by first | omega | assumption | (intros; first | rfl | omega | assumption | (and_intros <;> first | rfl | omega | assumption))) (by rw [show (t + 1).toNat = t.toNat + 1 by omega]; exact ⟨st, hr2, by omega, hz_23_0⟩) (by omega) _ (lv_sub hl [0, 1, 2, 3] rfl)
  exact cut_4 (((L - 0) + 1 : Int)).toNat 0 0 (by first | omega | assumption | (intros; first | rfl | omega | assumption | (and_intros <;> first | rfl | omega | assumption))) (by first | omega | assumption | (intros; first | rfl | omega | assumption | (and_intros <;> first | rfl | omega | assumption))) (by rfl) (by omega) _ (lv_sub hl [0, 1, 2, 3] rfl)
set_option maxHeartbeats 4000000 in
set_option maxRecDepth 100000 in
/-- Row.greatest -/
theorem c_X5_greatest (l : Launch) (G : GG) (h : Nat) (bo : Nat) (no : Nat) (so : Nat) (M : Int) (L : Int) (g : Int → Int) (n : Int) (hL : 0 ≤ L ∧ L ≤ 2000) (hg : BD g) (hg0 : ∀ j, 0 ≤ j → j < L → 0 ≤ g j ∧ g j ≤ 60000) (hn : 1 ≤ n ∧ n ≤ 2000) (hL1 : 1 ≤ L) : MRc l yX5_greatest wsX5_greatest 1 G [.ref h, .int (iI n)] [(h, .inr (4, [.ref bo, .ref no, .ref so, .int (iI M), .int (iI L)])), (no, .inl (G.2.1 0, 2000, .inl (iA g)))] (fun r => ∃ z : Int, r = some (.int (iI z)) ∧ (MaxR g (min n L) z) ∧ (-2147483648 ≤ z ∧ z ≤ 2147483647)) := by
  refine MRc.start (own := RX5) (by decide) rfl rfl (Nat.le_of_ble_eq_true rfl) ?_
  intro p9 e9 s9 m9 args below meth c9 A Q C hK hW hA hr hlocks hQ ls hl
  have hl : lv_has ls 4 [(0, .ref h), (1, .int (iI n))] := hl
  have hin5 : ∀ w ∈ wsX50, w ∈ wsX5_greatest := by decide +kernel
  refine lv_bipush (v := iI (-4)) C.1 C.2.1 dX5_greatest_0 (by decide +kernel) ?_
  refine lv_istore_n (lv' := [(2, .int (iI (-4))), (0, .ref h), (1, .int (iI n))]) C.1 C.2.1 dX5_greatest_2 rfl hl (by decide) rfl (fun ls hl => ?_)
  refine lv_iconst (v := iI 0) C.1 C.2.1 dX5_greatest_3 rfl ?_
  refine lv_istore_n (lv' := [(3, .int (iI 0)), (2, .int (iI (-4))), (0, .ref h), (1, .int (iI n))]) C.1 C.2.1 dX5_greatest_4 rfl hl (by decide) rfl (fun ls hl => ?_)
  have cut_5 : ∀ (n9 : Nat) (i : Int) (k : Int), (0 ≤ i ∧ i ≤ L ∧ i ≤ n) → ((i = 0 ∧ k = -4) ∨ (MaxR g i k ∧ 0 ≤ k ∧ k ≤ 60000)) → (L - i < (n9 : Int)) → ∀ (ls : Array Slot), lv_has ls 4 [(3, .int (iI i)), (2, .int (iI k)), (0, .ref h), (1, .int (iI n))] → W p9 l e9 (rmL 1) s9 m9 args below meth c9 s9.heap [] 0 0 Q (F0 m9 5 ls []) := by
    intro n9
    induction n9 with
    | zero => intro i k hi hk hmu; intros; exfalso; omega
    | succ n9 ih_5 =>
      intro i k hi hk hmu ls hl
      refine lv_iload_n C.1 C.2.1 dX5_greatest_5 rfl (lv_at hl 0 rfl) ?_
      refine lv_iload_n C.1 C.2.1 dX5_greatest_6 rfl (lv_at hl 3 rfl) ?_
      refine z_icmp_ge (tgt := 34) C dX5_greatest_7 (by decide) (by omega) (fun c_7 => ?_) (fun c_7 => ?_)
      ·
        refine lv_iload_n C.1 C.2.1 dX5_greatest_34 rfl (lv_at hl 1 rfl) ?_
        rw [hQ]
        have hP9 : ∃ z : Int, (some (Value.int (iI k))) = some (.int (iI z)) ∧ (MaxR g (min n L) z) ∧ (-2147483648 ≤ z ∧ z ≤ 2147483647) := ⟨_, rfl, (hk.elim (fun q => by omega) (fun q => by rw [show min n L = i by omega]; exact q.1)), (by first | omega | assumption | (intros; first | rfl | omega | assumption | (and_intros <;> first | rfl | omega | assumption)))⟩
        exact z_iretR C hr hlocks hP9 dX5_greatest_35
      ·
        refine lv_iload_n C.1 C.2.1 dX5_greatest_10 rfl (lv_at hl 0 rfl) ?_
        refine lv_aload_n C.1 C.2.1 dX5_greatest_11 rfl (lv_at hl 2 rfl) ?_
        refine z_get C hK hW hin5 (v := .int (iI L)) 0 rfl rfl 4 (by decide) (C.2.2.2.2 (.fieldLink RX5 51 "TellingRows$Row" "length" "I") (List.mem_of_getElem? (i := 1) rfl)) (fun _ h9 => h9) rfl dX5_greatest_12 ?_
        refine z_icmp_ge (tgt := 34) C dX5_greatest_15 (by decide) (by omega) (fun c_15 => ?_) (fun c_15 => ?_)
        ·
          refine lv_iload_n C.1 C.2.1 dX5_greatest_34 rfl (lv_at hl 1 rfl) ?_
          rw [hQ]
          have hP9 : ∃ z : Int, (some (Value.int (iI k))) = some (.int (iI z)) ∧ (MaxR g (min n L) z) ∧ (-2147483648 ≤ z ∧ z ≤ 2147483647) := ⟨_, rfl, (hk.elim (fun q => by omega) (fun q => by rw [show min n L = i by omega]; exact q.1)), (by first | omega | assumption | (intros; first | rfl | omega | assumption | (and_intros <;> first | rfl | omega | assumption)))⟩
          exact z_iretR C hr hlocks hP9 dX5_greatest_35
        ·
          refine lv_iload_n C.1 C.2.1 dX5_greatest_18 rfl (lv_at hl 1 rfl) ?_
          refine lv_aload_n C.1 C.2.1 dX5_greatest_19 rfl (lv_at hl 2 rfl) ?_
          refine lv_iload_n C.1 C.2.1 dX5_greatest_20 rfl (lv_at hl 0 rfl) ?_
          refine z_callR (va_runV (As := [.int (iI i)]) (rest := [.int (iI k)]) C (c_X5_numberAt l G h bo no so M L g i hL hg (by first | omega | assumption | (intros; first | rfl | omega | assumption | (and_intros <;> first | rfl | omega | assumption))) s9.heap.size) (cwV 1 C.2.2.2.2 gX5_greatest_X5_numberAt rfl rfl rfl (by decide +kernel) ⟨Nat.le_of_ble_eq_true rfl, Nat.le_of_ble_eq_true rfl⟩) (z_preV hK hW hA [0, 1] rfl (by decide) (ci := 4) (q0 := 0) rfl rfl) rfl rfl hl.1 rfl (lv_room (Nat.le_of_ble_eq_true rfl)) dX5_greatest_21 ⟨Nat.zero_le _, Nat.zero_le _⟩) (fun r hp => ?_)
          have hp : ∃ z : Int, r = some (.int (iI z)) ∧ (0 ≤ i ∧ i < L → z = g i) ∧ (¬ (0 ≤ i ∧ i < L) → z = -4) ∧ (-2147483648 ≤ z ∧ z ≤ 2147483647) := hp
          obtain ⟨z_21, rfl, hz_21_0, hz_21_1, hz_21_2⟩ := hp
          have hk21 : -2147483648 ≤ k ∧ k ≤ 2147483647 := by omega
          refine z_mmax C hl.1 (C.2.2.2.2 (.methodLink RX5 63 Lib.Math.max.name) (List.mem_of_getElem? (i := 2) rfl)) (C.2.2.2.2 (.static Lib.Math.max.name) (List.mem_of_getElem? (i := 3) rfl)) (C.2.2.2.2 (.initialized "java/lang/Math") (List.mem_of_getElem? (i := 4) rfl)) (C.2.2.2.2 (.code Lib.Math.max.name Lib.Math.max.code 2 (some .int)) (List.mem_of_getElem? (i := 5) rfl)) (Nat.le_of_ble_eq_true rfl) (Nat.le_of_ble_eq_true rfl) (Nat.zero_le _) (Nat.zero_le _) (by omega) dX5_greatest_24 ?_
          refine lv_istore_n (lv' := [(2, .int (iI (max k z_21))), (3, .int (iI i)), (0, .ref h), (1, .int (iI n))]) C.1 C.2.1 dX5_greatest_27 rfl hl (by decide) rfl (fun ls hl => ?_)
          refine lv_iinc (v := iI (i + 1)) (lv' := [(3, .int (iI (i + 1))), (2, .int (iI (max k z_21))), (0, .ref h), (1, .int (iI n))]) C.1 C.2.1 dX5_greatest_28 hl (k := 1) rfl (iI_add _ _) (by decide) rfl (fun ls hl => ?_)
          refine lv_goto (tgt := 5) C.1 C.2.1 dX5_greatest_31 (by decide) ?_
          exact ih_5 (i + 1) (max k z_21) (by first | omega | assumption | (intros; first | rfl | omega | assumption | (and_intros <;> first | rfl | omega | assumption))) (by have h1 := hz_21_0 (by omega); have h2 := hg0 i (by omega) (by omega); subst h1; exact Or.inr ⟨MaxR_s (by omega) (hk.elim (fun q => Or.inl ⟨q.1, by omega⟩) (fun q => Or.inr q.1)), by omega, by omega⟩) (by omega) _ (lv_sub hl [0, 1, 2, 3] rfl)
  exact cut_5 (((L - 0) + 1 : Int)).toNat 0 (-4) (by first | omega | assumption | (intros; first | rfl | omega | assumption | (and_intros <;> first | rfl | omega | assumption))) (Or.inl ⟨rfl, rfl⟩) (by omega) _ (lv_sub hl [0, 1, 2, 3] rfl)
set_option maxHeartbeats 4000000 in
set_option maxRecDepth 100000 in
/-- Row.longestRun -/
theorem c_X5_longestRun (l : Launch) (G : GG) (h : Nat) (bo : Nat) (no : Nat) (so : Nat) (M : Int) (L : Int) (g : Int → Int) (n : Int) (hL : 0 ≤ L ∧ L ≤ 2000) (hg : BD g) (hn : 1 ≤ n ∧ n ≤ 2000) (hL1 : 1 ≤ L) : MRc l yX5_longestRun wsX5_longestRun 2 G [.ref h, .int (iI n)] [(h, .inr (4, [.ref bo, .ref no, .ref so, .int (iI M), .int (iI L)])), (no, .inl (G.2.1 0, 2000, .inl (iA g)))] (fun r => ∃ z : Int, r = some (.int (iI z)) ∧ (LongR g (min n L) z) ∧ (-2147483648 ≤ z ∧ z ≤ 2147483647)) := by
  refine MRc.start (own := RX5) (by decide) rfl rfl (Nat.le_of_ble_eq_true rfl) ?_
  intro p9 e9 s9 m9 args below meth c9 A Q C hK hW hA hr hlocks hQ ls hl
  have hl : lv_has ls 7 [(0, .ref h), (1, .int (iI n))] := hl
  have hin5 : ∀ w ∈ wsX50, w ∈ wsX5_longestRun := by decide +kernel
  refine lv_iload_n C.1 C.2.1 dX5_longestRun_0 rfl (lv_at hl 1 rfl) ?_
  refine lv_aload_n C.1 C.2.1 dX5_longestRun_1 rfl (lv_at hl 0 rfl) ?_
  refine z_get C hK hW hin5 (v := .int (iI L)) 0 rfl rfl 4 (by decide) (C.2.2.2.2 (.fieldLink RX5 51 "TellingRows$Row" "length" "I") (List.mem_of_getElem? (i := 1) rfl)) (fun _ h9 => h9) rfl dX5_longestRun_2 ?_
  refine z_mmin C hl.1 (C.2.2.2.2 (.methodLink RX5 68 Lib.Math.min.name) (List.mem_of_getElem? (i := 2) rfl)) (C.2.2.2.2 (.static Lib.Math.min.name) (List.mem_of_getElem? (i := 3) rfl)) (C.2.2.2.2 (.initialized "java/lang/Math") (List.mem_of_getElem? (i := 4) rfl)) (C.2.2.2.2 (.code Lib.Math.min.name Lib.Math.min.code 2 (some .int)) (List.mem_of_getElem? (i := 5) rfl)) (Nat.le_of_ble_eq_true rfl) (Nat.le_of_ble_eq_true rfl) (Nat.zero_le _) (Nat.zero_le _) (by omega) dX5_longestRun_5 ?_
  refine lv_istore_n (lv' := [(2, .int (iI (min n L))), (0, .ref h), (1, .int (iI n))]) C.1 C.2.1 dX5_longestRun_8 rfl hl (by decide) rfl (fun ls hl => ?_)
  refine lv_iconst (v := iI 0) C.1 C.2.1 dX5_longestRun_9 rfl ?_
  refine lv_istore_n (lv' := [(3, .int (iI 0)), (2, .int (iI (min n L))), (0, .ref h), (1, .int (iI n))]) C.1 C.2.1 dX5_longestRun_10 rfl hl (by decide) rfl (fun ls hl => ?_)
  refine lv_iconst (v := iI 0) C.1 C.2.1 dX5_longestRun_11 rfl ?_
  refine lv_istore (lv' := [(4, .int (iI 0)), (3, .int (iI 0)), (2, .int (iI (min n L))), (0, .ref h), (1, .int (iI n))]) C.1 C.2.1 dX5_longestRun_12 hl (by decide) rfl (fun ls hl => ?_)
  refine lv_iconst (v := iI 0) C.1 C.2.1 dX5_longestRun_14 rfl ?_
  refine lv_istore (lv' := [(5, .int (iI 0)), (4, .int (iI 0)), (3, .int (iI 0)), (2, .int (iI (min n L))), (0, .ref h), (1, .int (iI n))]) C.1 C.2.1 dX5_longestRun_15 hl (by decide) rfl (fun ls hl => ?_)
  have cut_17 : ∀ (n9 : Nat) (k : Int) (st : Int) (t : Int), (0 ≤ t ∧ t ≤ st ∧ st ≤ min n L) → ((st = 0 ∧ k = 0) ∨ (LongR g st k ∧ (st < min n L → g (st - 1) ≠ g st) ∧ 0 ≤ k ∧ k ≤ 2000)) → (2000 - t < (n9 : Int)) → ∀ (ls : Array Slot), lv_has ls 7 [(5, .int (iI t)), (4, .int (iI st)), (3, .int (iI k)), (2, .int (iI (min n L))), (0, .ref h), (1, .int (iI n))] → W p9 l e9 (rmL 2) s9 m9 args below meth c9 s9.heap [] 0 0 Q (F0 m9 17 ls []) := by
    intro n9
    induction n9 with
    | zero => intro k st t hi hk hmu; intros; exfalso; omega
    | succ n9 ih_17 =>
      intro k st t hi hk hmu ls hl
      refine lv_iload C.1 C.2.1 dX5_longestRun_17 (lv_at hl 0 rfl) ?_
      refine lv_sipush (v := iI 2000) C.1 C.2.1 dX5_longestRun_19 (by decide +kernel) ?_
      refine z_icmp_ge (tgt := 60) C dX5_longestRun_22 (by decide) (by omega) (fun c_22 => ?_) (fun c_22 => ?_)
      ·
        refine lv_iload_n C.1 C.2.1 dX5_longestRun_60 rfl (lv_at hl 2 rfl) ?_
        rw [hQ]
        have hP9 : ∃ z : Int, (some (Value.int (iI k))) = some (.int (iI z)) ∧ (LongR g (min n L) z) ∧ (-2147483648 ≤ z ∧ z ≤ 2147483647) := ⟨_, rfl, (hk.elim (fun q => by omega) (fun q => by rw [show min n L = st by omega]; exact q.1)), (by first | omega | assumption | (intros; first | rfl | omega | assumption | (and_intros <;> first | rfl | omega | assumption)))⟩
        exact z_iretR C hr hlocks hP9 dX5_longestRun_61
      ·
        refine lv_iload C.1 C.2.1 dX5_longestRun_25 (lv_at hl 1 rfl) ?_
        refine lv_iload_n C.1 C.2.1 dX5_longestRun_27 rfl (lv_at hl 3 rfl) ?_
        refine z_icmp_ge (tgt := 60) C dX5_longestRun_28 (by decide) (by omega) (fun c_28 => ?_) (fun c_28 => ?_)
        ·
          refine lv_iload_n C.1 C.2.1 dX5_longestRun_60 rfl (lv_at hl 2 rfl) ?_
          rw [hQ]
          have hP9 : ∃ z : Int, (some (Value.int (iI k))) = some (.int (iI z)) ∧ (LongR g (min n L) z) ∧ (-2147483648 ≤ z ∧ z ≤ 2147483647) := ⟨_, rfl, (hk.elim (fun q => by omega) (fun q => by rw [show min n L = st by omega]; exact q.1)), (by first | omega | assumption | (intros; first | rfl | omega | assumption | (and_intros <;> first | rfl | omega | assumption)))⟩
          exact z_iretR C hr hlocks hP9 dX5_longestRun_61
        ·
          refine lv_aload_n C.1 C.2.1 dX5_longestRun_31 rfl (lv_at hl 4 rfl) ?_
          refine lv_iload C.1 C.2.1 dX5_longestRun_32 (lv_at hl 1 rfl) ?_
          refine lv_iload_n C.1 C.2.1 dX5_longestRun_34 rfl (lv_at hl 3 rfl) ?_
          refine z_callR (va_runV (As := [.int (iI st), .int (iI (min n L))]) (rest := []) C (c_X5_runEnd l G h bo no so M L g st (min n L) hL hg (by first | omega | assumption | (intros; first | rfl | omega | assumption | (and_intros <;> first | rfl | omega | assumption))) s9.heap.size) (cwV 2 C.2.2.2.2 gX5_longestRun_X5_runEnd rfl rfl rfl (by decide +kernel) ⟨Nat.le_of_ble_eq_true rfl, Nat.le_of_ble_eq_true rfl⟩) (z_preV hK hW hA [0, 1] rfl (by decide) (ci := 4) (q0 := 0) rfl rfl) rfl rfl hl.1 rfl (lv_room (Nat.le_of_ble_eq_true rfl)) dX5_longestRun_35 ⟨Nat.zero_le _, Nat.zero_le _⟩) (fun r hp => ?_)
          have hp : ∃ z : Int, r = some (.int (iI z)) ∧ (RunE g st (min n L) z) := hp
          obtain ⟨z_35, rfl, hz_35_0⟩ := hp
          have hq35 := id hz_35_0
          have hq35b : st < z_35 ∧ z_35 ≤ min n L := ⟨hq35.1, hq35.2.1⟩
          refine lv_istore (lv' := [(6, .int (iI z_35)), (5, .int (iI t)), (4, .int (iI st)), (3, .int (iI k)), (2, .int (iI (min n L))), (0, .ref h), (1, .int (iI n))]) C.1 C.2.1 dX5_longestRun_38 hl (by decide) rfl (fun ls hl => ?_)
          refine lv_iload_n C.1 C.2.1 dX5_longestRun_40 rfl (lv_at hl 3 rfl) ?_
          refine lv_iload C.1 C.2.1 dX5_longestRun_41 (lv_at hl 0 rfl) ?_
          refine lv_iload C.1 C.2.1 dX5_longestRun_43 (lv_at hl 2 rfl) ?_
          refine z_isub C dX5_longestRun_45 ?_
          refine z_mmax C hl.1 (C.2.2.2.2 (.methodLink RX5 63 Lib.Math.max.name) (List.mem_of_getElem? (i := 6) rfl)) (C.2.2.2.2 (.static Lib.Math.max.name) (List.mem_of_getElem? (i := 7) rfl)) (C.2.2.2.2 (.initialized "java/lang/Math") (List.mem_of_getElem? (i := 4) rfl)) (C.2.2.2.2 (.code Lib.Math.max.name Lib.Math.max.code 2 (some .int)) (List.mem_of_getElem? (i := 8) rfl)) (Nat.le_of_ble_eq_true rfl) (Nat.le_of_ble_eq_true rfl) (Nat.zero_le _) (Nat.zero_le _) (by omega) dX5_longestRun_46 ?_
          refine lv_istore_n (lv' := [(3, .int (iI (max k (z_35 - st)))), (6, .int (iI z_35)), (5, .int (iI t)), (4, .int (iI st)), (2, .int (iI (min n L))), (0, .ref h), (1, .int (iI n))]) C.1 C.2.1 dX5_longestRun_49 rfl hl (by decide) rfl (fun ls hl => ?_)
          refine lv_iload C.1 C.2.1 dX5_longestRun_50 (lv_at hl 1 rfl) ?_
          refine lv_istore (lv' := [(4, .int (iI z_35)), (3, .int (iI (max k (z_35 - st)))), (6, .int (iI z_35)), (5, .int (iI t)), (2, .int (iI (min n L))), (0, .ref h), (1, .int (iI n))]) C.1 C.2.1 dX5_longestRun_52 hl (by decide) rfl (fun ls hl => ?_)
          refine lv_iinc (v := iI (t + 1)) (lv' := [(5, .int (iI (t + 1))), (4, .int (iI z_35)), (3, .int (iI (max k (z_35 - st)))), (6, .int (iI z_35)), (2, .int (iI (min n L))), (0, .ref h), (1, .int (iI n))]) C.1 C.2.1 dX5_longestRun_54 hl (k := 3) rfl (iI_add _ _) (by decide) rfl (fun ls hl => ?_)
          refine lv_goto (tgt := 17) C.1 C.2.1 dX5_longestRun_57 (by decide) ?_
          exact ih_17 (max k (z_35 - st)) z_35 (t + 1) (by first | omega | assumption | (intros; first | rfl | omega | assumption | (and_intros <;> first | rfl | omega | assumption))) (by obtain ⟨q1, q2, q3, q4⟩ := id hz_35_0; exact Or.inr ⟨LongR_s (by omega) (hk.elim Or.inl (fun q => Or.inr ⟨q.1, q.2.1 (by omega)⟩)) hz_35_0, fun h9 => by rw [q3 (z_35 - 1) (by omega) (by omega)]; exact fun h8 => q4 h9 h8.symm, by omega, by omega⟩) (by omega) _ (lv_sub hl [0, 1, 2, 4, 5, 6] rfl)
  exact cut_17 (((2000 - 0) + 1 : Int)).toNat 0 0 0 (by first | omega | assumption | (intros; first | rfl | omega | assumption | (and_intros <;> first | rfl | omega | assumption))) (Or.inl ⟨rfl, rfl⟩) (by omega) _ (lv_sub hl [0, 1, 2, 3, 4, 5] rfl)
set_option maxHeartbeats 4000000 in
set_option maxRecDepth 100000 in
/-- Row.unlike -/
theorem c_X5_unlike (l : Launch) (G : GG) (h : Nat) (bo : Nat) (no : Nat) (so : Nat) (M : Int) (L : Int) (g : Int → Int) (mh : Nat) (ma : Nat) (f : Int → Int) (n : Int) (hL : 0 ≤ L ∧ L ≤ 2000) (hg : BD g) (hg0 : ∀ j, 0 ≤ j → j < L → 0 ≤ g j ∧ g j ≤ 60000) (hf : BD f) (hn : 1 ≤ n ∧ n ≤ 2000) : MQc l yX5_unlike wsX5_unlike 2 G [.ref h, .int (iI n), .ref mh] [(h, .inr (4, [.ref bo, .ref no, .ref so, .int (iI M), .int (iI L)])), (no, .inl (G.2.1 0, 2000, .inl (iA g))), (mh, .inr (2, [.ref ma])), (ma, .inl (G.2.1 0, 60001, .inl (iA f)))] (fun r (u : (Int → Int)) => ∃ z : Int, r = some (.int (iI z)) ∧ (z = dst g (min n L)) ∧ (BD u)) (fun u => [(h, .inr (4, [.ref bo, .ref no, .ref so, .int (iI M), .int (iI L)])), (no, .inl (G.2.1 0, 2000, .inl (iA g))), (mh, .inr (2, [.ref ma])), (ma, .inl (G.2.1 0, 60001, .inl (iA u)))]) := by
  refine MQc.start (own := RX5) (by decide) rfl rfl (Nat.le_of_ble_eq_true rfl) ?_
  intro p9 e9 s9 m9 args below meth c9 A Q C hK hW hA hr hlocks hQ ls hl
  have hl : lv_has ls 5 [(0, .ref h), (1, .int (iI n)), (2, .ref mh)] := hl
  have hin3 : ∀ w ∈ wsX30, w ∈ wsX5_unlike := by decide +kernel
  have hin5 : ∀ w ∈ wsX50, w ∈ wsX5_unlike := by decide +kernel
  refine lv_aload_n C.1 C.2.1 dX5_unlike_0 rfl (lv_at hl 2 rfl) ?_
  refine z_call (va_runV (As := []) (rest := []) C (c_X3_clear l G mh ma f hf s9.heap.size) (cwV 0 C.2.2.2.2 gX5_unlike_X3_clear rfl rfl rfl (by decide +kernel) ⟨Nat.le_of_ble_eq_true rfl, Nat.le_of_ble_eq_true rfl⟩) (z_preV hK hW hA [2, 3] rfl (by decide) (ci := 2) (q0 := 2) rfl rfl) rfl rfl hl.1 rfl (lv_room (Nat.le_of_ble_eq_true rfl)) dX5_unlike_1 ⟨Nat.zero_le _, Nat.zero_le _⟩) hW hA [2, 3] rfl (by decide) (fun _ => rfl) (fun r u H locs hp hW => ?_)
  obtain ⟨g2_1, rfl⟩ : ∃ q9, q9 = u := ⟨_, rfl⟩
  have hp : r = none ∧ ((∀ j, 0 ≤ j → j ≤ 60000 → g2_1 j = 0)) ∧ (BD g2_1) := hp
  obtain ⟨rfl, hz_1_0, hz_1_1⟩ := hp
  have hW : Wd G A s9.heap [(h, .inr (4, [.ref bo, .ref no, .ref so, .int (iI M), .int (iI L)])), (no, .inl (G.2.1 0, 2000, .inl (iA g))), (mh, .inr (2, [.ref ma])), (ma, .inl (G.2.1 0, 60001, .inl (iA g2_1)))] H locs := hW
  refine lv_iconst (v := iI 0) C.1 C.2.1 dX5_unlike_4 rfl ?_
  refine lv_istore_n (lv' := [(3, .int (iI 0)), (0, .ref h), (1, .int (iI n)), (2, .ref mh)]) C.1 C.2.1 dX5_unlike_5 rfl hl (by decide) rfl (fun ls hl => ?_)
  refine lv_iconst (v := iI 0) C.1 C.2.1 dX5_unlike_6 rfl ?_
  refine lv_istore (lv' := [(4, .int (iI 0)), (3, .int (iI 0)), (0, .ref h), (1, .int (iI n)), (2, .ref mh)]) C.1 C.2.1 dX5_unlike_7 hl (by decide) rfl (fun ls hl => ?_)
  have cut_9 : ∀ (n9 : Nat) (k : Int) (i : Int) (f1 : Int → Int), (0 ≤ i ∧ i ≤ L ∧ i ≤ n) → (k = dst g i) → (BD f1) → (∀ v, 0 ≤ v → v ≤ 60000 → (f1 v = 0 ↔ oc g v i = 0)) → (L - i < (n9 : Int)) → ∀ (H : Heap) (locs : List Loc) (ls : Array Slot), Wd G A s9.heap [(h, .inr (4, [.ref bo, .ref no, .ref so, .int (iI M), .int (iI L)])), (no, .inl (G.2.1 0, 2000, .inl (iA g))), (mh, .inr (2, [.ref ma])), (ma, .inl (G.2.1 0, 60001, .inl (iA f1)))] H locs → lv_has ls 5 [(4, .int (iI i)), (3, .int (iI k)), (0, .ref h), (1, .int (iI n)), (2, .ref mh)] → W p9 l e9 (rmL 2) s9 m9 args below meth c9 H locs 0 0 Q (F0 m9 9 ls []) := by
    intro n9
    induction n9 with
    | zero => intro k i f1 hi hk hf1 hm hmu; intros; exfalso; omega
    | succ n9 ih_9 =>
      intro k i f1 hi hk hf1 hm hmu H locs ls hW hl
      refine lv_iload C.1 C.2.1 dX5_unlike_9 (lv_at hl 0 rfl) ?_
      refine lv_iload_n C.1 C.2.1 dX5_unlike_11 rfl (lv_at hl 3 rfl) ?_
      refine z_icmp_ge (tgt := 57) C dX5_unlike_12 (by decide) (by omega) (fun c_12 => ?_) (fun c_12 => ?_)
      ·
        refine lv_iload_n C.1 C.2.1 dX5_unlike_57 rfl (lv_at hl 1 rfl) ?_
        rw [hQ]
        have hP9 : ∃ z : Int, (some (Value.int (iI k))) = some (.int (iI z)) ∧ (z = dst g (min n L)) ∧ (BD f1) := ⟨_, rfl, (by rw [hk]; congr 1; omega), hf1⟩
        exact z_iret C hr hlocks hW f1 rfl hP9 dX5_unlike_58
      ·
        refine lv_iload C.1 C.2.1 dX5_unlike_15 (lv_at hl 0 rfl) ?_
        refine lv_aload_n C.1 C.2.1 dX5_unlike_17 rfl (lv_at hl 2 rfl) ?_
        refine z_get C hK hW hin5 (v := .int (iI L)) 0 rfl rfl 4 (by decide) (C.2.2.2.2 (.fieldLink RX5 51 "TellingRows$Row" "length" "I") (List.mem_of_getElem? (i := 1) rfl)) (fun _ h9 => h9) rfl dX5_unlike_18 ?_
        refine z_icmp_ge (tgt := 57) C dX5_unlike_21 (by decide) (by omega) (fun c_21 => ?_) (fun c_21 => ?_)
        ·
          refine lv_iload_n C.1 C.2.1 dX5_unlike_57 rfl (lv_at hl 1 rfl) ?_
          rw [hQ]
          have hP9 : ∃ z : Int, (some (Value.int (iI k))) = some (.int (iI z)) ∧ (z = dst g (min n L)) ∧ (BD f1) := ⟨_, rfl, (by rw [hk]; congr 1; omega), hf1⟩
          exact z_iret C hr hlocks hW f1 rfl hP9 dX5_unlike_58
        ·
          refine lv_aload_n C.1 C.2.1 dX5_unlike_24 rfl (lv_at hl 4 rfl) ?_
          refine lv_aload_n C.1 C.2.1 dX5_unlike_25 rfl (lv_at hl 2 rfl) ?_
          refine lv_iload C.1 C.2.1 dX5_unlike_26 (lv_at hl 0 rfl) ?_
          refine z_callR (va_runV (As := [.int (iI i)]) (rest := [.ref mh]) C (c_X5_numberAt l G h bo no so M L g i hL hg (by first | omega | assumption | (intros; first | rfl | omega | assumption | (and_intros <;> first | rfl | omega | assumption))) H.size) (cwV 1 C.2.2.2.2 gX5_unlike_X5_numberAt rfl rfl rfl (by decide +kernel) ⟨Nat.le_of_ble_eq_true rfl, Nat.le_of_ble_eq_true rfl⟩) (z_preV hK hW hA [0, 1] rfl (by decide) (ci := 4) (q0 := 0) rfl rfl) rfl rfl hl.1 rfl (lv_room (Nat.le_of_ble_eq_true rfl)) dX5_unlike_28 ⟨Nat.zero_le _, Nat.zero_le _⟩) (fun r hp => ?_)
          have hp : ∃ z : Int, r = some (.int (iI z)) ∧ (0 ≤ i ∧ i < L → z = g i) ∧ (¬ (0 ≤ i ∧ i < L) → z = -4) ∧ (-2147483648 ≤ z ∧ z ≤ 2147483647) := hp
          obtain ⟨z_28, rfl, hz_28_0, hz_28_1, hz_28_2⟩ := hp
          have h28 := hz_28_0 (by omega)
          have hb28 := hg0 i (by omega) (by omega)
          refine z_callR (va_runV (As := [.int (iI z_28)]) (rest := []) C (c_X3_of l G mh ma f1 z_28 hf1 hz_28_2 H.size) (cwV 1 C.2.2.2.2 gX5_unlike_X3_of rfl rfl rfl (by decide +kernel) ⟨Nat.le_of_ble_eq_true rfl, Nat.le_of_ble_eq_true rfl⟩) (z_preV hK hW hA [2, 3] rfl (by decide) (ci := 2) (q0 := 2) rfl rfl) rfl rfl hl.1 rfl (lv_room (Nat.le_of_ble_eq_true rfl)) dX5_unlike_31 ⟨Nat.zero_le _, Nat.zero_le _⟩) (fun r hp => ?_)
          have hp : ∃ z : Int, r = some (.int (iI z)) ∧ ((0 ≤ z_28 ∧ z_28 ≤ 60000 → z = f1 z_28)) ∧ ((¬ (0 ≤ z_28 ∧ z_28 ≤ 60000) → z = 0)) ∧ (-2147483648 ≤ z ∧ z ≤ 2147483647) := hp
          obtain ⟨z_31, rfl, hz_31_0, hz_31_1, hz_31_2⟩ := hp
          have h31 := hz_31_0 (by omega)
          rw [h28] at h31
          refine z_if_ne (tgt := 51) C dX5_unlike_34 (by decide) (by omega) (fun c_34 => ?_) (fun c_34 => ?_)
          ·
            refine lv_iinc (v := iI (i + 1)) (lv' := [(4, .int (iI (i + 1))), (3, .int (iI k)), (0, .ref h), (1, .int (iI n)), (2, .ref mh)]) C.1 C.2.1 dX5_unlike_51 hl (k := 0) rfl (iI_add _ _) (by decide) rfl (fun ls hl => ?_)
            refine lv_goto (tgt := 9) C.1 C.2.1 dX5_unlike_54 (by decide) ?_
            exact ih_9 k (i + 1) f1 (by first | omega | assumption | (intros; first | rfl | omega | assumption | (and_intros <;> first | rfl | omega | assumption))) (by have hb := hg0 i (by omega) (by omega); have h1 := hm (g i) hb.1 hb.2; rw [dst_s (by omega)]; split <;> omega) hf1 (fun v h0 h1 => by have h2 := hm v h0 h1; have h3 := oc_b (g := g) (v := v) (n := i) (by omega); rw [oc_s (by omega)]; first | (rw [h45]; exact if h4 : v = g i then (by subst h4; rw [up_s, if_pos rfl]; omega) else (by rw [up_n _ _ h4, if_neg (fun z => h4 z.symm)]; omega)) | exact if h4 : g i = v then (by subst h4; rw [if_pos rfl]; omega) else (by rw [if_neg h4]; omega)) (by omega) _ _ _ hW (lv_sub hl [0, 1, 2, 3, 4] rfl)
          ·
            refine lv_aload_n C.1 C.2.1 dX5_unlike_37 rfl (lv_at hl 4 rfl) ?_
            refine lv_aload_n C.1 C.2.1 dX5_unlike_38 rfl (lv_at hl 2 rfl) ?_
            refine lv_iload C.1 C.2.1 dX5_unlike_39 (lv_at hl 0 rfl) ?_
            refine z_callR (va_runV (As := [.int (iI i)]) (rest := [.ref mh]) C (c_X5_numberAt l G h bo no so M L g i hL hg (by first | omega | assumption | (intros; first | rfl | omega | assumption | (and_intros <;> first | rfl | omega | assumption))) H.size) (cwV 1 C.2.2.2.2 gX5_unlike_X5_numberAt rfl rfl rfl (by decide +kernel) ⟨Nat.le_of_ble_eq_true rfl, Nat.le_of_ble_eq_true rfl⟩) (z_preV hK hW hA [0, 1] rfl (by decide) (ci := 4) (q0 := 0) rfl rfl) rfl rfl hl.1 rfl (lv_room (Nat.le_of_ble_eq_true rfl)) dX5_unlike_41 ⟨Nat.zero_le _, Nat.zero_le _⟩) (fun r hp => ?_)
            have hp : ∃ z : Int, r = some (.int (iI z)) ∧ (0 ≤ i ∧ i < L → z = g i) ∧ (¬ (0 ≤ i ∧ i < L) → z = -4) ∧ (-2147483648 ≤ z ∧ z ≤ 2147483647) := hp
            obtain ⟨z_41, rfl, hz_41_0, hz_41_1, hz_41_2⟩ := hp
            have h41 := hz_41_0 (by omega)
            refine lv_iconst (v := iI 1) C.1 C.2.1 dX5_unlike_44 rfl ?_
            refine z_call (va_runV (As := [.int (iI z_41), .int (iI 1)]) (rest := []) C (c_X3_put l G mh ma f1 z_41 1 hf1 hz_41_2 (by first | omega | assumption | (intros; first | rfl | omega | assumption | (and_intros <;> first | rfl | omega | assumption))) H.size) (cwV 2 C.2.2.2.2 gX5_unlike_X3_put rfl rfl rfl (by decide +kernel) ⟨Nat.le_of_ble_eq_true rfl, Nat.le_of_ble_eq_true rfl⟩) (z_preV hK hW hA [2, 3] rfl (by decide) (ci := 2) (q0 := 2) rfl rfl) rfl rfl hl.1 rfl (lv_room (Nat.le_of_ble_eq_true rfl)) dX5_unlike_45 ⟨Nat.zero_le _, Nat.zero_le _⟩) hW hA [2, 3] rfl (by decide) (fun _ => rfl) (fun r u H locs hp hW => ?_)
            obtain ⟨g2_45, rfl⟩ : ∃ q9, q9 = u := ⟨_, rfl⟩
            have hp : r = none ∧ ((0 ≤ z_41 ∧ z_41 ≤ 60000 → g2_45 = up f1 z_41 1)) ∧ ((¬ (0 ≤ z_41 ∧ z_41 ≤ 60000) → g2_45 = f1)) ∧ (BD g2_45) := hp
            obtain ⟨rfl, hz_45_0, hz_45_1, hz_45_2⟩ := hp
            have hW : Wd G A s9.heap [(h, .inr (4, [.ref bo, .ref no, .ref so, .int (iI M), .int (iI L)])), (no, .inl (G.2.1 0, 2000, .inl (iA g))), (mh, .inr (2, [.ref ma])), (ma, .inl (G.2.1 0, 60001, .inl (iA g2_45)))] H locs := hW
            have h45 := hz_45_0 (by omega)
            rw [h41] at h45
            refine lv_iinc (v := iI (k + 1)) (lv' := [(3, .int (iI (k + 1))), (4, .int (iI i)), (0, .ref h), (1, .int (iI n)), (2, .ref mh)]) C.1 C.2.1 dX5_unlike_48 hl (k := 1) rfl (iI_add _ _) (by decide) rfl (fun ls hl => ?_)
            refine lv_iinc (v := iI (i + 1)) (lv' := [(4, .int (iI (i + 1))), (3, .int (iI (k + 1))), (0, .ref h), (1, .int (iI n)), (2, .ref mh)]) C.1 C.2.1 dX5_unlike_51 hl (k := 1) rfl (iI_add _ _) (by decide) rfl (fun ls hl => ?_)
            refine lv_goto (tgt := 9) C.1 C.2.1 dX5_unlike_54 (by decide) ?_
            exact ih_9 (k + 1) (i + 1) g2_45 (by first | omega | assumption | (intros; first | rfl | omega | assumption | (and_intros <;> first | rfl | omega | assumption))) (by have hb := hg0 i (by omega) (by omega); have h1 := hm (g i) hb.1 hb.2; rw [dst_s (by omega)]; split <;> omega) hz_45_2 (fun v h0 h1 => by have h2 := hm v h0 h1; have h3 := oc_b (g := g) (v := v) (n := i) (by omega); rw [oc_s (by omega)]; first | (rw [h45]; exact if h4 : v = g i then (by subst h4; rw [up_s, if_pos rfl]; omega) else (by rw [up_n _ _ h4, if_neg (fun z => h4 z.symm)]; omega)) | exact if h4 : g i = v then (by subst h4; rw [if_pos rfl]; omega) else (by rw [if_neg h4]; omega)) (by omega) _ _ _ hW (lv_sub hl [0, 1, 2, 3, 4] rfl)
  exact cut_9 (((L - 0) + 1 : Int)).toNat 0 0 g2_1 (by first | omega | assumption | (intros; first | rfl | omega | assumption | (and_intros <;> first | rfl | omega | assumption))) (by rw [dst_0 (by omega)]) hz_1_1 (fun v h0 h1 => by rw [hz_1_0 v h0 h1, oc_0 (by omega)]) (by omega) _ _ _ hW (lv_sub hl [0, 1, 2, 3, 4] rfl)
set_option maxHeartbeats 4000000 in
set_option maxRecDepth 100000 in
/-- Row.tail -/
theorem c_X5_tail (l : Launch) (G : GG) (h : Nat) (bo : Nat) (no : Nat) (so : Nat) (M : Int) (L : Int) (g : Int → Int) (p : Int) (hL : 0 ≤ L ∧ L ≤ 2000) (hg : BD g) (hp : 1 ≤ p ∧ p ≤ L) : MRc l yX5_tail wsX5_tail 1 G [.ref h, .int (iI p)] [(h, .inr (4, [.ref bo, .ref no, .ref so, .int (iI M), .int (iI L)])), (no, .inl (G.2.1 0, 2000, .inl (iA g)))] (fun r => ∃ z : Int, r = some (.int (iI z)) ∧ (TailR g L p z) ∧ (-2147483648 ≤ z ∧ z ≤ 2147483647)) := by
  refine MRc.start (own := RX5) (by decide) rfl rfl (Nat.le_of_ble_eq_true rfl) ?_
  intro p9 e9 s9 m9 args below meth c9 A Q C hK hW hA hr hlocks hQ ls hl
  have hl : lv_has ls 3 [(0, .ref h), (1, .int (iI p))] := hl
  have hin5 : ∀ w ∈ wsX50, w ∈ wsX5_tail := by decide +kernel
  refine lv_aload_n C.1 C.2.1 dX5_tail_0 rfl (lv_at hl 0 rfl) ?_
  refine z_get C hK hW hin5 (v := .int (iI L)) 0 rfl rfl 4 (by decide) (C.2.2.2.2 (.fieldLink RX5 51 "TellingRows$Row" "length" "I") (List.mem_of_getElem? (i := 1) rfl)) (fun _ h9 => h9) rfl dX5_tail_1 ?_
  refine lv_iload_n C.1 C.2.1 dX5_tail_4 rfl (lv_at hl 1 rfl) ?_
  refine z_isub C dX5_tail_5 ?_
  refine lv_iconst (v := iI 0) C.1 C.2.1 dX5_tail_6 rfl ?_
  refine z_mmax C hl.1 (C.2.2.2.2 (.methodLink RX5 63 Lib.Math.max.name) (List.mem_of_getElem? (i := 2) rfl)) (C.2.2.2.2 (.static Lib.Math.max.name) (List.mem_of_getElem? (i := 3) rfl)) (C.2.2.2.2 (.initialized "java/lang/Math") (List.mem_of_getElem? (i := 4) rfl)) (C.2.2.2.2 (.code Lib.Math.max.name Lib.Math.max.code 2 (some .int)) (List.mem_of_getElem? (i := 5) rfl)) (Nat.le_of_ble_eq_true rfl) (Nat.le_of_ble_eq_true rfl) (Nat.zero_le _) (Nat.zero_le _) (by omega) dX5_tail_7 ?_
  refine lv_istore_n (lv' := [(2, .int (iI (max (L - p) 0))), (0, .ref h), (1, .int (iI p))]) C.1 C.2.1 dX5_tail_10 rfl hl (by decide) rfl (fun ls hl => ?_)
  have cut_11 : ∀ (n9 : Nat) (q : Int), (0 ≤ q ∧ q ≤ L - p) → (∀ j, q ≤ j → j < L - p → g j = g (j + p)) → (q < (n9 : Int)) → ∀ (ls : Array Slot), lv_has ls 3 [(2, .int (iI q)), (0, .ref h), (1, .int (iI p))] → W p9 l e9 (rmL 1) s9 m9 args below meth c9 s9.heap [] 0 0 Q (F0 m9 11 ls []) := by
    intro n9
    induction n9 with
    | zero => intro q hq he hmu; intros; exfalso; omega
    | succ n9 ih_11 =>
      intro q hq he hmu ls hl
      refine lv_iload_n C.1 C.2.1 dX5_tail_11 rfl (lv_at hl 0 rfl) ?_
      refine z_if_le (tgt := 40) C dX5_tail_12 (by decide) (by omega) (fun c_12 => ?_) (fun c_12 => ?_)
      ·
        refine lv_iload_n C.1 C.2.1 dX5_tail_40 rfl (lv_at hl 0 rfl) ?_
        rw [hQ]
        have hP9 : ∃ z : Int, (some (Value.int (iI q))) = some (.int (iI z)) ∧ (TailR g L p z) ∧ (-2147483648 ≤ z ∧ z ≤ 2147483647) := ⟨_, rfl, (by first | exact ⟨by omega, by omega, he, Or.inl (by omega)⟩ | exact ⟨by omega, by omega, he, Or.inr (by have h2 := hz_19_0 (by omega); have h3 := hz_28_0 (by omega); omega)⟩), (by first | omega | assumption | (intros; first | rfl | omega | assumption | (and_intros <;> first | rfl | omega | assumption)))⟩
        exact z_iretR C hr hlocks hP9 dX5_tail_41
      ·
        refine lv_aload_n C.1 C.2.1 dX5_tail_15 rfl (lv_at hl 1 rfl) ?_
        refine lv_iload_n C.1 C.2.1 dX5_tail_16 rfl (lv_at hl 0 rfl) ?_
        refine lv_iconst (v := iI 1) C.1 C.2.1 dX5_tail_17 rfl ?_
        refine z_isub C dX5_tail_18 ?_
        refine z_callR (va_runV (As := [.int (iI (q - 1))]) (rest := []) C (c_X5_numberAt l G h bo no so M L g (q - 1) hL hg (by first | omega | assumption | (intros; first | rfl | omega | assumption | (and_intros <;> first | rfl | omega | assumption))) s9.heap.size) (cwV 1 C.2.2.2.2 gX5_tail_X5_numberAt rfl rfl rfl (by decide +kernel) ⟨Nat.le_of_ble_eq_true rfl, Nat.le_of_ble_eq_true rfl⟩) (z_preV hK hW hA [0, 1] rfl (by decide) (ci := 4) (q0 := 0) rfl rfl) rfl rfl hl.1 rfl (lv_room (Nat.le_of_ble_eq_true rfl)) dX5_tail_19 ⟨Nat.zero_le _, Nat.zero_le _⟩) (fun r hp => ?_)
        have hp : ∃ z : Int, r = some (.int (iI z)) ∧ (0 ≤ (q - 1) ∧ (q - 1) < L → z = g (q - 1)) ∧ (¬ (0 ≤ (q - 1) ∧ (q - 1) < L) → z = -4) ∧ (-2147483648 ≤ z ∧ z ≤ 2147483647) := hp
        obtain ⟨z_19, rfl, hz_19_0, hz_19_1, hz_19_2⟩ := hp
        refine lv_aload_n C.1 C.2.1 dX5_tail_22 rfl (lv_at hl 1 rfl) ?_
        refine lv_iload_n C.1 C.2.1 dX5_tail_23 rfl (lv_at hl 0 rfl) ?_
        refine lv_iconst (v := iI 1) C.1 C.2.1 dX5_tail_24 rfl ?_
        refine z_isub C dX5_tail_25 ?_
        refine lv_iload_n C.1 C.2.1 dX5_tail_26 rfl (lv_at hl 2 rfl) ?_
        refine z_iadd C dX5_tail_27 ?_
        refine z_callR (va_runV (As := [.int (iI ((q - 1) + p))]) (rest := [.int (iI z_19)]) C (c_X5_numberAt l G h bo no so M L g ((q - 1) + p) hL hg (by first | omega | assumption | (intros; first | rfl | omega | assumption | (and_intros <;> first | rfl | omega | assumption))) s9.heap.size) (cwV 1 C.2.2.2.2 gX5_tail_X5_numberAt rfl rfl rfl (by decide +kernel) ⟨Nat.le_of_ble_eq_true rfl, Nat.le_of_ble_eq_true rfl⟩) (z_preV hK hW hA [0, 1] rfl (by decide) (ci := 4) (q0 := 0) rfl rfl) rfl rfl hl.1 rfl (lv_room (Nat.le_of_ble_eq_true rfl)) dX5_tail_28 ⟨Nat.zero_le _, Nat.zero_le _⟩) (fun r hp => ?_)
        have hp : ∃ z : Int, r = some (.int (iI z)) ∧ (0 ≤ ((q - 1) + p) ∧ ((q - 1) + p) < L → z = g ((q - 1) + p)) ∧ (¬ (0 ≤ ((q - 1) + p) ∧ ((q - 1) + p) < L) → z = -4) ∧ (-2147483648 ≤ z ∧ z ≤ 2147483647) := hp
        obtain ⟨z_28, rfl, hz_28_0, hz_28_1, hz_28_2⟩ := hp
        refine z_icmp_ne (tgt := 40) C dX5_tail_31 (by decide) (by omega) (fun c_31 => ?_) (fun c_31 => ?_)
        ·
          refine lv_iload_n C.1 C.2.1 dX5_tail_40 rfl (lv_at hl 0 rfl) ?_
          rw [hQ]
          have hP9 : ∃ z : Int, (some (Value.int (iI q))) = some (.int (iI z)) ∧ (TailR g L p z) ∧ (-2147483648 ≤ z ∧ z ≤ 2147483647) := ⟨_, rfl, (by first | exact ⟨by omega, by omega, he, Or.inl (by omega)⟩ | exact ⟨by omega, by omega, he, Or.inr (by have h2 := hz_19_0 (by omega); have h3 := hz_28_0 (by omega); omega)⟩), (by first | omega | assumption | (intros; first | rfl | omega | assumption | (and_intros <;> first | rfl | omega | assumption)))⟩
          exact z_iretR C hr hlocks hP9 dX5_tail_41
        ·
          refine lv_iinc (v := iI (q + (-1))) (lv' := [(2, .int (iI (q + (-1)))), (0, .ref h), (1, .int (iI p))]) C.1 C.2.1 dX5_tail_34 hl (k := 0) rfl (iI_add _ _) (by decide) rfl (fun ls hl => ?_)
          refine lv_goto (tgt := 11) C.1 C.2.1 dX5_tail_37 (by decide) ?_
          exact ih_11 (q + (-1)) (by first | omega | assumption | (intros; first | rfl | omega | assumption | (and_intros <;> first | rfl | omega | assumption))) (fun j h0 h1 => (Int.lt_or_le j q).elim (fun r => by have h2 := hz_19_0 (by omega); have h3 := hz_28_0 (by omega); rw [show j = q - 1 by omega]; omega) (fun r => he j r h1)) (by omega) _ (lv_sub hl [0, 1, 2] rfl)
  exact cut_11 (((max (L - p) 0) + 1 : Int)).toNat (max (L - p) 0) (by first | omega | assumption | (intros; first | rfl | omega | assumption | (and_intros <;> first | rfl | omega | assumption))) (fun j h0 h1 => by omega) (by omega) _ (lv_sub hl [0, 1, 2] rfl)
set_option maxHeartbeats 4000000 in
set_option maxRecDepth 100000 in
/-- Row.period -/
theorem c_X5_period (l : Launch) (G : GG) (h : Nat) (bo : Nat) (no : Nat) (so : Nat) (M : Int) (L : Int) (g : Int → Int) (hL : 0 ≤ L ∧ L ≤ 2000) (hg : BD g) : MRc l yX5_period wsX5_period 2 G [.ref h] [(h, .inr (4, [.ref bo, .ref no, .ref so, .int (iI M), .int (iI L)])), (no, .inl (G.2.1 0, 2000, .inl (iA g)))] (fun r => ∃ z : Int, r = some (.int (iI z)) ∧ (PerR g L z) ∧ (-2147483648 ≤ z ∧ z ≤ 2147483647)) := by
  refine MRc.start (own := RX5) (by decide) rfl rfl (Nat.le_of_ble_eq_true rfl) ?_
  intro p9 e9 s9 m9 args below meth c9 A Q C hK hW hA hr hlocks hQ ls hl
  have hl : lv_has ls 2 [(0, .ref h)] := hl
  have hin5 : ∀ w ∈ wsX50, w ∈ wsX5_period := by decide +kernel
  refine lv_iconst (v := iI 1) C.1 C.2.1 dX5_period_0 rfl ?_
  refine lv_istore_n (lv' := [(1, .int (iI 1)), (0, .ref h)]) C.1 C.2.1 dX5_period_1 rfl hl (by decide) rfl (fun ls hl => ?_)
  have cut_2 : ∀ (n9 : Nat) (p : Int), (1 ≤ p ∧ p ≤ 601) → (∀ q, q < p → ¬ GoesR g L q) → (601 - p < (n9 : Int)) → ∀ (ls : Array Slot), lv_has ls 2 [(1, .int (iI p)), (0, .ref h)] → W p9 l e9 (rmL 2) s9 m9 args below meth c9 s9.heap [] 0 0 Q (F0 m9 2 ls []) := by
    intro n9
    induction n9 with
    | zero => intro p hp he hmu; intros; exfalso; omega
    | succ n9 ih_2 =>
      intro p hp he hmu ls hl
      refine lv_iload_n C.1 C.2.1 dX5_period_2 rfl (lv_at hl 0 rfl) ?_
      refine lv_sipush (v := iI 600) C.1 C.2.1 dX5_period_3 (by decide +kernel) ?_
      refine z_icmp_gt (tgt := 43) C dX5_period_6 (by decide) (by omega) (fun c_6 => ?_) (fun c_6 => ?_)
      ·
        refine lv_bipush (v := iI (-4)) C.1 C.2.1 dX5_period_43 (by decide +kernel) ?_
        rw [hQ]
        have hP9 : ∃ z : Int, (some (Value.int (iI (-4)))) = some (.int (iI z)) ∧ (PerR g L z) ∧ (-2147483648 ≤ z ∧ z ≤ 2147483647) := ⟨_, rfl, (Or.inr ⟨rfl, fun q h9 => (Int.lt_or_le q p).elim (fun r => he q r h9) (fun r => by obtain ⟨y1, y2, x, x1, x2⟩ := h9; have := x1.1; omega)⟩), (by first | omega | assumption | (intros; first | rfl | omega | assumption | (and_intros <;> first | rfl | omega | assumption)))⟩
        exact z_iretR C hr hlocks hP9 dX5_period_45
      ·
        refine lv_iconst (v := iI 3) C.1 C.2.1 dX5_period_9 rfl ?_
        refine lv_iload_n C.1 C.2.1 dX5_period_10 rfl (lv_at hl 0 rfl) ?_
        refine z_imul C dX5_period_11 ?_
        refine lv_aload_n C.1 C.2.1 dX5_period_12 rfl (lv_at hl 1 rfl) ?_
        refine z_get C hK hW hin5 (v := .int (iI L)) 0 rfl rfl 4 (by decide) (C.2.2.2.2 (.fieldLink RX5 51 "TellingRows$Row" "length" "I") (List.mem_of_getElem? (i := 1) rfl)) (fun _ h9 => h9) rfl dX5_period_13 ?_
        refine z_icmp_gt (tgt := 43) C dX5_period_16 (by decide) (by omega) (fun c_16 => ?_) (fun c_16 => ?_)
        ·
          refine lv_bipush (v := iI (-4)) C.1 C.2.1 dX5_period_43 (by decide +kernel) ?_
          rw [hQ]
          have hP9 : ∃ z : Int, (some (Value.int (iI (-4)))) = some (.int (iI z)) ∧ (PerR g L z) ∧ (-2147483648 ≤ z ∧ z ≤ 2147483647) := ⟨_, rfl, (Or.inr ⟨rfl, fun q h9 => (Int.lt_or_le q p).elim (fun r => he q r h9) (fun r => by obtain ⟨y1, y2, x, x1, x2⟩ := h9; have := x1.1; omega)⟩), (by first | omega | assumption | (intros; first | rfl | omega | assumption | (and_intros <;> first | rfl | omega | assumption)))⟩
          exact z_iretR C hr hlocks hP9 dX5_period_45
        ·
          refine lv_aload_n C.1 C.2.1 dX5_period_19 rfl (lv_at hl 1 rfl) ?_
          refine z_get C hK hW hin5 (v := .int (iI L)) 0 rfl rfl 4 (by decide) (C.2.2.2.2 (.fieldLink RX5 51 "TellingRows$Row" "length" "I") (List.mem_of_getElem? (i := 1) rfl)) (fun _ h9 => h9) rfl dX5_period_20 ?_
          refine lv_aload_n C.1 C.2.1 dX5_period_23 rfl (lv_at hl 1 rfl) ?_
          refine lv_iload_n C.1 C.2.1 dX5_period_24 rfl (lv_at hl 0 rfl) ?_
          refine z_callR (va_runV (As := [.int (iI p)]) (rest := [.int (iI L)]) C (c_X5_tail l G h bo no so M L g p hL hg (by first | omega | assumption | (intros; first | rfl | omega | assumption | (and_intros <;> first | rfl | omega | assumption))) s9.heap.size) (cwV 1 C.2.2.2.2 gX5_period_X5_tail rfl rfl rfl (by decide +kernel) ⟨Nat.le_of_ble_eq_true rfl, Nat.le_of_ble_eq_true rfl⟩) (z_preV hK hW hA [0, 1] rfl (by decide) (ci := 4) (q0 := 0) rfl rfl) rfl rfl hl.1 rfl (lv_room (Nat.le_of_ble_eq_true rfl)) dX5_period_25 ⟨Nat.zero_le _, Nat.zero_le _⟩) (fun r hp => ?_)
          have hp : ∃ z : Int, r = some (.int (iI z)) ∧ (TailR g L p z) ∧ (-2147483648 ≤ z ∧ z ≤ 2147483647) := hp
          obtain ⟨z_25, rfl, hz_25_0, hz_25_1⟩ := hp
          have hq25 : 0 ≤ z_25 ∧ z_25 ≤ L - p := ⟨hz_25_0.1, hz_25_0.2.1⟩
          refine z_isub C dX5_period_28 ?_
          refine lv_iconst (v := iI 3) C.1 C.2.1 dX5_period_29 rfl ?_
          refine lv_iload_n C.1 C.2.1 dX5_period_30 rfl (lv_at hl 0 rfl) ?_
          refine z_imul C dX5_period_31 ?_
          refine z_icmp_lt (tgt := 37) C dX5_period_32 (by decide) (by omega) (fun c_32 => ?_) (fun c_32 => ?_)
          ·
            refine lv_iinc (v := iI (p + 1)) (lv' := [(1, .int (iI (p + 1))), (0, .ref h)]) C.1 C.2.1 dX5_period_37 hl (k := 0) rfl (iI_add _ _) (by decide) rfl (fun ls hl => ?_)
            refine lv_goto (tgt := 2) C.1 C.2.1 dX5_period_40 (by decide) ?_
            exact ih_2 (p + 1) (by first | omega | assumption | (intros; first | rfl | omega | assumption | (and_intros <;> first | rfl | omega | assumption))) (fun q h0 h1 => (Int.lt_or_le q p).elim (fun r => he q r h1) (fun r => by have hqp : q = p := (by omega); subst hqp; obtain ⟨_, _, x, x1, x2⟩ := h1; rw [TailR_fun hz_25_0 x1] at c_32; omega)) (by omega) _ (lv_sub hl [0, 1] rfl)
          ·
            refine lv_iload_n C.1 C.2.1 dX5_period_35 rfl (lv_at hl 0 rfl) ?_
            rw [hQ]
            have hP9 : ∃ z : Int, (some (Value.int (iI p))) = some (.int (iI z)) ∧ (PerR g L z) ∧ (-2147483648 ≤ z ∧ z ≤ 2147483647) := ⟨_, rfl, (Or.inl ⟨⟨by omega, by omega, z_25, hz_25_0, by omega⟩, he⟩), (by first | omega | assumption | (intros; first | rfl | omega | assumption | (and_intros <;> first | rfl | omega | assumption)))⟩
            exact z_iretR C hr hlocks hP9 dX5_period_36
  exact cut_2 (((601 - 1) + 1 : Int)).toNat 1 (by first | omega | assumption | (intros; first | rfl | omega | assumption | (and_intros <;> first | rfl | omega | assumption))) (fun q h0 h1 => by have := h1.1; omega) (by omega) _ (lv_sub hl [0, 1] rfl)
