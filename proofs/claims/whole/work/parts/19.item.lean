set_option maxHeartbeats 4000000 in
set_option maxRecDepth 100000 in
/-- Item.end -/
theorem c_X1_end (l : Launch) (G : GG) (h : Nat) (rs : Nat) (bs : Nat) (en : Int) : MRc l yX1_end wsX1_end 0 G [.ref h] [(h, .inr (0, [.ref rs, .ref bs, .int (iI en)]))] (fun r => ∃ z : Int, r = some (.int (iI z)) ∧ (z = en)) := by
  refine MRc.start (own := RX1) (by decide) rfl rfl (Nat.le_of_ble_eq_true rfl) ?_
  intro p9 e9 s9 m9 args below meth c9 A Q C hK hW hA hr hlocks hQ ls hl
  have hl : lv_has ls 1 [(0, .ref h)] := hl
  have hin1 : ∀ w ∈ wsX10, w ∈ wsX1_end := by decide +kernel
  refine lv_aload_n C.1 C.2.1 dX1_end_0 rfl (lv_at hl 0 rfl) ?_
  refine z_get C hK hW hin1 (v := .int (iI en)) 0 rfl rfl 2 (by decide) (C.2.2.2.2 (.fieldLink RX1 23 "TellingRows$Item" "end" "I") (List.mem_of_getElem? (i := 1) rfl)) (fun _ h9 => h9) rfl dX1_end_1 ?_
  rw [hQ]
  have hP9 : ∃ z : Int, (some (Value.int (iI en))) = some (.int (iI z)) ∧ (z = en) := ⟨_, rfl, (by first | omega | assumption | (intros; first | rfl | omega | assumption | (and_intros <;> first | rfl | omega | assumption)))⟩
  exact z_iretR C hr hlocks hP9 dX1_end_4
set_option maxHeartbeats 4000000 in
set_option maxRecDepth 100000 in
/-- Item.register -/
theorem c_X1_register (l : Launch) (G : GG) (h : Nat) (rs : Nat) (ra : Nat) (bs : Nat) (en : Int) (rn : Int) (rf : Int → Int) (hrn : 0 ≤ rn ∧ rn ≤ 8) (hrf : BD rf) : MRc l yX1_register wsX1_register 1 G [.ref h] [(h, .inr (0, [.ref rs, .ref bs, .int (iI en)])), (rs, .inr (5, [.ref ra, .int (iI rn)])), (ra, .inl (G.2.1 0, 8, .inl (iA rf)))] (fun r => ∃ z : Int, r = some (.int (iI z)) ∧ (0 < rn → z = rf 0) ∧ (rn ≤ 0 → z = -4) ∧ (-2147483648 ≤ z ∧ z ≤ 2147483647)) := by
  refine MRc.start (own := RX1) (by decide) rfl rfl (Nat.le_of_ble_eq_true rfl) ?_
  intro p9 e9 s9 m9 args below meth c9 A Q C hK hW hA hr hlocks hQ ls hl
  have hl : lv_has ls 1 [(0, .ref h)] := hl
  have hin1 : ∀ w ∈ wsX10, w ∈ wsX1_register := by decide +kernel
  have hin6 : ∀ w ∈ wsX60, w ∈ wsX1_register := by decide +kernel
  refine lv_aload_n C.1 C.2.1 dX1_register_0 rfl (lv_at hl 0 rfl) ?_
  refine z_get C hK hW hin1 (v := .ref rs) 0 rfl rfl 0 (by decide) (C.2.2.2.2 (.fieldLink RX1 14 "TellingRows$Item" "read" "LTellingRows$Sequence;") (List.mem_of_getElem? (i := 1) rfl)) (fun _ h9 => h9) rfl dX1_register_1 ?_
  refine lv_iconst (v := iI 0) C.1 C.2.1 dX1_register_4 rfl ?_
  refine z_callR (va_runV (As := [.int (iI 0)]) (rest := []) C (c_X6_get l G rs ra 8 rn rf 0 (by first | omega | assumption | (intros; first | rfl | omega | assumption | (and_intros <;> first | rfl | omega | assumption))) (by first | omega | assumption | (intros; first | rfl | omega | assumption | (and_intros <;> first | rfl | omega | assumption))) hrf (by first | omega | assumption | (intros; first | rfl | omega | assumption | (and_intros <;> first | rfl | omega | assumption))) s9.heap.size) (cwV 1 C.2.2.2.2 gX1_register_X6_get rfl rfl rfl (by decide +kernel) ⟨Nat.le_of_ble_eq_true rfl, Nat.le_of_ble_eq_true rfl⟩) (z_preV hK hW hA [1, 2] rfl (by decide) (ci := 5) (q0 := 1) rfl rfl) rfl rfl hl.1 rfl (lv_room (Nat.le_of_ble_eq_true rfl)) dX1_register_5 ⟨Nat.zero_le _, Nat.zero_le _⟩) (fun r hp => ?_)
  have hp : ∃ z : Int, r = some (.int (iI z)) ∧ ((0 ≤ (0 : Int) ∧ (0 : Int) < rn → z = rf (0 : Int))) ∧ ((¬ (0 ≤ (0 : Int) ∧ (0 : Int) < rn) → z = -4)) ∧ (-2147483648 ≤ z ∧ z ≤ 2147483647) := hp
  obtain ⟨z_5, rfl, hz_5_0, hz_5_1, hz_5_2⟩ := hp
  rw [hQ]
  have hP9 : ∃ z : Int, (some (Value.int (iI z_5))) = some (.int (iI z)) ∧ (0 < rn → z = rf 0) ∧ (rn ≤ 0 → z = -4) ∧ (-2147483648 ≤ z ∧ z ≤ 2147483647) := ⟨_, rfl, (fun q9 => hz_5_0 (by omega)), (fun q9 => hz_5_1 (by omega)), hz_5_2⟩
  exact z_iretR C hr hlocks hP9 dX1_register_8
set_option maxHeartbeats 4000000 in
set_option maxRecDepth 100000 in
/-- Item.sort -/
theorem c_X1_sort (l : Launch) (G : GG) (h : Nat) (rs : Nat) (ra : Nat) (bs : Nat) (en : Int) (rn : Int) (rf : Int → Int) (hrn : 0 ≤ rn ∧ rn ≤ 8) (hrf : BD rf) : MRc l yX1_sort wsX1_sort 1 G [.ref h] [(h, .inr (0, [.ref rs, .ref bs, .int (iI en)])), (rs, .inr (5, [.ref ra, .int (iI rn)])), (ra, .inl (G.2.1 0, 8, .inl (iA rf)))] (fun r => ((r = some .null ∧ ¬ (1 < rn ∧ 0 ≤ rf 1 ∧ rf 1 < 7)) ∨ (r = some (.ref (G.2.2 (rf 1).toNat)) ∧ (1 < rn ∧ 0 ≤ rf 1 ∧ rf 1 < 7)))) := by
  refine MRc.start (own := RX1) (by decide) rfl rfl (Nat.le_of_ble_eq_true rfl) ?_
  intro p9 e9 s9 m9 args below meth c9 A Q C hK hW hA hr hlocks hQ ls hl
  have hl : lv_has ls 2 [(0, .ref h)] := hl
  have hin1 : ∀ w ∈ wsX10, w ∈ wsX1_sort := by decide +kernel
  have hin6 : ∀ w ∈ wsX60, w ∈ wsX1_sort := by decide +kernel
  refine lv_aload_n C.1 C.2.1 dX1_sort_0 rfl (lv_at hl 0 rfl) ?_
  refine z_get C hK hW hin1 (v := .ref rs) 0 rfl rfl 0 (by decide) (C.2.2.2.2 (.fieldLink RX1 14 "TellingRows$Item" "read" "LTellingRows$Sequence;") (List.mem_of_getElem? (i := 1) rfl)) (fun _ h9 => h9) rfl dX1_sort_1 ?_
  refine lv_iconst (v := iI 1) C.1 C.2.1 dX1_sort_4 rfl ?_
  refine z_callR (va_runV (As := [.int (iI 1)]) (rest := []) C (c_X6_get l G rs ra 8 rn rf 1 (by first | omega | assumption | (intros; first | rfl | omega | assumption | (and_intros <;> first | rfl | omega | assumption))) (by first | omega | assumption | (intros; first | rfl | omega | assumption | (and_intros <;> first | rfl | omega | assumption))) hrf (by first | omega | assumption | (intros; first | rfl | omega | assumption | (and_intros <;> first | rfl | omega | assumption))) s9.heap.size) (cwV 1 C.2.2.2.2 gX1_sort_X6_get rfl rfl rfl (by decide +kernel) ⟨Nat.le_of_ble_eq_true rfl, Nat.le_of_ble_eq_true rfl⟩) (z_preV hK hW hA [1, 2] rfl (by decide) (ci := 5) (q0 := 1) rfl rfl) rfl rfl hl.1 rfl (lv_room (Nat.le_of_ble_eq_true rfl)) dX1_sort_5 ⟨Nat.zero_le _, Nat.zero_le _⟩) (fun r hp => ?_)
  have hp : ∃ z : Int, r = some (.int (iI z)) ∧ ((0 ≤ (1 : Int) ∧ (1 : Int) < rn → z = rf (1 : Int))) ∧ ((¬ (0 ≤ (1 : Int) ∧ (1 : Int) < rn) → z = -4)) ∧ (-2147483648 ≤ z ∧ z ≤ 2147483647) := hp
  obtain ⟨z_5, rfl, hz_5_0, hz_5_1, hz_5_2⟩ := hp
  have h5 : 1 < rn → z_5 = rf 1 := fun q9 => hz_5_0 (by omega)
  refine lv_istore_n (lv' := [(1, .int (iI z_5)), (0, .ref h)]) C.1 C.2.1 dX1_sort_8 rfl hl (by decide) rfl (fun ls hl => ?_)
  refine lv_iload_n C.1 C.2.1 dX1_sort_9 rfl (lv_at hl 0 rfl) ?_
  refine z_if_lt (tgt := 29) C dX1_sort_10 (by decide) (by omega) (fun c_10 => ?_) (fun c_10 => ?_)
  ·
    refine lv_null C.1 C.2.1 dX1_sort_29 ?_
    rw [hQ]
    have hP9 : (((some Value.null) = some .null ∧ ¬ (1 < rn ∧ 0 ≤ rf 1 ∧ rf 1 < 7)) ∨ ((some Value.null) = some (.ref (G.2.2 (rf 1).toNat)) ∧ (1 < rn ∧ 0 ≤ rf 1 ∧ rf 1 < 7))) := (by first | exact Or.inr ⟨by rw [h5 (by omega)], by have := h5 (by omega); omega⟩ | exact Or.inl ⟨rfl, fun q9 => by have := h5 q9.1; omega⟩)
    exact z_aretR C hr (Or.inl ⟨_, rfl⟩) (Or.inl rfl) hlocks hP9 dX1_sort_30
  ·
    refine lv_iload_n C.1 C.2.1 dX1_sort_13 rfl (lv_at hl 0 rfl) ?_
    refine z_sorts C hK hW (nw_f_RX1_31 hK.2.1) (fun _ h9 => h9) dX1_sort_14 ?_
    refine z_sortsLen C hK hW dX1_sort_17 ?_
    refine z_icmp_ge (tgt := 29) C dX1_sort_18 (by decide) (by omega) (fun c_18 => ?_) (fun c_18 => ?_)
    ·
      refine lv_null C.1 C.2.1 dX1_sort_29 ?_
      rw [hQ]
      have hP9 : (((some Value.null) = some .null ∧ ¬ (1 < rn ∧ 0 ≤ rf 1 ∧ rf 1 < 7)) ∨ ((some Value.null) = some (.ref (G.2.2 (rf 1).toNat)) ∧ (1 < rn ∧ 0 ≤ rf 1 ∧ rf 1 < 7))) := (by first | exact Or.inr ⟨by rw [h5 (by omega)], by have := h5 (by omega); omega⟩ | exact Or.inl ⟨rfl, fun q9 => by have := h5 q9.1; omega⟩)
      exact z_aretR C hr (Or.inl ⟨_, rfl⟩) (Or.inl rfl) hlocks hP9 dX1_sort_30
    ·
      refine z_sorts C hK hW (nw_f_RX1_31 hK.2.1) (fun _ h9 => h9) dX1_sort_21 ?_
      refine lv_iload_n C.1 C.2.1 dX1_sort_24 rfl (lv_at hl 0 rfl) ?_
      refine z_sortsAt C hK hW (by omega) dX1_sort_25 ?_
      refine lv_goto (tgt := 30) C.1 C.2.1 dX1_sort_26 (by decide) ?_
      rw [hQ]
      have hP9 : (((some (Value.ref (G.2.2 z_5.toNat))) = some .null ∧ ¬ (1 < rn ∧ 0 ≤ rf 1 ∧ rf 1 < 7)) ∨ ((some (Value.ref (G.2.2 z_5.toNat))) = some (.ref (G.2.2 (rf 1).toNat)) ∧ (1 < rn ∧ 0 ≤ rf 1 ∧ rf 1 < 7))) := (by first | exact Or.inr ⟨by rw [h5 (by omega)], by have := h5 (by omega); omega⟩ | exact Or.inl ⟨rfl, fun q9 => by have := h5 q9.1; omega⟩)
      exact z_aretR C hr (Or.inl ⟨_, rfl⟩) (Or.inr ⟨_, rfl⟩) hlocks hP9 dX1_sort_30
set_option maxHeartbeats 4000000 in
set_option maxRecDepth 100000 in
/-- Sort.allows -/
theorem c_X7_allows (l : Launch) (G : GG) (i : Nat) (h : Nat) (a : Nat) (N : Nat) (n : Int) (f : Int → Int) (hi : i < 7) (hN : N ≤ 2147483647) (hn : 0 ≤ n ∧ n ≤ (N : Int)) (hf : BD f) : MRc l yX7_allows wsX7_allows 1 G [.ref (G.2.2 i), .ref h] [(h, .inr (5, [.ref a, .int (iI n)])), (a, .inl (G.2.1 0, N, .inl (iA f)))] (fun r => ∃ z : Int, r = some (.int (iI z)) ∧ ((z = 1 ∧ AllowsR i n f) ∨ (z = 0 ∧ ¬ AllowsR i n f))) := by
  refine MRc.start (own := RX7) (by decide) rfl rfl (Nat.le_of_ble_eq_true rfl) ?_
  intro p9 e9 s9 m9 args below meth c9 A Q C hK hW hA hr hlocks hQ ls hl
  have hl : lv_has ls 3 [(0, .ref (G.2.2 i)), (1, .ref h)] := hl
  have hin6 : ∀ w ∈ wsX60, w ∈ wsX7_allows := by decide +kernel
  have q1 := sFew_b i hi
  have q2 := sMost_b i hi
  have q3 := sLow_b i hi
  have q4 := sHigh_b i hi
  refine lv_aload_n C.1 C.2.1 dX7_allows_0 rfl (lv_at hl 1 rfl) ?_
  refine z_callR (va_runV (As := []) (rest := []) C (c_X6_size l G h a N n f  s9.heap.size) (cwV 0 C.2.2.2.2 gX7_allows_X6_size rfl rfl rfl (by decide +kernel) ⟨Nat.le_of_ble_eq_true rfl, Nat.le_of_ble_eq_true rfl⟩) (z_preV hK hW hA [0, 1] rfl (by decide) (ci := 5) (q0 := 0) rfl rfl) rfl rfl hl.1 rfl (lv_room (Nat.le_of_ble_eq_true rfl)) dX7_allows_1 ⟨Nat.zero_le _, Nat.zero_le _⟩) (fun r hp => ?_)
  have hp : ∃ z : Int, r = some (.int (iI z)) ∧ (z = n) := hp
  obtain ⟨z_1, rfl, hz_1_0⟩ := hp
  refine lv_aload_n C.1 C.2.1 dX7_allows_4 rfl (lv_at hl 0 rfl) ?_
  refine z_gete C hK hW (i := i) (by omega) (z := sFew i) (List.mem_of_getElem? (i := 2) rfl) (C.2.2.2.2 (.fieldLink RX7 48 "TellingRows$Sort" "fewest" "I") (List.mem_of_getElem? (i := 1) rfl)) (fun _ h9 => h9) (sFew_ok _ (by omega)) dX7_allows_5 ?_
  refine z_icmp_lt (tgt := 22) C dX7_allows_8 (by decide) (by omega) (fun c_8 => ?_) (fun c_8 => ?_)
  ·
    refine lv_iconst (v := iI 0) C.1 C.2.1 dX7_allows_22 rfl ?_
    rw [hQ]
    have hP9 : ∃ z : Int, (some (Value.int (iI 0))) = some (.int (iI z)) ∧ ((z = 1 ∧ AllowsR i n f) ∨ (z = 0 ∧ ¬ AllowsR i n f)) := ⟨_, rfl, (Or.inr ⟨rfl, fun q9 => by have h1 := q9.1; have h2 := q9.2.1; omega⟩)⟩
    exact z_zretR C hr rfl hlocks hP9 dX7_allows_23
  ·
    refine lv_aload_n C.1 C.2.1 dX7_allows_11 rfl (lv_at hl 1 rfl) ?_
    refine z_callR (va_runV (As := []) (rest := []) C (c_X6_size l G h a N n f  s9.heap.size) (cwV 0 C.2.2.2.2 gX7_allows_X6_size rfl rfl rfl (by decide +kernel) ⟨Nat.le_of_ble_eq_true rfl, Nat.le_of_ble_eq_true rfl⟩) (z_preV hK hW hA [0, 1] rfl (by decide) (ci := 5) (q0 := 0) rfl rfl) rfl rfl hl.1 rfl (lv_room (Nat.le_of_ble_eq_true rfl)) dX7_allows_12 ⟨Nat.zero_le _, Nat.zero_le _⟩) (fun r hp => ?_)
    have hp : ∃ z : Int, r = some (.int (iI z)) ∧ (z = n) := hp
    obtain ⟨z_12, rfl, hz_12_0⟩ := hp
    refine lv_aload_n C.1 C.2.1 dX7_allows_15 rfl (lv_at hl 0 rfl) ?_
    refine z_gete C hK hW (i := i) (by omega) (z := sMost i) (List.mem_of_getElem? (i := 3) rfl) (C.2.2.2.2 (.fieldLink RX7 51 "TellingRows$Sort" "most" "I") (List.mem_of_getElem? (i := 2) rfl)) (fun _ h9 => h9) (sMost_ok _ (by omega)) dX7_allows_16 ?_
    refine z_icmp_le (tgt := 24) C dX7_allows_19 (by decide) (by omega) (fun c_19 => ?_) (fun c_19 => ?_)
    ·
      refine lv_iconst (v := iI 0) C.1 C.2.1 dX7_allows_24 rfl ?_
      refine lv_istore_n (lv' := [(2, .int (iI 0)), (0, .ref (G.2.2 i)), (1, .ref h)]) C.1 C.2.1 dX7_allows_25 rfl hl (by decide) rfl (fun ls hl => ?_)
      have cut_26 : ∀ (n9 : Nat) (j : Int), (0 ≤ j ∧ j ≤ n) → (∀ x, 0 ≤ x → x < j → sLow i ≤ f x ∧ f x ≤ sHigh i) → (n - j < (n9 : Int)) → ∀ (ls : Array Slot), lv_has ls 3 [(2, .int (iI j)), (0, .ref (G.2.2 i)), (1, .ref h)] → W p9 l e9 (rmL 1) s9 m9 args below meth c9 s9.heap [] 0 0 Q (F0 m9 26 ls []) := by
        intro n9
        induction n9 with
        | zero => intro j hj he hmu; intros; exfalso; omega
        | succ n9 ih_26 =>
          intro j hj he hmu ls hl
          refine lv_iload_n C.1 C.2.1 dX7_allows_26 rfl (lv_at hl 0 rfl) ?_
          refine lv_aload_n C.1 C.2.1 dX7_allows_27 rfl (lv_at hl 2 rfl) ?_
          refine z_callR (va_runV (As := []) (rest := [.int (iI j)]) C (c_X6_size l G h a N n f  s9.heap.size) (cwV 0 C.2.2.2.2 gX7_allows_X6_size rfl rfl rfl (by decide +kernel) ⟨Nat.le_of_ble_eq_true rfl, Nat.le_of_ble_eq_true rfl⟩) (z_preV hK hW hA [0, 1] rfl (by decide) (ci := 5) (q0 := 0) rfl rfl) rfl rfl hl.1 rfl (lv_room (Nat.le_of_ble_eq_true rfl)) dX7_allows_28 ⟨Nat.zero_le _, Nat.zero_le _⟩) (fun r hp => ?_)
          have hp : ∃ z : Int, r = some (.int (iI z)) ∧ (z = n) := hp
          obtain ⟨z_28, rfl, hz_28_0⟩ := hp
          refine z_icmp_ge (tgt := 66) C dX7_allows_31 (by decide) (by omega) (fun c_31 => ?_) (fun c_31 => ?_)
          ·
            refine lv_aload_n C.1 C.2.1 dX7_allows_66 rfl (lv_at hl 1 rfl) ?_
            refine z_getse C hK hW 4 (by decide) rfl (C.2.2.2.2 (.fieldLink RX7 16 "TellingRows$Sort" "SUMS" "LTellingRows$Sort;") (List.mem_of_getElem? (i := 5) rfl)) (fun _ h9 => h9) dX7_allows_67 ?_
            refine z_acmpE_ne C hK (by omega) (by omega) (tgt := 86) dX7_allows_70 (by decide) (fun c_70 => ?_) (fun c_70 => ?_)
            ·
              refine lv_iconst (v := iI 1) C.1 C.2.1 dX7_allows_86 rfl ?_
              refine lv_goto (tgt := 91) C.1 C.2.1 dX7_allows_87 (by decide) ?_
              rw [hQ]
              have hP9 : ∃ z : Int, (some (Value.int (iI 1))) = some (.int (iI z)) ∧ ((z = 1 ∧ AllowsR i n f) ∨ (z = 0 ∧ ¬ AllowsR i n f)) := ⟨_, rfl, (by have hn4 : i = 4 → 2 ≤ n := (fun q9 => by subst q9; have : sFew 4 = 2 := rfl; omega); first | exact Or.inl ⟨rfl, by omega, by omega, fun x x0 x1 => he x x0 (by omega), fun q9 => by first | exact absurd q9 c_70 | (have h1 := hz_75_0 (by omega); have h2 := hz_80_0 (by omega); omega)⟩ | exact Or.inr ⟨rfl, fun q9 => by have h0 := q9.2.2.2 c_70; have h1 := hz_75_0 (by omega); have h2 := hz_80_0 (by omega); omega⟩)⟩
              exact z_zretR C hr rfl hlocks hP9 dX7_allows_91
            ·
              refine lv_aload_n C.1 C.2.1 dX7_allows_73 rfl (lv_at hl 2 rfl) ?_
              refine lv_iconst (v := iI 1) C.1 C.2.1 dX7_allows_74 rfl ?_
              refine z_callR (va_runV (As := [.int (iI 1)]) (rest := []) C (c_X6_get l G h a N n f 1 hN hn hf (by first | omega | assumption | (intros; first | rfl | omega | assumption | (and_intros <;> first | rfl | omega | assumption))) s9.heap.size) (cwV 1 C.2.2.2.2 gX7_allows_X6_get rfl rfl rfl (by decide +kernel) ⟨Nat.le_of_ble_eq_true rfl, Nat.le_of_ble_eq_true rfl⟩) (z_preV hK hW hA [0, 1] rfl (by decide) (ci := 5) (q0 := 0) rfl rfl) rfl rfl hl.1 rfl (lv_room (Nat.le_of_ble_eq_true rfl)) dX7_allows_75 ⟨Nat.zero_le _, Nat.zero_le _⟩) (fun r hp => ?_)
              have hp : ∃ z : Int, r = some (.int (iI z)) ∧ ((0 ≤ (1 : Int) ∧ (1 : Int) < n → z = f (1 : Int))) ∧ ((¬ (0 ≤ (1 : Int) ∧ (1 : Int) < n) → z = -4)) ∧ (-2147483648 ≤ z ∧ z ≤ 2147483647) := hp
              obtain ⟨z_75, rfl, hz_75_0, hz_75_1, hz_75_2⟩ := hp
              refine lv_aload_n C.1 C.2.1 dX7_allows_78 rfl (lv_at hl 2 rfl) ?_
              refine lv_iconst (v := iI 0) C.1 C.2.1 dX7_allows_79 rfl ?_
              refine z_callR (va_runV (As := [.int (iI 0)]) (rest := [.int (iI z_75)]) C (c_X6_get l G h a N n f 0 hN hn hf (by first | omega | assumption | (intros; first | rfl | omega | assumption | (and_intros <;> first | rfl | omega | assumption))) s9.heap.size) (cwV 1 C.2.2.2.2 gX7_allows_X6_get rfl rfl rfl (by decide +kernel) ⟨Nat.le_of_ble_eq_true rfl, Nat.le_of_ble_eq_true rfl⟩) (z_preV hK hW hA [0, 1] rfl (by decide) (ci := 5) (q0 := 0) rfl rfl) rfl rfl hl.1 rfl (lv_room (Nat.le_of_ble_eq_true rfl)) dX7_allows_80 ⟨Nat.zero_le _, Nat.zero_le _⟩) (fun r hp => ?_)
              have hp : ∃ z : Int, r = some (.int (iI z)) ∧ ((0 ≤ (0 : Int) ∧ (0 : Int) < n → z = f (0 : Int))) ∧ ((¬ (0 ≤ (0 : Int) ∧ (0 : Int) < n) → z = -4)) ∧ (-2147483648 ≤ z ∧ z ≤ 2147483647) := hp
              obtain ⟨z_80, rfl, hz_80_0, hz_80_1, hz_80_2⟩ := hp
              refine z_icmp_le (tgt := 90) C dX7_allows_83 (by decide) (by omega) (fun c_83 => ?_) (fun c_83 => ?_)
              ·
                refine lv_iconst (v := iI 0) C.1 C.2.1 dX7_allows_90 rfl ?_
                rw [hQ]
                have hP9 : ∃ z : Int, (some (Value.int (iI 0))) = some (.int (iI z)) ∧ ((z = 1 ∧ AllowsR i n f) ∨ (z = 0 ∧ ¬ AllowsR i n f)) := ⟨_, rfl, (by have hn4 : i = 4 → 2 ≤ n := (fun q9 => by subst q9; have : sFew 4 = 2 := rfl; omega); first | exact Or.inl ⟨rfl, by omega, by omega, fun x x0 x1 => he x x0 (by omega), fun q9 => by first | exact absurd q9 c_70 | (have h1 := hz_75_0 (by omega); have h2 := hz_80_0 (by omega); omega)⟩ | exact Or.inr ⟨rfl, fun q9 => by have h0 := q9.2.2.2 c_70; have h1 := hz_75_0 (by omega); have h2 := hz_80_0 (by omega); omega⟩)⟩
                exact z_zretR C hr rfl hlocks hP9 dX7_allows_91
              ·
                refine lv_iconst (v := iI 1) C.1 C.2.1 dX7_allows_86 rfl ?_
                refine lv_goto (tgt := 91) C.1 C.2.1 dX7_allows_87 (by decide) ?_
                rw [hQ]
                have hP9 : ∃ z : Int, (some (Value.int (iI 1))) = some (.int (iI z)) ∧ ((z = 1 ∧ AllowsR i n f) ∨ (z = 0 ∧ ¬ AllowsR i n f)) := ⟨_, rfl, (by have hn4 : i = 4 → 2 ≤ n := (fun q9 => by subst q9; have : sFew 4 = 2 := rfl; omega); first | exact Or.inl ⟨rfl, by omega, by omega, fun x x0 x1 => he x x0 (by omega), fun q9 => by first | exact absurd q9 c_70 | (have h1 := hz_75_0 (by omega); have h2 := hz_80_0 (by omega); omega)⟩ | exact Or.inr ⟨rfl, fun q9 => by have h0 := q9.2.2.2 c_70; have h1 := hz_75_0 (by omega); have h2 := hz_80_0 (by omega); omega⟩)⟩
                exact z_zretR C hr rfl hlocks hP9 dX7_allows_91
          ·
            refine lv_aload_n C.1 C.2.1 dX7_allows_34 rfl (lv_at hl 2 rfl) ?_
            refine lv_iload_n C.1 C.2.1 dX7_allows_35 rfl (lv_at hl 0 rfl) ?_
            refine z_callR (va_runV (As := [.int (iI j)]) (rest := []) C (c_X6_get l G h a N n f j hN hn hf (by first | omega | assumption | (intros; first | rfl | omega | assumption | (and_intros <;> first | rfl | omega | assumption))) s9.heap.size) (cwV 1 C.2.2.2.2 gX7_allows_X6_get rfl rfl rfl (by decide +kernel) ⟨Nat.le_of_ble_eq_true rfl, Nat.le_of_ble_eq_true rfl⟩) (z_preV hK hW hA [0, 1] rfl (by decide) (ci := 5) (q0 := 0) rfl rfl) rfl rfl hl.1 rfl (lv_room (Nat.le_of_ble_eq_true rfl)) dX7_allows_36 ⟨Nat.zero_le _, Nat.zero_le _⟩) (fun r hp => ?_)
            have hp : ∃ z : Int, r = some (.int (iI z)) ∧ ((0 ≤ j ∧ j < n → z = f j)) ∧ ((¬ (0 ≤ j ∧ j < n) → z = -4)) ∧ (-2147483648 ≤ z ∧ z ≤ 2147483647) := hp
            obtain ⟨z_36, rfl, hz_36_0, hz_36_1, hz_36_2⟩ := hp
            refine lv_aload_n C.1 C.2.1 dX7_allows_39 rfl (lv_at hl 1 rfl) ?_
            refine z_gete C hK hW (i := i) (by omega) (z := sLow i) (List.mem_of_getElem? (i := 4) rfl) (C.2.2.2.2 (.fieldLink RX7 54 "TellingRows$Sort" "lowest" "I") (List.mem_of_getElem? (i := 3) rfl)) (fun _ h9 => h9) (sLow_ok _ (by omega)) dX7_allows_40 ?_
            refine z_icmp_lt (tgt := 58) C dX7_allows_43 (by decide) (by omega) (fun c_43 => ?_) (fun c_43 => ?_)
            ·
              refine lv_iconst (v := iI 0) C.1 C.2.1 dX7_allows_58 rfl ?_
              rw [hQ]
              have hP9 : ∃ z : Int, (some (Value.int (iI 0))) = some (.int (iI z)) ∧ ((z = 1 ∧ AllowsR i n f) ∨ (z = 0 ∧ ¬ AllowsR i n f)) := ⟨_, rfl, (Or.inr ⟨rfl, fun q9 => by have h1 := q9.2.2.1 j (by omega) (by omega); have h2 := hz_36_0 (by omega); first | omega | (have h3 := hz_48_0 (by omega); omega)⟩)⟩
              exact z_zretR C hr rfl hlocks hP9 dX7_allows_59
            ·
              refine lv_aload_n C.1 C.2.1 dX7_allows_46 rfl (lv_at hl 2 rfl) ?_
              refine lv_iload_n C.1 C.2.1 dX7_allows_47 rfl (lv_at hl 0 rfl) ?_
              refine z_callR (va_runV (As := [.int (iI j)]) (rest := []) C (c_X6_get l G h a N n f j hN hn hf (by first | omega | assumption | (intros; first | rfl | omega | assumption | (and_intros <;> first | rfl | omega | assumption))) s9.heap.size) (cwV 1 C.2.2.2.2 gX7_allows_X6_get rfl rfl rfl (by decide +kernel) ⟨Nat.le_of_ble_eq_true rfl, Nat.le_of_ble_eq_true rfl⟩) (z_preV hK hW hA [0, 1] rfl (by decide) (ci := 5) (q0 := 0) rfl rfl) rfl rfl hl.1 rfl (lv_room (Nat.le_of_ble_eq_true rfl)) dX7_allows_48 ⟨Nat.zero_le _, Nat.zero_le _⟩) (fun r hp => ?_)
              have hp : ∃ z : Int, r = some (.int (iI z)) ∧ ((0 ≤ j ∧ j < n → z = f j)) ∧ ((¬ (0 ≤ j ∧ j < n) → z = -4)) ∧ (-2147483648 ≤ z ∧ z ≤ 2147483647) := hp
              obtain ⟨z_48, rfl, hz_48_0, hz_48_1, hz_48_2⟩ := hp
              refine lv_aload_n C.1 C.2.1 dX7_allows_51 rfl (lv_at hl 1 rfl) ?_
              refine z_gete C hK hW (i := i) (by omega) (z := sHigh i) (List.mem_of_getElem? (i := 5) rfl) (C.2.2.2.2 (.fieldLink RX7 57 "TellingRows$Sort" "highest" "I") (List.mem_of_getElem? (i := 4) rfl)) (fun _ h9 => h9) (sHigh_ok _ (by omega)) dX7_allows_52 ?_
              refine z_icmp_le (tgt := 60) C dX7_allows_55 (by decide) (by omega) (fun c_55 => ?_) (fun c_55 => ?_)
              ·
                refine lv_iinc (v := iI (j + 1)) (lv' := [(2, .int (iI (j + 1))), (0, .ref (G.2.2 i)), (1, .ref h)]) C.1 C.2.1 dX7_allows_60 hl (k := 0) rfl (iI_add _ _) (by decide) rfl (fun ls hl => ?_)
                refine lv_goto (tgt := 26) C.1 C.2.1 dX7_allows_63 (by decide) ?_
                exact ih_26 (j + 1) (by first | omega | assumption | (intros; first | rfl | omega | assumption | (and_intros <;> first | rfl | omega | assumption))) (fun x x0 x1 => (Int.lt_or_le x j).elim (fun q => he x x0 q) (fun q => by have h1 := hz_36_0 (by omega); have h2 := hz_48_0 (by omega); rw [show x = j by omega]; omega)) (by omega) _ (lv_sub hl [0, 1, 2] rfl)
              ·
                refine lv_iconst (v := iI 0) C.1 C.2.1 dX7_allows_58 rfl ?_
                rw [hQ]
                have hP9 : ∃ z : Int, (some (Value.int (iI 0))) = some (.int (iI z)) ∧ ((z = 1 ∧ AllowsR i n f) ∨ (z = 0 ∧ ¬ AllowsR i n f)) := ⟨_, rfl, (Or.inr ⟨rfl, fun q9 => by have h1 := q9.2.2.1 j (by omega) (by omega); have h2 := hz_36_0 (by omega); first | omega | (have h3 := hz_48_0 (by omega); omega)⟩)⟩
                exact z_zretR C hr rfl hlocks hP9 dX7_allows_59
      exact cut_26 (((n - 0) + 1 : Int)).toNat 0 (by first | omega | assumption | (intros; first | rfl | omega | assumption | (and_intros <;> first | rfl | omega | assumption))) (fun x x0 x1 => by omega) (by omega) _ (lv_sub hl [0, 1, 2] rfl)
    ·
      refine lv_iconst (v := iI 0) C.1 C.2.1 dX7_allows_22 rfl ?_
      rw [hQ]
      have hP9 : ∃ z : Int, (some (Value.int (iI 0))) = some (.int (iI z)) ∧ ((z = 1 ∧ AllowsR i n f) ∨ (z = 0 ∧ ¬ AllowsR i n f)) := ⟨_, rfl, (Or.inr ⟨rfl, fun q9 => by have h1 := q9.1; have h2 := q9.2.1; omega⟩)⟩
      exact z_zretR C hr rfl hlocks hP9 dX7_allows_23
set_option maxHeartbeats 4000000 in
set_option maxRecDepth 100000 in
/-- Item.readsNumbers -/
theorem c_X1_readsNumbers (l : Launch) (G : GG) (h : Nat) (rs : Nat) (ra : Nat) (bs : Nat) (en : Int) (rn : Int) (rf : Int → Int) (th : Nat) (ta : Nat) (T : Int) (t : Int → Int) (p : Int) (hrn : 0 ≤ rn ∧ rn ≤ 8) (hrf : BD rf) (hT : 0 ≤ T ∧ T ≤ 120) (htb : BD t) (hpp : 0 ≤ p ∧ p < T) (hen : -2147483648 ≤ en ∧ en ≤ 2147483647) : MQc l yX1_readsNumbers wsX1_readsNumbers 1 G [.ref h, .ref th, .int (iI p)] [(h, .inr (0, [.ref rs, .ref bs, .int (iI en)])), (rs, .inr (5, [.ref ra, .int (iI rn)])), (ra, .inl (G.2.1 0, 8, .inl (iA rf))), (th, .inr (5, [.ref ta, .int (iI T)])), (ta, .inl (G.2.1 0, 120, .inl (iA t)))] (fun r (u : Int × (Int → Int) × Int) => ∃ z : Int, r = some (.int (iI z)) ∧ ((z = 1 ∧ ItemL t T p u.1 u.2.2 u.2.1 ∧ u.1 ≤ 8) ∨ (z = 0 ∧ ∀ c e f, ItemL t T p c e f → 8 < c)) ∧ (BD u.2.1) ∧ (0 ≤ u.1 ∧ u.1 ≤ 8) ∧ (-2147483648 ≤ u.2.2 ∧ u.2.2 ≤ 2147483647)) (fun u => [(h, .inr (0, [.ref rs, .ref bs, .int (iI u.2.2)])), (rs, .inr (5, [.ref ra, .int (iI u.1)])), (ra, .inl (G.2.1 0, 8, .inl (iA u.2.1))), (th, .inr (5, [.ref ta, .int (iI T)])), (ta, .inl (G.2.1 0, 120, .inl (iA t)))]) := by
  refine MQc.start (own := RX1) (by decide) rfl rfl (Nat.le_of_ble_eq_true rfl) ?_
  intro p9 e9 s9 m9 args below meth c9 A Q C hK hW hA hr hlocks hQ ls hl
  have hl : lv_has ls 7 [(0, .ref h), (1, .ref th), (2, .int (iI p))] := hl
  have hin1 : ∀ w ∈ wsX10, w ∈ wsX1_readsNumbers := by decide +kernel
  have hin6 : ∀ w ∈ wsX60, w ∈ wsX1_readsNumbers := by decide +kernel
  refine lv_aload_n C.1 C.2.1 dX1_readsNumbers_0 rfl (lv_at hl 0 rfl) ?_
  refine z_get C hK hW hin1 (v := .ref rs) 0 rfl rfl 0 (by decide) (C.2.2.2.2 (.fieldLink RX1 14 "TellingRows$Item" "read" "LTellingRows$Sequence;") (List.mem_of_getElem? (i := 1) rfl)) (fun _ h9 => h9) rfl dX1_readsNumbers_1 ?_
  refine z_call (va_runV (As := []) (rest := []) C (c_X6_clear l G rs ra 8 rn rf  s9.heap.size) (cwV 0 C.2.2.2.2 gX1_readsNumbers_X6_clear rfl rfl rfl (by decide +kernel) ⟨Nat.le_of_ble_eq_true rfl, Nat.le_of_ble_eq_true rfl⟩) (z_preV hK hW hA [1, 2] rfl (by decide) (ci := 5) (q0 := 1) rfl rfl) rfl rfl hl.1 rfl (lv_room (Nat.le_of_ble_eq_true rfl)) dX1_readsNumbers_4 ⟨Nat.zero_le _, Nat.zero_le _⟩) hW hA [1, 2] rfl (by decide) (fun _ => rfl) (fun r u H locs hp hW => ?_)
  have hp : ∃ z : Int, r = some (.int (iI z)) ∧ (z = rn) := hp
  obtain ⟨z_4, rfl, hz_4_0⟩ := hp
  have hW : Wd G A s9.heap [(h, .inr (0, [.ref rs, .ref bs, .int (iI en)])), (rs, .inr (5, [.ref ra, .int (iI 0)])), (ra, .inl (G.2.1 0, 8, .inl (iA rf))), (th, .inr (5, [.ref ta, .int (iI T)])), (ta, .inl (G.2.1 0, 120, .inl (iA t)))] H locs := hW
  refine lv_pop C.1 C.2.1 dX1_readsNumbers_7 rfl ?_
  refine lv_aload_n C.1 C.2.1 dX1_readsNumbers_8 rfl (lv_at hl 1 rfl) ?_
  refine lv_iload_n C.1 C.2.1 dX1_readsNumbers_9 rfl (lv_at hl 2 rfl) ?_
  refine z_callR (va_runV (As := [.int (iI p)]) (rest := []) C (c_X6_get l G th ta 120 T t p (by first | omega | assumption | (intros; first | rfl | omega | assumption | (and_intros <;> first | rfl | omega | assumption))) (by first | omega | assumption | (intros; first | rfl | omega | assumption | (and_intros <;> first | rfl | omega | assumption))) htb (by first | omega | assumption | (intros; first | rfl | omega | assumption | (and_intros <;> first | rfl | omega | assumption))) H.size) (cwV 1 C.2.2.2.2 gX1_readsNumbers_X6_get rfl rfl rfl (by decide +kernel) ⟨Nat.le_of_ble_eq_true rfl, Nat.le_of_ble_eq_true rfl⟩) (z_preV hK hW hA [3, 4] rfl (by decide) (ci := 5) (q0 := 3) rfl rfl) rfl rfl hl.1 rfl (lv_room (Nat.le_of_ble_eq_true rfl)) dX1_readsNumbers_10 ⟨Nat.zero_le _, Nat.zero_le _⟩) (fun r hp => ?_)
  have hp : ∃ z : Int, r = some (.int (iI z)) ∧ ((0 ≤ p ∧ p < T → z = t p)) ∧ ((¬ (0 ≤ p ∧ p < T) → z = -4)) ∧ (-2147483648 ≤ z ∧ z ≤ 2147483647) := hp
  obtain ⟨z_10, rfl, hz_10_0, hz_10_1, hz_10_2⟩ := hp
  have h10 := hz_10_0 (by omega)
  refine lv_bipush (v := iI 114) C.1 C.2.1 dX1_readsNumbers_13 (by decide +kernel) ?_
  refine z_icmp_eq (tgt := 20) C dX1_readsNumbers_15 (by decide) (by omega) (fun c_15 => ?_) (fun c_15 => ?_)
  ·
    refine lv_iconst (v := iI 0) C.1 C.2.1 dX1_readsNumbers_20 rfl ?_
    refine lv_istore_n (lv' := [(3, .int (iI 0)), (0, .ref h), (1, .ref th), (2, .int (iI p))]) C.1 C.2.1 dX1_readsNumbers_21 rfl hl (by decide) rfl (fun ls hl => ?_)
    refine lv_iconst (v := iI 0) C.1 C.2.1 dX1_readsNumbers_22 rfl ?_
    refine lv_istore (lv' := [(4, .int (iI 0)), (3, .int (iI 0)), (0, .ref h), (1, .ref th), (2, .int (iI p))]) C.1 C.2.1 dX1_readsNumbers_23 hl (by decide) rfl (fun ls hl => ?_)
    refine lv_iload_n C.1 C.2.1 dX1_readsNumbers_25 rfl (lv_at hl 4 rfl) ?_
    refine lv_iconst (v := iI 1) C.1 C.2.1 dX1_readsNumbers_26 rfl ?_
    refine z_iadd C dX1_readsNumbers_27 ?_
    refine lv_istore (lv' := [(5, .int (iI (p + 1))), (4, .int (iI 0)), (3, .int (iI 0)), (0, .ref h), (1, .ref th), (2, .int (iI p))]) C.1 C.2.1 dX1_readsNumbers_28 hl (by decide) rfl (fun ls hl => ?_)
    have cut_30 : ∀ (n9 : Nat) (val : Int) (fig : Int) (pl : Int) (c : Int) (f1 : Int → Int), (RdS t T (p + 1) c f1 pl val fig) → (p + 1 ≤ pl ∧ pl ≤ T) → (0 ≤ c ∧ c ≤ 8) → (BD f1) → (T - pl < (n9 : Int)) → ∀ (H : Heap) (locs : List Loc) (ls : Array Slot), Wd G A s9.heap [(h, .inr (0, [.ref rs, .ref bs, .int (iI en)])), (rs, .inr (5, [.ref ra, .int (iI c)])), (ra, .inl (G.2.1 0, 8, .inl (iA f1))), (th, .inr (5, [.ref ta, .int (iI T)])), (ta, .inl (G.2.1 0, 120, .inl (iA t)))] H locs → lv_has ls 7 [(5, .int (iI pl)), (4, .int (iI fig)), (3, .int (iI val)), (0, .ref h), (1, .ref th), (2, .int (iI p))] → W p9 l e9 (rmL 1) s9 m9 args below meth c9 H locs 0 0 Q (F0 m9 30 ls []) := by
      intro n9
      induction n9 with
      | zero => intro val fig pl c f1 hI hpl hc hf1 hmu; intros; exfalso; omega
      | succ n9 ih_30 =>
        intro val fig pl c f1 hI hpl hc hf1 hmu H locs ls hW hl
        have hb := RdS_b hI
        refine lv_iload C.1 C.2.1 dX1_readsNumbers_30 (lv_at hl 0 rfl) ?_
        refine lv_aload_n C.1 C.2.1 dX1_readsNumbers_32 rfl (lv_at hl 4 rfl) ?_
        refine z_callR (va_runV (As := []) (rest := [.int (iI pl)]) C (c_X6_size l G th ta 120 T t  H.size) (cwV 0 C.2.2.2.2 gX1_readsNumbers_X6_size rfl rfl rfl (by decide +kernel) ⟨Nat.le_of_ble_eq_true rfl, Nat.le_of_ble_eq_true rfl⟩) (z_preV hK hW hA [3, 4] rfl (by decide) (ci := 5) (q0 := 3) rfl rfl) rfl rfl hl.1 rfl (lv_room (Nat.le_of_ble_eq_true rfl)) dX1_readsNumbers_33 ⟨Nat.zero_le _, Nat.zero_le _⟩) (fun r hp => ?_)
        have hp : ∃ z : Int, r = some (.int (iI z)) ∧ (z = T) := hp
        obtain ⟨z_33, rfl, hz_33_0⟩ := hp
        refine z_icmp_ge (tgt := 147) C dX1_readsNumbers_36 (by decide) (by omega) (fun c_36 => ?_) (fun c_36 => ?_)
        ·
          refine lv_iconst (v := iI 0) C.1 C.2.1 dX1_readsNumbers_147 rfl ?_
          rw [hQ]
          have hP9 : ∃ z : Int, (some (Value.int (iI 0))) = some (.int (iI z)) ∧ ((z = 1 ∧ ItemL t T p c en f1 ∧ c ≤ 8) ∨ (z = 0 ∧ ∀ c e f, ItemL t T p c e f → 8 < c)) ∧ (BD f1) ∧ (0 ≤ c ∧ c ≤ 8) ∧ (-2147483648 ≤ en ∧ en ≤ 2147483647) := ⟨_, rfl, (Or.inr ⟨rfl, fun c9 e9 f9 hh => (RdS_bad hI (Or.inl (by omega)) hh).elim⟩), hf1, hc, hen⟩
          exact z_zret C hr rfl hlocks hW (c, f1, en) rfl hP9 dX1_readsNumbers_148
        ·
          refine lv_aload_n C.1 C.2.1 dX1_readsNumbers_39 rfl (lv_at hl 4 rfl) ?_
          refine lv_iload C.1 C.2.1 dX1_readsNumbers_40 (lv_at hl 0 rfl) ?_
          refine z_callR (va_runV (As := [.int (iI pl)]) (rest := []) C (c_X6_get l G th ta 120 T t pl (by first | omega | assumption | (intros; first | rfl | omega | assumption | (and_intros <;> first | rfl | omega | assumption))) (by first | omega | assumption | (intros; first | rfl | omega | assumption | (and_intros <;> first | rfl | omega | assumption))) htb (by first | omega | assumption | (intros; first | rfl | omega | assumption | (and_intros <;> first | rfl | omega | assumption))) H.size) (cwV 1 C.2.2.2.2 gX1_readsNumbers_X6_get rfl rfl rfl (by decide +kernel) ⟨Nat.le_of_ble_eq_true rfl, Nat.le_of_ble_eq_true rfl⟩) (z_preV hK hW hA [3, 4] rfl (by decide) (ci := 5) (q0 := 3) rfl rfl) rfl rfl hl.1 rfl (lv_room (Nat.le_of_ble_eq_true rfl)) dX1_readsNumbers_42 ⟨Nat.zero_le _, Nat.zero_le _⟩) (fun r hp => ?_)
          have hp : ∃ z : Int, r = some (.int (iI z)) ∧ ((0 ≤ pl ∧ pl < T → z = t pl)) ∧ ((¬ (0 ≤ pl ∧ pl < T) → z = -4)) ∧ (-2147483648 ≤ z ∧ z ≤ 2147483647) := hp
          obtain ⟨z_42, rfl, hz_42_0, hz_42_1, hz_42_2⟩ := hp
          have h42 := hz_42_0 (by omega)
          refine lv_istore (lv' := [(6, .int (iI z_42)), (5, .int (iI pl)), (4, .int (iI fig)), (3, .int (iI val)), (0, .ref h), (1, .ref th), (2, .int (iI p))]) C.1 C.2.1 dX1_readsNumbers_45 hl (by decide) rfl (fun ls hl => ?_)
          have cut_84 : (¬ ((48 ≤ t pl ∧ t pl ≤ 57) ∧ fig < 2)) → ∀ (H : Heap) (locs : List Loc) (ls : Array Slot), Wd G A s9.heap [(h, .inr (0, [.ref rs, .ref bs, .int (iI en)])), (rs, .inr (5, [.ref ra, .int (iI c)])), (ra, .inl (G.2.1 0, 8, .inl (iA f1))), (th, .inr (5, [.ref ta, .int (iI T)])), (ta, .inl (G.2.1 0, 120, .inl (iA t)))] H locs → lv_has ls 7 [(6, .int (iI z_42)), (5, .int (iI pl)), (4, .int (iI fig)), (3, .int (iI val)), (0, .ref h), (1, .ref th), (2, .int (iI p))] → W p9 l e9 (rmL 1) s9 m9 args below meth c9 H locs 0 0 Q (F0 m9 84 ls []) := by
            intro  hns H locs ls hW hl
            refine lv_iload C.1 C.2.1 dX1_readsNumbers_84 (lv_at hl 0 rfl) ?_
            refine lv_bipush (v := iI 44) C.1 C.2.1 dX1_readsNumbers_86 (by decide +kernel) ?_
            refine z_icmp_eq (tgt := 98) C dX1_readsNumbers_88 (by decide) (by omega) (fun c_88 => ?_) (fun c_88 => ?_)
            ·
              refine lv_iload C.1 C.2.1 dX1_readsNumbers_98 (lv_at hl 2 rfl) ?_
              refine z_if_le (tgt := 139) C dX1_readsNumbers_100 (by decide) (by omega) (fun c_100 => ?_) (fun c_100 => ?_)
              ·
                refine lv_iconst (v := iI 0) C.1 C.2.1 dX1_readsNumbers_139 rfl ?_
                rw [hQ]
                have hP9 : ∃ z : Int, (some (Value.int (iI 0))) = some (.int (iI z)) ∧ ((z = 1 ∧ ItemL t T p c en f1 ∧ c ≤ 8) ∨ (z = 0 ∧ ∀ c e f, ItemL t T p c e f → 8 < c)) ∧ (BD f1) ∧ (0 ≤ c ∧ c ≤ 8) ∧ (-2147483648 ≤ en ∧ en ≤ 2147483647) := ⟨_, rfl, (Or.inr ⟨rfl, fun c9 e9 f9 hh => by first | exact (RdS_bad hI (Or.inr ⟨hns, by omega⟩) hh).elim | (have := RdS_full hI hh; omega)⟩), hf1, hc, hen⟩
                exact z_zret C hr rfl hlocks hW (c, f1, en) rfl hP9 dX1_readsNumbers_140
              ·
                refine lv_aload_n C.1 C.2.1 dX1_readsNumbers_103 rfl (lv_at hl 4 rfl) ?_
                refine z_get C hK hW hin1 (v := .ref rs) 0 rfl rfl 0 (by decide) (C.2.2.2.2 (.fieldLink RX1 14 "TellingRows$Item" "read" "LTellingRows$Sequence;") (List.mem_of_getElem? (i := 1) rfl)) (fun _ h9 => h9) rfl dX1_readsNumbers_104 ?_
                refine lv_iload_n C.1 C.2.1 dX1_readsNumbers_107 rfl (lv_at hl 3 rfl) ?_
                refine z_call (va_runV (As := [.int (iI val)]) (rest := []) C (c_X6_add l G rs ra 8 c f1 val (by first | omega | assumption | (intros; first | rfl | omega | assumption | (and_intros <;> first | rfl | omega | assumption))) (by first | omega | assumption | (intros; first | rfl | omega | assumption | (and_intros <;> first | rfl | omega | assumption))) hf1 (by first | omega | assumption | (intros; first | rfl | omega | assumption | (and_intros <;> first | rfl | omega | assumption))) H.size) (cwV 1 C.2.2.2.2 gX1_readsNumbers_X6_add rfl rfl rfl (by decide +kernel) ⟨Nat.le_of_ble_eq_true rfl, Nat.le_of_ble_eq_true rfl⟩) (z_preV hK hW hA [1, 2] rfl (by decide) (ci := 5) (q0 := 1) rfl rfl) rfl rfl hl.1 rfl (lv_room (Nat.le_of_ble_eq_true rfl)) dX1_readsNumbers_108 ⟨Nat.zero_le _, Nat.zero_le _⟩) hW hA [1, 2] rfl (by decide) (fun _ => rfl) (fun r u H locs hp hW => ?_)
                obtain ⟨n2_108, f2_108⟩ := u
                have hp : ∃ z : Int, r = some (.int (iI z)) ∧ ((c < (8 : Int) → z = 1 ∧ n2_108 = c + 1 ∧ f2_108 = up f1 c val)) ∧ ((¬ c < (8 : Int) → z = 0 ∧ n2_108 = c ∧ f2_108 = f1)) ∧ (BD f2_108) := hp
                obtain ⟨z_108, rfl, hz_108_0, hz_108_1, hz_108_2⟩ := hp
                have hW : Wd G A s9.heap [(h, .inr (0, [.ref rs, .ref bs, .int (iI en)])), (rs, .inr (5, [.ref ra, .int (iI n2_108)])), (ra, .inl (G.2.1 0, 8, .inl (iA f2_108))), (th, .inr (5, [.ref ta, .int (iI T)])), (ta, .inl (G.2.1 0, 120, .inl (iA t)))] H locs := hW
                have hs108 : (c < 8 → z_108 = 1 ∧ n2_108 = c + 1) ∧ (¬ c < 8 → z_108 = 0 ∧ n2_108 = c) := ⟨fun q9 => ⟨(hz_108_0 q9).1, (hz_108_0 q9).2.1⟩, fun q9 => ⟨(hz_108_1 q9).1, (hz_108_1 q9).2.1⟩⟩
                refine z_if_eq (tgt := 139) C dX1_readsNumbers_111 (by decide) (by omega) (fun c_111 => ?_) (fun c_111 => ?_)
                ·
                  refine lv_iconst (v := iI 0) C.1 C.2.1 dX1_readsNumbers_139 rfl ?_
                  rw [hQ]
                  have hP9 : ∃ z : Int, (some (Value.int (iI 0))) = some (.int (iI z)) ∧ ((z = 1 ∧ ItemL t T p n2_108 en f2_108 ∧ n2_108 ≤ 8) ∨ (z = 0 ∧ ∀ c e f, ItemL t T p c e f → 8 < c)) ∧ (BD f2_108) ∧ (0 ≤ n2_108 ∧ n2_108 ≤ 8) ∧ (-2147483648 ≤ en ∧ en ≤ 2147483647) := ⟨_, rfl, (Or.inr ⟨rfl, fun c9 e9 f9 hh => by first | exact (RdS_bad hI (Or.inr ⟨hns, by omega⟩) hh).elim | (have := RdS_full hI hh; omega)⟩), hz_108_2, (by first | omega | assumption | (intros; first | rfl | omega | assumption | (and_intros <;> first | rfl | omega | assumption))), hen⟩
                  exact z_zret C hr rfl hlocks hW (n2_108, f2_108, en) rfl hP9 dX1_readsNumbers_140
                ·
                  refine lv_iload C.1 C.2.1 dX1_readsNumbers_114 (lv_at hl 0 rfl) ?_
                  refine lv_bipush (v := iI 59) C.1 C.2.1 dX1_readsNumbers_116 (by decide +kernel) ?_
                  refine z_icmp_ne (tgt := 131) C dX1_readsNumbers_118 (by decide) (by omega) (fun c_118 => ?_) (fun c_118 => ?_)
                  ·
                    refine lv_iconst (v := iI 0) C.1 C.2.1 dX1_readsNumbers_131 rfl ?_
                    refine lv_istore_n (lv' := [(3, .int (iI 0)), (6, .int (iI z_42)), (5, .int (iI pl)), (4, .int (iI fig)), (0, .ref h), (1, .ref th), (2, .int (iI p))]) C.1 C.2.1 dX1_readsNumbers_132 rfl hl (by decide) rfl (fun ls hl => ?_)
                    refine lv_iconst (v := iI 0) C.1 C.2.1 dX1_readsNumbers_133 rfl ?_
                    refine lv_istore (lv' := [(4, .int (iI 0)), (3, .int (iI 0)), (6, .int (iI z_42)), (5, .int (iI pl)), (0, .ref h), (1, .ref th), (2, .int (iI p))]) C.1 C.2.1 dX1_readsNumbers_134 hl (by decide) rfl (fun ls hl => ?_)
                    refine lv_goto (tgt := 141) C.1 C.2.1 dX1_readsNumbers_136 (by decide) ?_
                    refine lv_iinc (v := iI (pl + 1)) (lv' := [(5, .int (iI (pl + 1))), (4, .int (iI 0)), (3, .int (iI 0)), (6, .int (iI z_42)), (0, .ref h), (1, .ref th), (2, .int (iI p))]) C.1 C.2.1 dX1_readsNumbers_141 hl (k := 3) rfl (iI_add _ _) (by decide) rfl (fun ls hl => ?_)
                    refine lv_goto (tgt := 30) C.1 C.2.1 dX1_readsNumbers_144 (by decide) ?_
                    exact ih_30 0 0 (pl + 1) n2_108 f2_108 (by have h42 := hz_42_0 (by omega); first | (rw [h42]; exact RdS_d hI (by omega) (by omega) (by omega)) | (obtain ⟨_, e1, e2⟩ := hz_108_0 (by omega); rw [e1, e2]; exact RdS_c hI (by omega) (by omega) (by omega))) (by first | omega | assumption | (intros; first | rfl | omega | assumption | (and_intros <;> first | rfl | omega | assumption))) (by first | omega | assumption | (intros; first | rfl | omega | assumption | (and_intros <;> first | rfl | omega | assumption))) hz_108_2 (by omega) _ _ _ hW (lv_sub hl [0, 1, 2, 4, 5, 6] rfl)
                  ·
                    refine lv_aload_n C.1 C.2.1 dX1_readsNumbers_121 rfl (lv_at hl 4 rfl) ?_
                    refine lv_iload C.1 C.2.1 dX1_readsNumbers_122 (lv_at hl 1 rfl) ?_
                    refine lv_iconst (v := iI 1) C.1 C.2.1 dX1_readsNumbers_124 rfl ?_
                    refine z_iadd C dX1_readsNumbers_125 ?_
                    refine z_put C hK hW hin1 tyX1 tyX1_ok nmX1 0 rfl rfl 2 (by decide) (C.2.2.2.2 (.fieldLink RX1 23 "TellingRows$Item" "end" "I") (List.mem_of_getElem? (i := 2) rfl)) (fun _ h9 => h9) rfl rfl rfl (Nat.le_of_ble_eq_true rfl) dX1_readsNumbers_126 (fun H locs hW => ?_)
                    have hW : Wd G A s9.heap [(h, .inr (0, [.ref rs, .ref bs, .int (iI (pl + 1))])), (rs, .inr (5, [.ref ra, .int (iI n2_108)])), (ra, .inl (G.2.1 0, 8, .inl (iA f2_108))), (th, .inr (5, [.ref ta, .int (iI T)])), (ta, .inl (G.2.1 0, 120, .inl (iA t)))] H locs := hW
                    refine lv_iconst (v := iI 1) C.1 C.2.1 dX1_readsNumbers_129 rfl ?_
                    rw [hQ]
                    have hP9 : ∃ z : Int, (some (Value.int (iI 1))) = some (.int (iI z)) ∧ ((z = 1 ∧ ItemL t T p n2_108 (pl + 1) f2_108 ∧ n2_108 ≤ 8) ∨ (z = 0 ∧ ∀ c e f, ItemL t T p c e f → 8 < c)) ∧ (BD f2_108) ∧ (0 ≤ n2_108 ∧ n2_108 ≤ 8) ∧ (-2147483648 ≤ (pl + 1) ∧ (pl + 1) ≤ 2147483647) := ⟨_, rfl, (Or.inl ⟨rfl, by obtain ⟨_, e1, e2⟩ := hz_108_0 (by omega); rw [e1, e2]; exact RdS_e hI (by omega) (by omega) (by omega) hpp.2 (by omega), by omega⟩), hz_108_2, (by first | omega | assumption | (intros; first | rfl | omega | assumption | (and_intros <;> first | rfl | omega | assumption))), (by first | omega | assumption | (intros; first | rfl | omega | assumption | (and_intros <;> first | rfl | omega | assumption)))⟩
                    exact z_zret C hr rfl hlocks hW (n2_108, f2_108, pl + 1) rfl hP9 dX1_readsNumbers_130
            ·
              refine lv_iload C.1 C.2.1 dX1_readsNumbers_91 (lv_at hl 0 rfl) ?_
              refine lv_bipush (v := iI 59) C.1 C.2.1 dX1_readsNumbers_93 (by decide +kernel) ?_
              refine z_icmp_ne (tgt := 139) C dX1_readsNumbers_95 (by decide) (by omega) (fun c_95 => ?_) (fun c_95 => ?_)
              ·
                refine lv_iconst (v := iI 0) C.1 C.2.1 dX1_readsNumbers_139 rfl ?_
                rw [hQ]
                have hP9 : ∃ z : Int, (some (Value.int (iI 0))) = some (.int (iI z)) ∧ ((z = 1 ∧ ItemL t T p c en f1 ∧ c ≤ 8) ∨ (z = 0 ∧ ∀ c e f, ItemL t T p c e f → 8 < c)) ∧ (BD f1) ∧ (0 ≤ c ∧ c ≤ 8) ∧ (-2147483648 ≤ en ∧ en ≤ 2147483647) := ⟨_, rfl, (Or.inr ⟨rfl, fun c9 e9 f9 hh => by first | exact (RdS_bad hI (Or.inr ⟨hns, by omega⟩) hh).elim | (have := RdS_full hI hh; omega)⟩), hf1, hc, hen⟩
                exact z_zret C hr rfl hlocks hW (c, f1, en) rfl hP9 dX1_readsNumbers_140
              ·
                refine lv_iload C.1 C.2.1 dX1_readsNumbers_98 (lv_at hl 2 rfl) ?_
                refine z_if_le (tgt := 139) C dX1_readsNumbers_100 (by decide) (by omega) (fun c_100 => ?_) (fun c_100 => ?_)
                ·
                  refine lv_iconst (v := iI 0) C.1 C.2.1 dX1_readsNumbers_139 rfl ?_
                  rw [hQ]
                  have hP9 : ∃ z : Int, (some (Value.int (iI 0))) = some (.int (iI z)) ∧ ((z = 1 ∧ ItemL t T p c en f1 ∧ c ≤ 8) ∨ (z = 0 ∧ ∀ c e f, ItemL t T p c e f → 8 < c)) ∧ (BD f1) ∧ (0 ≤ c ∧ c ≤ 8) ∧ (-2147483648 ≤ en ∧ en ≤ 2147483647) := ⟨_, rfl, (Or.inr ⟨rfl, fun c9 e9 f9 hh => by first | exact (RdS_bad hI (Or.inr ⟨hns, by omega⟩) hh).elim | (have := RdS_full hI hh; omega)⟩), hf1, hc, hen⟩
                  exact z_zret C hr rfl hlocks hW (c, f1, en) rfl hP9 dX1_readsNumbers_140
                ·
                  refine lv_aload_n C.1 C.2.1 dX1_readsNumbers_103 rfl (lv_at hl 4 rfl) ?_
                  refine z_get C hK hW hin1 (v := .ref rs) 0 rfl rfl 0 (by decide) (C.2.2.2.2 (.fieldLink RX1 14 "TellingRows$Item" "read" "LTellingRows$Sequence;") (List.mem_of_getElem? (i := 1) rfl)) (fun _ h9 => h9) rfl dX1_readsNumbers_104 ?_
                  refine lv_iload_n C.1 C.2.1 dX1_readsNumbers_107 rfl (lv_at hl 3 rfl) ?_
                  refine z_call (va_runV (As := [.int (iI val)]) (rest := []) C (c_X6_add l G rs ra 8 c f1 val (by first | omega | assumption | (intros; first | rfl | omega | assumption | (and_intros <;> first | rfl | omega | assumption))) (by first | omega | assumption | (intros; first | rfl | omega | assumption | (and_intros <;> first | rfl | omega | assumption))) hf1 (by first | omega | assumption | (intros; first | rfl | omega | assumption | (and_intros <;> first | rfl | omega | assumption))) H.size) (cwV 1 C.2.2.2.2 gX1_readsNumbers_X6_add rfl rfl rfl (by decide +kernel) ⟨Nat.le_of_ble_eq_true rfl, Nat.le_of_ble_eq_true rfl⟩) (z_preV hK hW hA [1, 2] rfl (by decide) (ci := 5) (q0 := 1) rfl rfl) rfl rfl hl.1 rfl (lv_room (Nat.le_of_ble_eq_true rfl)) dX1_readsNumbers_108 ⟨Nat.zero_le _, Nat.zero_le _⟩) hW hA [1, 2] rfl (by decide) (fun _ => rfl) (fun r u H locs hp hW => ?_)
                  obtain ⟨n2_108, f2_108⟩ := u
                  have hp : ∃ z : Int, r = some (.int (iI z)) ∧ ((c < (8 : Int) → z = 1 ∧ n2_108 = c + 1 ∧ f2_108 = up f1 c val)) ∧ ((¬ c < (8 : Int) → z = 0 ∧ n2_108 = c ∧ f2_108 = f1)) ∧ (BD f2_108) := hp
                  obtain ⟨z_108, rfl, hz_108_0, hz_108_1, hz_108_2⟩ := hp
                  have hW : Wd G A s9.heap [(h, .inr (0, [.ref rs, .ref bs, .int (iI en)])), (rs, .inr (5, [.ref ra, .int (iI n2_108)])), (ra, .inl (G.2.1 0, 8, .inl (iA f2_108))), (th, .inr (5, [.ref ta, .int (iI T)])), (ta, .inl (G.2.1 0, 120, .inl (iA t)))] H locs := hW
                  have hs108 : (c < 8 → z_108 = 1 ∧ n2_108 = c + 1) ∧ (¬ c < 8 → z_108 = 0 ∧ n2_108 = c) := ⟨fun q9 => ⟨(hz_108_0 q9).1, (hz_108_0 q9).2.1⟩, fun q9 => ⟨(hz_108_1 q9).1, (hz_108_1 q9).2.1⟩⟩
                  refine z_if_eq (tgt := 139) C dX1_readsNumbers_111 (by decide) (by omega) (fun c_111 => ?_) (fun c_111 => ?_)
                  ·
                    refine lv_iconst (v := iI 0) C.1 C.2.1 dX1_readsNumbers_139 rfl ?_
                    rw [hQ]
                    have hP9 : ∃ z : Int, (some (Value.int (iI 0))) = some (.int (iI z)) ∧ ((z = 1 ∧ ItemL t T p n2_108 en f2_108 ∧ n2_108 ≤ 8) ∨ (z = 0 ∧ ∀ c e f, ItemL t T p c e f → 8 < c)) ∧ (BD f2_108) ∧ (0 ≤ n2_108 ∧ n2_108 ≤ 8) ∧ (-2147483648 ≤ en ∧ en ≤ 2147483647) := ⟨_, rfl, (Or.inr ⟨rfl, fun c9 e9 f9 hh => by first | exact (RdS_bad hI (Or.inr ⟨hns, by omega⟩) hh).elim | (have := RdS_full hI hh; omega)⟩), hz_108_2, (by first | omega | assumption | (intros; first | rfl | omega | assumption | (and_intros <;> first | rfl | omega | assumption))), hen⟩
                    exact z_zret C hr rfl hlocks hW (n2_108, f2_108, en) rfl hP9 dX1_readsNumbers_140
                  ·
                    refine lv_iload C.1 C.2.1 dX1_readsNumbers_114 (lv_at hl 0 rfl) ?_
                    refine lv_bipush (v := iI 59) C.1 C.2.1 dX1_readsNumbers_116 (by decide +kernel) ?_
                    refine z_icmp_ne (tgt := 131) C dX1_readsNumbers_118 (by decide) (by omega) (fun c_118 => ?_) (fun c_118 => ?_)
                    ·
                      refine lv_iconst (v := iI 0) C.1 C.2.1 dX1_readsNumbers_131 rfl ?_
                      refine lv_istore_n (lv' := [(3, .int (iI 0)), (6, .int (iI z_42)), (5, .int (iI pl)), (4, .int (iI fig)), (0, .ref h), (1, .ref th), (2, .int (iI p))]) C.1 C.2.1 dX1_readsNumbers_132 rfl hl (by decide) rfl (fun ls hl => ?_)
                      refine lv_iconst (v := iI 0) C.1 C.2.1 dX1_readsNumbers_133 rfl ?_
                      refine lv_istore (lv' := [(4, .int (iI 0)), (3, .int (iI 0)), (6, .int (iI z_42)), (5, .int (iI pl)), (0, .ref h), (1, .ref th), (2, .int (iI p))]) C.1 C.2.1 dX1_readsNumbers_134 hl (by decide) rfl (fun ls hl => ?_)
                      refine lv_goto (tgt := 141) C.1 C.2.1 dX1_readsNumbers_136 (by decide) ?_
                      refine lv_iinc (v := iI (pl + 1)) (lv' := [(5, .int (iI (pl + 1))), (4, .int (iI 0)), (3, .int (iI 0)), (6, .int (iI z_42)), (0, .ref h), (1, .ref th), (2, .int (iI p))]) C.1 C.2.1 dX1_readsNumbers_141 hl (k := 3) rfl (iI_add _ _) (by decide) rfl (fun ls hl => ?_)
                      refine lv_goto (tgt := 30) C.1 C.2.1 dX1_readsNumbers_144 (by decide) ?_
                      exact ih_30 0 0 (pl + 1) n2_108 f2_108 (by have h42 := hz_42_0 (by omega); first | (rw [h42]; exact RdS_d hI (by omega) (by omega) (by omega)) | (obtain ⟨_, e1, e2⟩ := hz_108_0 (by omega); rw [e1, e2]; exact RdS_c hI (by omega) (by omega) (by omega))) (by first | omega | assumption | (intros; first | rfl | omega | assumption | (and_intros <;> first | rfl | omega | assumption))) (by first | omega | assumption | (intros; first | rfl | omega | assumption | (and_intros <;> first | rfl | omega | assumption))) hz_108_2 (by omega) _ _ _ hW (lv_sub hl [0, 1, 2, 4, 5, 6] rfl)
                    ·
                      refine lv_aload_n C.1 C.2.1 dX1_readsNumbers_121 rfl (lv_at hl 4 rfl) ?_
                      refine lv_iload C.1 C.2.1 dX1_readsNumbers_122 (lv_at hl 1 rfl) ?_
                      refine lv_iconst (v := iI 1) C.1 C.2.1 dX1_readsNumbers_124 rfl ?_
                      refine z_iadd C dX1_readsNumbers_125 ?_
                      refine z_put C hK hW hin1 tyX1 tyX1_ok nmX1 0 rfl rfl 2 (by decide) (C.2.2.2.2 (.fieldLink RX1 23 "TellingRows$Item" "end" "I") (List.mem_of_getElem? (i := 2) rfl)) (fun _ h9 => h9) rfl rfl rfl (Nat.le_of_ble_eq_true rfl) dX1_readsNumbers_126 (fun H locs hW => ?_)
                      have hW : Wd G A s9.heap [(h, .inr (0, [.ref rs, .ref bs, .int (iI (pl + 1))])), (rs, .inr (5, [.ref ra, .int (iI n2_108)])), (ra, .inl (G.2.1 0, 8, .inl (iA f2_108))), (th, .inr (5, [.ref ta, .int (iI T)])), (ta, .inl (G.2.1 0, 120, .inl (iA t)))] H locs := hW
                      refine lv_iconst (v := iI 1) C.1 C.2.1 dX1_readsNumbers_129 rfl ?_
                      rw [hQ]
                      have hP9 : ∃ z : Int, (some (Value.int (iI 1))) = some (.int (iI z)) ∧ ((z = 1 ∧ ItemL t T p n2_108 (pl + 1) f2_108 ∧ n2_108 ≤ 8) ∨ (z = 0 ∧ ∀ c e f, ItemL t T p c e f → 8 < c)) ∧ (BD f2_108) ∧ (0 ≤ n2_108 ∧ n2_108 ≤ 8) ∧ (-2147483648 ≤ (pl + 1) ∧ (pl + 1) ≤ 2147483647) := ⟨_, rfl, (Or.inl ⟨rfl, by obtain ⟨_, e1, e2⟩ := hz_108_0 (by omega); rw [e1, e2]; exact RdS_e hI (by omega) (by omega) (by omega) hpp.2 (by omega), by omega⟩), hz_108_2, (by first | omega | assumption | (intros; first | rfl | omega | assumption | (and_intros <;> first | rfl | omega | assumption))), (by first | omega | assumption | (intros; first | rfl | omega | assumption | (and_intros <;> first | rfl | omega | assumption)))⟩
                      exact z_zret C hr rfl hlocks hW (n2_108, f2_108, pl + 1) rfl hP9 dX1_readsNumbers_130
          refine lv_iload C.1 C.2.1 dX1_readsNumbers_47 (lv_at hl 0 rfl) ?_
          refine lv_bipush (v := iI 48) C.1 C.2.1 dX1_readsNumbers_49 (by decide +kernel) ?_
          refine z_icmp_lt (tgt := 84) C dX1_readsNumbers_51 (by decide) (by omega) (fun c_51 => ?_) (fun c_51 => ?_)
          ·
            exact cut_84 (by have h42 := hz_42_0 (by omega); omega) _ _ _ hW (lv_sub hl [0, 1, 2, 3, 4, 5, 6] rfl)
          ·
            refine lv_iload C.1 C.2.1 dX1_readsNumbers_54 (lv_at hl 0 rfl) ?_
            refine lv_bipush (v := iI 57) C.1 C.2.1 dX1_readsNumbers_56 (by decide +kernel) ?_
            refine z_icmp_gt (tgt := 84) C dX1_readsNumbers_58 (by decide) (by omega) (fun c_58 => ?_) (fun c_58 => ?_)
            ·
              exact cut_84 (by have h42 := hz_42_0 (by omega); omega) _ _ _ hW (lv_sub hl [0, 1, 2, 3, 4, 5, 6] rfl)
            ·
              refine lv_iload C.1 C.2.1 dX1_readsNumbers_61 (lv_at hl 2 rfl) ?_
              refine lv_iconst (v := iI 2) C.1 C.2.1 dX1_readsNumbers_63 rfl ?_
              refine z_icmp_ge (tgt := 84) C dX1_readsNumbers_64 (by decide) (by omega) (fun c_64 => ?_) (fun c_64 => ?_)
              ·
                exact cut_84 (by have h42 := hz_42_0 (by omega); omega) _ _ _ hW (lv_sub hl [0, 1, 2, 3, 4, 5, 6] rfl)
              ·
                refine lv_bipush (v := iI 10) C.1 C.2.1 dX1_readsNumbers_67 (by decide +kernel) ?_
                refine lv_iload_n C.1 C.2.1 dX1_readsNumbers_69 rfl (lv_at hl 3 rfl) ?_
                refine z_imul C dX1_readsNumbers_70 ?_
                refine lv_iload C.1 C.2.1 dX1_readsNumbers_71 (lv_at hl 0 rfl) ?_
                refine z_iadd C dX1_readsNumbers_73 ?_
                refine lv_bipush (v := iI 48) C.1 C.2.1 dX1_readsNumbers_74 (by decide +kernel) ?_
                refine z_isub C dX1_readsNumbers_76 ?_
                refine lv_istore_n (lv' := [(3, .int (iI (((10 * val) + z_42) - 48))), (6, .int (iI z_42)), (5, .int (iI pl)), (4, .int (iI fig)), (0, .ref h), (1, .ref th), (2, .int (iI p))]) C.1 C.2.1 dX1_readsNumbers_77 rfl hl (by decide) rfl (fun ls hl => ?_)
                refine lv_iinc (v := iI (fig + 1)) (lv' := [(4, .int (iI (fig + 1))), (3, .int (iI (((10 * val) + z_42) - 48))), (6, .int (iI z_42)), (5, .int (iI pl)), (0, .ref h), (1, .ref th), (2, .int (iI p))]) C.1 C.2.1 dX1_readsNumbers_78 hl (k := 3) rfl (iI_add _ _) (by decide) rfl (fun ls hl => ?_)
                refine lv_goto (tgt := 141) C.1 C.2.1 dX1_readsNumbers_81 (by decide) ?_
                refine lv_iinc (v := iI (pl + 1)) (lv' := [(5, .int (iI (pl + 1))), (4, .int (iI (fig + 1))), (3, .int (iI (((10 * val) + z_42) - 48))), (6, .int (iI z_42)), (0, .ref h), (1, .ref th), (2, .int (iI p))]) C.1 C.2.1 dX1_readsNumbers_141 hl (k := 3) rfl (iI_add _ _) (by decide) rfl (fun ls hl => ?_)
                refine lv_goto (tgt := 30) C.1 C.2.1 dX1_readsNumbers_144 (by decide) ?_
                exact ih_30 (((10 * val) + z_42) - 48) (fig + 1) (pl + 1) c f1 (by have h42 := hz_42_0 (by omega); first | (rw [h42]; exact RdS_d hI (by omega) (by omega) (by omega)) | (obtain ⟨_, e1, e2⟩ := hz_108_0 (by omega); rw [e1, e2]; exact RdS_c hI (by omega) (by omega) (by omega))) (by first | omega | assumption | (intros; first | rfl | omega | assumption | (and_intros <;> first | rfl | omega | assumption))) hc hf1 (by omega) _ _ _ hW (lv_sub hl [0, 1, 2, 4, 5, 6] rfl)
    exact cut_30 (((T - (p + 1)) + 1 : Int)).toNat 0 0 (p + 1) 0 rf (RdS_0 (by omega)) (by first | omega | assumption | (intros; first | rfl | omega | assumption | (and_intros <;> first | rfl | omega | assumption))) (by first | omega | assumption | (intros; first | rfl | omega | assumption | (and_intros <;> first | rfl | omega | assumption))) hrf (by omega) _ _ _ hW (lv_sub hl [0, 1, 2, 3, 4, 5] rfl)
  ·
    refine lv_iconst (v := iI 0) C.1 C.2.1 dX1_readsNumbers_18 rfl ?_
    rw [hQ]
    have hP9 : ∃ z : Int, (some (Value.int (iI 0))) = some (.int (iI z)) ∧ ((z = 1 ∧ ItemL t T p (0 : Int) en rf ∧ (0 : Int) ≤ 8) ∨ (z = 0 ∧ ∀ c e f, ItemL t T p c e f → 8 < c)) ∧ (BD rf) ∧ (0 ≤ (0 : Int) ∧ (0 : Int) ≤ 8) ∧ (-2147483648 ≤ en ∧ en ≤ 2147483647) := ⟨_, rfl, (Or.inr ⟨rfl, fun c e f hh => absurd hh.2.1 (by omega)⟩), hrf, (by first | omega | assumption | (intros; first | rfl | omega | assumption | (and_intros <;> first | rfl | omega | assumption))), hen⟩
    exact z_zret C hr rfl hlocks hW (0, rf, en) rfl hP9 dX1_readsNumbers_19
set_option maxHeartbeats 4000000 in
set_option maxRecDepth 100000 in
/-- Item.standsAt -/
theorem c_X1_standsAt (l : Launch) (G : GG) (h : Nat) (rs : Nat) (ra : Nat) (bs : Nat) (en : Int) (rn : Int) (rf : Int → Int) (ba : Nat) (bn : Int) (bf : Int → Int) (th : Nat) (ta : Nat) (T : Int) (t : Int → Int) (p : Int) (hrn : 0 ≤ rn ∧ rn ≤ 8) (hrf : BD rf) (hT : 0 ≤ T ∧ T ≤ 120) (htb : BD t) (hen : -2147483648 ≤ en ∧ en ≤ 2147483647) (hbn : 0 ≤ bn ∧ bn ≤ 6) (hbf : BD bf) (hpp : 0 ≤ p ∧ p < T) : MQc l yX1_standsAt wsX1_standsAt 2 G [.ref h, .ref th, .int (iI p)] [(h, .inr (0, [.ref rs, .ref bs, .int (iI en)])), (rs, .inr (5, [.ref ra, .int (iI rn)])), (ra, .inl (G.2.1 0, 8, .inl (iA rf))), (bs, .inr (5, [.ref ba, .int (iI bn)])), (ba, .inl (G.2.1 0, 6, .inl (iA bf))), (th, .inr (5, [.ref ta, .int (iI T)])), (ta, .inl (G.2.1 0, 120, .inl (iA t)))] (fun r (u : Int × (Int → Int) × Int × (Int → Int) × Int) => ∃ z : Int, r = some (.int (iI z)) ∧ ((z = 1 ∧ ItemR t T p u.2.2.2.2 (u.2.1 0) (u.2.1 1) u.2.2.1 u.2.2.2.1 ∧ 2 ≤ u.1) ∨ (z = 0 ∧ ∀ e q s n B, ¬ ItemR t T p e q s n B)) ∧ (BD u.2.1) ∧ (BD u.2.2.2.1) ∧ (0 ≤ u.1 ∧ u.1 ≤ 8) ∧ (0 ≤ u.2.2.1 ∧ u.2.2.1 ≤ 6) ∧ (-2147483648 ≤ u.2.2.2.2 ∧ u.2.2.2.2 ≤ 2147483647)) (fun u => [(h, .inr (0, [.ref rs, .ref bs, .int (iI u.2.2.2.2)])), (rs, .inr (5, [.ref ra, .int (iI u.1)])), (ra, .inl (G.2.1 0, 8, .inl (iA u.2.1))), (bs, .inr (5, [.ref ba, .int (iI u.2.2.1)])), (ba, .inl (G.2.1 0, 6, .inl (iA u.2.2.2.1))), (th, .inr (5, [.ref ta, .int (iI T)])), (ta, .inl (G.2.1 0, 120, .inl (iA t)))]) := by
  refine MQc.start (own := RX1) (by decide) rfl rfl (Nat.le_of_ble_eq_true rfl) ?_
  intro p9 e9 s9 m9 args below meth c9 A Q C hK hW hA hr hlocks hQ ls hl
  have hl : lv_has ls 4 [(0, .ref h), (1, .ref th), (2, .int (iI p))] := hl
  have hin1 : ∀ w ∈ wsX10, w ∈ wsX1_standsAt := by decide +kernel
  have hin6 : ∀ w ∈ wsX60, w ∈ wsX1_standsAt := by decide +kernel
  refine lv_aload_n C.1 C.2.1 dX1_standsAt_0 rfl (lv_at hl 0 rfl) ?_
  refine lv_aload_n C.1 C.2.1 dX1_standsAt_1 rfl (lv_at hl 1 rfl) ?_
  refine lv_iload_n C.1 C.2.1 dX1_standsAt_2 rfl (lv_at hl 2 rfl) ?_
  refine z_call (va_runV (As := [.ref th, .int (iI p)]) (rest := []) C (c_X1_readsNumbers l G h rs ra bs en rn rf th ta T t p hrn hrf hT htb hpp hen s9.heap.size) (cwV 2 C.2.2.2.2 gX1_standsAt_X1_readsNumbers rfl rfl rfl (by decide +kernel) ⟨Nat.le_of_ble_eq_true rfl, Nat.le_of_ble_eq_true rfl⟩) (z_preV hK hW hA [0, 1, 2, 5, 6] rfl (by decide) (ci := 0) (q0 := 0) rfl rfl) rfl rfl hl.1 rfl (lv_room (Nat.le_of_ble_eq_true rfl)) dX1_standsAt_3 ⟨Nat.zero_le _, Nat.zero_le _⟩) hW hA [0, 1, 2, 5, 6] rfl (by decide) (fun _ => rfl) (fun r u H locs hp hW => ?_)
  obtain ⟨rn2_3, rf2_3, en2_3⟩ := u
  have hp : ∃ z : Int, r = some (.int (iI z)) ∧ ((z = 1 ∧ ItemL t T p rn2_3 en2_3 rf2_3 ∧ rn2_3 ≤ 8) ∨ (z = 0 ∧ ∀ c e f, ItemL t T p c e f → 8 < c)) ∧ (BD rf2_3) ∧ (0 ≤ rn2_3 ∧ rn2_3 ≤ 8) ∧ (-2147483648 ≤ en2_3 ∧ en2_3 ≤ 2147483647) := hp
  obtain ⟨z_3, rfl, hz_3_0, hz_3_1, hz_3_2, hz_3_3⟩ := hp
  have hW : Wd G A s9.heap [(h, .inr (0, [.ref rs, .ref bs, .int (iI en2_3)])), (rs, .inr (5, [.ref ra, .int (iI rn2_3)])), (ra, .inl (G.2.1 0, 8, .inl (iA rf2_3))), (bs, .inr (5, [.ref ba, .int (iI bn)])), (ba, .inl (G.2.1 0, 6, .inl (iA bf))), (th, .inr (5, [.ref ta, .int (iI T)])), (ta, .inl (G.2.1 0, 120, .inl (iA t)))] H locs := hW
  refine z_if_eq (tgt := 24) C dX1_standsAt_6 (by decide) (by omega) (fun c_6 => ?_) (fun c_6 => ?_)
  ·
    have hz6 := hz_3_0.elim (fun q => absurd q.1 (by omega)) (fun q => q.2)
    refine lv_iconst (v := iI 0) C.1 C.2.1 dX1_standsAt_24 rfl ?_
    rw [hQ]
    have hP9 : ∃ z : Int, (some (Value.int (iI 0))) = some (.int (iI z)) ∧ ((z = 1 ∧ ItemR t T p en2_3 (rf2_3 0) (rf2_3 1) bn bf ∧ 2 ≤ rn2_3) ∨ (z = 0 ∧ ∀ e q s n B, ¬ ItemR t T p e q s n B)) ∧ (BD rf2_3) ∧ (BD bf) ∧ (0 ≤ rn2_3 ∧ rn2_3 ≤ 8) ∧ (0 ≤ bn ∧ bn ≤ 6) ∧ (-2147483648 ≤ en2_3 ∧ en2_3 ≤ 2147483647) := ⟨_, rfl, (Or.inr ⟨rfl, fun e r s n B hR => by obtain ⟨c, f, g1, g2, g3, g4, g5, g6, -⟩ := hR; first | (have := hz6 c e f g1; omega) | (have g7 := (ItemL_fun hz6.1 g1).2.2 0 (by omega) (by omega); omega)⟩), hz_3_1, hbf, hz_3_2, hbn, hz_3_3⟩
    exact z_zret C hr rfl hlocks hW (rn2_3, rf2_3, bn, bf, en2_3) rfl hP9 dX1_standsAt_25
  ·
    have hz6 := hz_3_0.elim (fun q => q.2) (fun q => absurd q.1 c_6)
    have hzb := ItemL_b hz6.1
    have hrs1 := hzb.2.2.2 0 (by omega) (by omega)
    refine lv_aload_n C.1 C.2.1 dX1_standsAt_9 rfl (lv_at hl 0 rfl) ?_
    refine z_callR (va_runV (As := []) (rest := []) C (c_X1_register l G h rs ra bs en2_3 rn2_3 rf2_3 hz_3_2 hz_3_1 H.size) (cwV 0 C.2.2.2.2 gX1_standsAt_X1_register rfl rfl rfl (by decide +kernel) ⟨Nat.le_of_ble_eq_true rfl, Nat.le_of_ble_eq_true rfl⟩) (z_preV hK hW hA [0, 1, 2] rfl (by decide) (ci := 0) (q0 := 0) rfl rfl) rfl rfl hl.1 rfl (lv_room (Nat.le_of_ble_eq_true rfl)) dX1_standsAt_10 ⟨Nat.zero_le _, Nat.zero_le _⟩) (fun r hp => ?_)
    have hp : ∃ z : Int, r = some (.int (iI z)) ∧ (0 < rn2_3 → z = rf2_3 0) ∧ (rn2_3 ≤ 0 → z = -4) ∧ (-2147483648 ≤ z ∧ z ≤ 2147483647) := hp
    obtain ⟨z_10, rfl, hz_10_0, hz_10_1, hz_10_2⟩ := hp
    have h10 := hz_10_0 (by omega)
    refine z_if_lt (tgt := 24) C dX1_standsAt_13 (by decide) (by omega) (fun c_13 => ?_) (fun c_13 => ?_)
    ·
      refine lv_iconst (v := iI 0) C.1 C.2.1 dX1_standsAt_24 rfl ?_
      rw [hQ]
      have hP9 : ∃ z : Int, (some (Value.int (iI 0))) = some (.int (iI z)) ∧ ((z = 1 ∧ ItemR t T p en2_3 (rf2_3 0) (rf2_3 1) bn bf ∧ 2 ≤ rn2_3) ∨ (z = 0 ∧ ∀ e q s n B, ¬ ItemR t T p e q s n B)) ∧ (BD rf2_3) ∧ (BD bf) ∧ (0 ≤ rn2_3 ∧ rn2_3 ≤ 8) ∧ (0 ≤ bn ∧ bn ≤ 6) ∧ (-2147483648 ≤ en2_3 ∧ en2_3 ≤ 2147483647) := ⟨_, rfl, (Or.inr ⟨rfl, fun e r s n B hR => by obtain ⟨c, f, g1, g2, g3, g4, g5, g6, -⟩ := hR; first | (have := hz6 c e f g1; omega) | (have g7 := (ItemL_fun hz6.1 g1).2.2 0 (by omega) (by omega); omega)⟩), hz_3_1, hbf, hz_3_2, hbn, hz_3_3⟩
      exact z_zret C hr rfl hlocks hW (rn2_3, rf2_3, bn, bf, en2_3) rfl hP9 dX1_standsAt_25
    ·
      refine lv_aload_n C.1 C.2.1 dX1_standsAt_16 rfl (lv_at hl 0 rfl) ?_
      refine z_callR (va_runV (As := []) (rest := []) C (c_X1_register l G h rs ra bs en2_3 rn2_3 rf2_3 hz_3_2 hz_3_1 H.size) (cwV 0 C.2.2.2.2 gX1_standsAt_X1_register rfl rfl rfl (by decide +kernel) ⟨Nat.le_of_ble_eq_true rfl, Nat.le_of_ble_eq_true rfl⟩) (z_preV hK hW hA [0, 1, 2] rfl (by decide) (ci := 0) (q0 := 0) rfl rfl) rfl rfl hl.1 rfl (lv_room (Nat.le_of_ble_eq_true rfl)) dX1_standsAt_17 ⟨Nat.zero_le _, Nat.zero_le _⟩) (fun r hp => ?_)
      have hp : ∃ z : Int, r = some (.int (iI z)) ∧ (0 < rn2_3 → z = rf2_3 0) ∧ (rn2_3 ≤ 0 → z = -4) ∧ (-2147483648 ≤ z ∧ z ≤ 2147483647) := hp
      obtain ⟨z_17, rfl, hz_17_0, hz_17_1, hz_17_2⟩ := hp
      have h17 := hz_17_0 (by omega)
      refine lv_iconst (v := iI 4) C.1 C.2.1 dX1_standsAt_20 rfl ?_
      refine z_icmp_lt (tgt := 26) C dX1_standsAt_21 (by decide) (by omega) (fun c_21 => ?_) (fun c_21 => ?_)
      ·
        refine lv_aload_n C.1 C.2.1 dX1_standsAt_26 rfl (lv_at hl 0 rfl) ?_
        refine z_get C hK hW hin1 (v := .ref bs) 0 rfl rfl 1 (by decide) (C.2.2.2.2 (.fieldLink RX1 20 "TellingRows$Item" "beginnings" "LTellingRows$Sequence;") (List.mem_of_getElem? (i := 1) rfl)) (fun _ h9 => h9) rfl dX1_standsAt_27 ?_
        refine z_call (va_runV (As := []) (rest := []) C (c_X6_clear l G bs ba 6 bn bf  H.size) (cwV 0 C.2.2.2.2 gX1_standsAt_X6_clear rfl rfl rfl (by decide +kernel) ⟨Nat.le_of_ble_eq_true rfl, Nat.le_of_ble_eq_true rfl⟩) (z_preV hK hW hA [3, 4] rfl (by decide) (ci := 5) (q0 := 3) rfl rfl) rfl rfl hl.1 rfl (lv_room (Nat.le_of_ble_eq_true rfl)) dX1_standsAt_30 ⟨Nat.zero_le _, Nat.zero_le _⟩) hW hA [3, 4] rfl (by decide) (fun _ => rfl) (fun r u H locs hp hW => ?_)
        have hp : ∃ z : Int, r = some (.int (iI z)) ∧ (z = bn) := hp
        obtain ⟨z_30, rfl, hz_30_0⟩ := hp
        have hW : Wd G A s9.heap [(h, .inr (0, [.ref rs, .ref bs, .int (iI en2_3)])), (rs, .inr (5, [.ref ra, .int (iI rn2_3)])), (ra, .inl (G.2.1 0, 8, .inl (iA rf2_3))), (bs, .inr (5, [.ref ba, .int (iI 0)])), (ba, .inl (G.2.1 0, 6, .inl (iA bf))), (th, .inr (5, [.ref ta, .int (iI T)])), (ta, .inl (G.2.1 0, 120, .inl (iA t)))] H locs := hW
        refine lv_pop C.1 C.2.1 dX1_standsAt_33 rfl ?_
        refine lv_iconst (v := iI 2) C.1 C.2.1 dX1_standsAt_34 rfl ?_
        refine lv_istore_n (lv' := [(3, .int (iI 2)), (0, .ref h), (1, .ref th), (2, .int (iI p))]) C.1 C.2.1 dX1_standsAt_35 rfl hl (by decide) rfl (fun ls hl => ?_)
        have cut_36 : ∀ (n9 : Nat) (i : Int) (b1 : Int) (f1 : Int → Int), (2 ≤ i ∧ (i = 2 ∨ i ≤ rn2_3)) → (b1 = i - 2) → (BD f1) → (∀ j, 0 ≤ j → j < i - 2 → f1 j = rf2_3 (j + 2)) → (rn2_3 + 2 - i < (n9 : Int)) → ∀ (H : Heap) (locs : List Loc) (ls : Array Slot), Wd G A s9.heap [(h, .inr (0, [.ref rs, .ref bs, .int (iI en2_3)])), (rs, .inr (5, [.ref ra, .int (iI rn2_3)])), (ra, .inl (G.2.1 0, 8, .inl (iA rf2_3))), (bs, .inr (5, [.ref ba, .int (iI b1)])), (ba, .inl (G.2.1 0, 6, .inl (iA f1))), (th, .inr (5, [.ref ta, .int (iI T)])), (ta, .inl (G.2.1 0, 120, .inl (iA t)))] H locs → lv_has ls 4 [(3, .int (iI i)), (0, .ref h), (1, .ref th), (2, .int (iI p))] → W p9 l e9 (rmL 2) s9 m9 args below meth c9 H locs 0 0 Q (F0 m9 36 ls []) := by
          intro n9
          induction n9 with
          | zero => intro i b1 f1 hi hb1 hf1 he hmu; intros; exfalso; omega
          | succ n9 ih_36 =>
            intro i b1 f1 hi hb1 hf1 he hmu H locs ls hW hl
            refine lv_iload_n C.1 C.2.1 dX1_standsAt_36 rfl (lv_at hl 0 rfl) ?_
            refine lv_aload_n C.1 C.2.1 dX1_standsAt_37 rfl (lv_at hl 1 rfl) ?_
            refine z_get C hK hW hin1 (v := .ref rs) 0 rfl rfl 0 (by decide) (C.2.2.2.2 (.fieldLink RX1 14 "TellingRows$Item" "read" "LTellingRows$Sequence;") (List.mem_of_getElem? (i := 2) rfl)) (fun _ h9 => h9) rfl dX1_standsAt_38 ?_
            refine z_callR (va_runV (As := []) (rest := [.int (iI i)]) C (c_X6_size l G rs ra 8 rn2_3 rf2_3  H.size) (cwV 0 C.2.2.2.2 gX1_standsAt_X6_size rfl rfl rfl (by decide +kernel) ⟨Nat.le_of_ble_eq_true rfl, Nat.le_of_ble_eq_true rfl⟩) (z_preV hK hW hA [1, 2] rfl (by decide) (ci := 5) (q0 := 1) rfl rfl) rfl rfl hl.1 rfl (lv_room (Nat.le_of_ble_eq_true rfl)) dX1_standsAt_41 ⟨Nat.zero_le _, Nat.zero_le _⟩) (fun r hp => ?_)
            have hp : ∃ z : Int, r = some (.int (iI z)) ∧ (z = rn2_3) := hp
            obtain ⟨z_41, rfl, hz_41_0⟩ := hp
            refine z_icmp_ge (tgt := 69) C dX1_standsAt_44 (by decide) (by omega) (fun c_44 => ?_) (fun c_44 => ?_)
            ·
              refine lv_aload_n C.1 C.2.1 dX1_standsAt_69 rfl (lv_at hl 1 rfl) ?_
              refine z_callR (va_runV (As := []) (rest := []) C (c_X1_sort l G h rs ra bs en2_3 rn2_3 rf2_3 hz_3_2 hz_3_1 H.size) (cwV 0 C.2.2.2.2 gX1_standsAt_X1_sort rfl rfl rfl (by decide +kernel) ⟨Nat.le_of_ble_eq_true rfl, Nat.le_of_ble_eq_true rfl⟩) (z_preV hK hW hA [0, 1, 2] rfl (by decide) (ci := 0) (q0 := 0) rfl rfl) rfl rfl hl.1 rfl (lv_room (Nat.le_of_ble_eq_true rfl)) dX1_standsAt_70 ⟨Nat.zero_le _, Nat.zero_le _⟩) (fun r hp => ?_)
              have hp : ((r = some .null ∧ ¬ (1 < rn2_3 ∧ 0 ≤ rf2_3 1 ∧ rf2_3 1 < 7)) ∨ (r = some (.ref (G.2.2 (rf2_3 1).toNat)) ∧ (1 < rn2_3 ∧ 0 ≤ rf2_3 1 ∧ rf2_3 1 < 7))) := hp
              have hq_70 := hp
              rcases hq_70 with ⟨rfl, hd_70⟩ | ⟨rfl, hd_70⟩
              ·
                refine lv_astore_nN (lv' := [(3, .null), (0, .ref h), (1, .ref th), (2, .int (iI p))]) C.1 C.2.1 dX1_standsAt_73 rfl hl (by decide) rfl (fun ls hl => ?_)
                refine lv_aload_nN C.1 C.2.1 dX1_standsAt_74 rfl (lv_at hl 0 rfl) ?_
                refine lv_ifnullN (tgt := 93) C.1 C.2.1 dX1_standsAt_75 (by decide) ?_
                refine lv_iconst (v := iI 0) C.1 C.2.1 dX1_standsAt_93 rfl ?_
                rw [hQ]
                have hP9 : ∃ z : Int, (some (Value.int (iI 0))) = some (.int (iI z)) ∧ ((z = 1 ∧ ItemR t T p en2_3 (rf2_3 0) (rf2_3 1) b1 f1 ∧ 2 ≤ rn2_3) ∨ (z = 0 ∧ ∀ e q s n B, ¬ ItemR t T p e q s n B)) ∧ (BD rf2_3) ∧ (BD f1) ∧ (0 ≤ rn2_3 ∧ rn2_3 ≤ 8) ∧ (0 ≤ b1 ∧ b1 ≤ 6) ∧ (-2147483648 ≤ en2_3 ∧ en2_3 ≤ 2147483647) := ⟨_, rfl, (by first | (have hA9 := hz_83_0.elim (fun q => q.2) (fun q => absurd q.1 c_86); exact Or.inl ⟨rfl, ⟨rn2_3, rf2_3, hz6.1, by omega, by omega, rfl, by omega, by omega, rfl, by omega, by omega, by omega, fun j j0 j1 => he j j0 (by omega), hA9⟩, by omega⟩) | exact Or.inr ⟨rfl, fun e r s n B hR => by obtain ⟨c, f, g1, g2, g3, g4, g5, g6, g7, g8, g9, ga, gb, gc⟩ := hR; obtain ⟨k1, k2, k3⟩ := ItemL_fun hz6.1 g1; have k4 := k3 1 (by omega) (by omega); first | omega | (refine (hz_83_0.elim (fun q => absurd c_86 (by omega)) (fun q => q.2)) ?_; rw [show (rf2_3 1).toNat = s.toNat by omega, show b1 = n by omega]; exact AllowsR_congr (fun j j0 j1 => by rw [gb j j0 j1, he j j0 (by omega)]; exact (k3 (j + 2) (by omega) (by omega)).symm) gc)⟩), hz_3_1, hf1, hz_3_2, (by first | omega | assumption | (intros; first | rfl | omega | assumption | (and_intros <;> first | rfl | omega | assumption))), hz_3_3⟩
                exact z_zret C hr rfl hlocks hW (rn2_3, rf2_3, b1, f1, en2_3) rfl hP9 dX1_standsAt_94
              ·
                refine lv_astore_n (lv' := [(3, .ref (G.2.2 (rf2_3 1).toNat)), (0, .ref h), (1, .ref th), (2, .int (iI p))]) C.1 C.2.1 dX1_standsAt_73 rfl hl (by decide) rfl (fun ls hl => ?_)
                refine lv_aload_n C.1 C.2.1 dX1_standsAt_74 rfl (lv_at hl 0 rfl) ?_
                refine lv_ifnull C.1 C.2.1 dX1_standsAt_75 ?_
                refine lv_aload_n C.1 C.2.1 dX1_standsAt_78 rfl (lv_at hl 0 rfl) ?_
                refine lv_aload_n C.1 C.2.1 dX1_standsAt_79 rfl (lv_at hl 1 rfl) ?_
                refine z_get C hK hW hin1 (v := .ref bs) 0 rfl rfl 1 (by decide) (C.2.2.2.2 (.fieldLink RX1 20 "TellingRows$Item" "beginnings" "LTellingRows$Sequence;") (List.mem_of_getElem? (i := 1) rfl)) (fun _ h9 => h9) rfl dX1_standsAt_80 ?_
                refine z_callR (va_runV (As := [.ref bs]) (rest := []) C (c_X7_allows l G ((rf2_3 1).toNat) bs ba 6 b1 f1 (by omega) (by first | omega | assumption | (intros; first | rfl | omega | assumption | (and_intros <;> first | rfl | omega | assumption))) (by first | omega | assumption | (intros; first | rfl | omega | assumption | (and_intros <;> first | rfl | omega | assumption))) hf1 H.size) (cwV 1 C.2.2.2.2 gX1_standsAt_X7_allows rfl rfl rfl (by decide +kernel) ⟨Nat.le_of_ble_eq_true rfl, Nat.le_of_ble_eq_true rfl⟩) (z_preE hK hW hA [3, 4] rfl (by decide) (by omega)) rfl rfl hl.1 rfl (lv_room (Nat.le_of_ble_eq_true rfl)) dX1_standsAt_83 ⟨Nat.zero_le _, Nat.zero_le _⟩) (fun r hp => ?_)
                have hp : ∃ z : Int, r = some (.int (iI z)) ∧ ((z = 1 ∧ AllowsR ((rf2_3 1).toNat) b1 f1) ∨ (z = 0 ∧ ¬ AllowsR ((rf2_3 1).toNat) b1 f1)) := hp
                obtain ⟨z_83, rfl, hz_83_0⟩ := hp
                refine z_if_eq (tgt := 93) C dX1_standsAt_86 (by decide) (by omega) (fun c_86 => ?_) (fun c_86 => ?_)
                ·
                  refine lv_iconst (v := iI 0) C.1 C.2.1 dX1_standsAt_93 rfl ?_
                  rw [hQ]
                  have hP9 : ∃ z : Int, (some (Value.int (iI 0))) = some (.int (iI z)) ∧ ((z = 1 ∧ ItemR t T p en2_3 (rf2_3 0) (rf2_3 1) b1 f1 ∧ 2 ≤ rn2_3) ∨ (z = 0 ∧ ∀ e q s n B, ¬ ItemR t T p e q s n B)) ∧ (BD rf2_3) ∧ (BD f1) ∧ (0 ≤ rn2_3 ∧ rn2_3 ≤ 8) ∧ (0 ≤ b1 ∧ b1 ≤ 6) ∧ (-2147483648 ≤ en2_3 ∧ en2_3 ≤ 2147483647) := ⟨_, rfl, (by first | (have hA9 := hz_83_0.elim (fun q => q.2) (fun q => absurd q.1 c_86); exact Or.inl ⟨rfl, ⟨rn2_3, rf2_3, hz6.1, by omega, by omega, rfl, by omega, by omega, rfl, by omega, by omega, by omega, fun j j0 j1 => he j j0 (by omega), hA9⟩, by omega⟩) | exact Or.inr ⟨rfl, fun e r s n B hR => by obtain ⟨c, f, g1, g2, g3, g4, g5, g6, g7, g8, g9, ga, gb, gc⟩ := hR; obtain ⟨k1, k2, k3⟩ := ItemL_fun hz6.1 g1; have k4 := k3 1 (by omega) (by omega); first | omega | (refine (hz_83_0.elim (fun q => absurd c_86 (by omega)) (fun q => q.2)) ?_; rw [show (rf2_3 1).toNat = s.toNat by omega, show b1 = n by omega]; exact AllowsR_congr (fun j j0 j1 => by rw [gb j j0 j1, he j j0 (by omega)]; exact (k3 (j + 2) (by omega) (by omega)).symm) gc)⟩), hz_3_1, hf1, hz_3_2, (by first | omega | assumption | (intros; first | rfl | omega | assumption | (and_intros <;> first | rfl | omega | assumption))), hz_3_3⟩
                  exact z_zret C hr rfl hlocks hW (rn2_3, rf2_3, b1, f1, en2_3) rfl hP9 dX1_standsAt_94
                ·
                  refine lv_iconst (v := iI 1) C.1 C.2.1 dX1_standsAt_89 rfl ?_
                  refine lv_goto (tgt := 94) C.1 C.2.1 dX1_standsAt_90 (by decide) ?_
                  rw [hQ]
                  have hP9 : ∃ z : Int, (some (Value.int (iI 1))) = some (.int (iI z)) ∧ ((z = 1 ∧ ItemR t T p en2_3 (rf2_3 0) (rf2_3 1) b1 f1 ∧ 2 ≤ rn2_3) ∨ (z = 0 ∧ ∀ e q s n B, ¬ ItemR t T p e q s n B)) ∧ (BD rf2_3) ∧ (BD f1) ∧ (0 ≤ rn2_3 ∧ rn2_3 ≤ 8) ∧ (0 ≤ b1 ∧ b1 ≤ 6) ∧ (-2147483648 ≤ en2_3 ∧ en2_3 ≤ 2147483647) := ⟨_, rfl, (by first | (have hA9 := hz_83_0.elim (fun q => q.2) (fun q => absurd q.1 c_86); exact Or.inl ⟨rfl, ⟨rn2_3, rf2_3, hz6.1, by omega, by omega, rfl, by omega, by omega, rfl, by omega, by omega, by omega, fun j j0 j1 => he j j0 (by omega), hA9⟩, by omega⟩) | exact Or.inr ⟨rfl, fun e r s n B hR => by obtain ⟨c, f, g1, g2, g3, g4, g5, g6, g7, g8, g9, ga, gb, gc⟩ := hR; obtain ⟨k1, k2, k3⟩ := ItemL_fun hz6.1 g1; have k4 := k3 1 (by omega) (by omega); first | omega | (refine (hz_83_0.elim (fun q => absurd c_86 (by omega)) (fun q => q.2)) ?_; rw [show (rf2_3 1).toNat = s.toNat by omega, show b1 = n by omega]; exact AllowsR_congr (fun j j0 j1 => by rw [gb j j0 j1, he j j0 (by omega)]; exact (k3 (j + 2) (by omega) (by omega)).symm) gc)⟩), hz_3_1, hf1, hz_3_2, (by first | omega | assumption | (intros; first | rfl | omega | assumption | (and_intros <;> first | rfl | omega | assumption))), hz_3_3⟩
                  exact z_zret C hr rfl hlocks hW (rn2_3, rf2_3, b1, f1, en2_3) rfl hP9 dX1_standsAt_94
            ·
              refine lv_aload_n C.1 C.2.1 dX1_standsAt_47 rfl (lv_at hl 1 rfl) ?_
              refine z_get C hK hW hin1 (v := .ref bs) 0 rfl rfl 1 (by decide) (C.2.2.2.2 (.fieldLink RX1 20 "TellingRows$Item" "beginnings" "LTellingRows$Sequence;") (List.mem_of_getElem? (i := 1) rfl)) (fun _ h9 => h9) rfl dX1_standsAt_48 ?_
              refine lv_aload_n C.1 C.2.1 dX1_standsAt_51 rfl (lv_at hl 1 rfl) ?_
              refine z_get C hK hW hin1 (v := .ref rs) 0 rfl rfl 0 (by decide) (C.2.2.2.2 (.fieldLink RX1 14 "TellingRows$Item" "read" "LTellingRows$Sequence;") (List.mem_of_getElem? (i := 2) rfl)) (fun _ h9 => h9) rfl dX1_standsAt_52 ?_
              refine lv_iload_n C.1 C.2.1 dX1_standsAt_55 rfl (lv_at hl 0 rfl) ?_
              refine z_callR (va_runV (As := [.int (iI i)]) (rest := [.ref bs]) C (c_X6_get l G rs ra 8 rn2_3 rf2_3 i (by first | omega | assumption | (intros; first | rfl | omega | assumption | (and_intros <;> first | rfl | omega | assumption))) (by first | omega | assumption | (intros; first | rfl | omega | assumption | (and_intros <;> first | rfl | omega | assumption))) hz_3_1 (by first | omega | assumption | (intros; first | rfl | omega | assumption | (and_intros <;> first | rfl | omega | assumption))) H.size) (cwV 1 C.2.2.2.2 gX1_standsAt_X6_get rfl rfl rfl (by decide +kernel) ⟨Nat.le_of_ble_eq_true rfl, Nat.le_of_ble_eq_true rfl⟩) (z_preV hK hW hA [1, 2] rfl (by decide) (ci := 5) (q0 := 1) rfl rfl) rfl rfl hl.1 rfl (lv_room (Nat.le_of_ble_eq_true rfl)) dX1_standsAt_56 ⟨Nat.zero_le _, Nat.zero_le _⟩) (fun r hp => ?_)
              have hp : ∃ z : Int, r = some (.int (iI z)) ∧ ((0 ≤ i ∧ i < rn2_3 → z = rf2_3 i)) ∧ ((¬ (0 ≤ i ∧ i < rn2_3) → z = -4)) ∧ (-2147483648 ≤ z ∧ z ≤ 2147483647) := hp
              obtain ⟨z_56, rfl, hz_56_0, hz_56_1, hz_56_2⟩ := hp
              refine z_call (va_runV (As := [.int (iI z_56)]) (rest := []) C (c_X6_add l G bs ba 6 b1 f1 z_56 (by first | omega | assumption | (intros; first | rfl | omega | assumption | (and_intros <;> first | rfl | omega | assumption))) (by first | omega | assumption | (intros; first | rfl | omega | assumption | (and_intros <;> first | rfl | omega | assumption))) hf1 hz_56_2 H.size) (cwV 1 C.2.2.2.2 gX1_standsAt_X6_add rfl rfl rfl (by decide +kernel) ⟨Nat.le_of_ble_eq_true rfl, Nat.le_of_ble_eq_true rfl⟩) (z_preV hK hW hA [3, 4] rfl (by decide) (ci := 5) (q0 := 3) rfl rfl) rfl rfl hl.1 rfl (lv_room (Nat.le_of_ble_eq_true rfl)) dX1_standsAt_59 ⟨Nat.zero_le _, Nat.zero_le _⟩) hW hA [3, 4] rfl (by decide) (fun _ => rfl) (fun r u H locs hp hW => ?_)
              obtain ⟨n2_59, f2_59⟩ := u
              have hp : ∃ z : Int, r = some (.int (iI z)) ∧ ((b1 < (6 : Int) → z = 1 ∧ n2_59 = b1 + 1 ∧ f2_59 = up f1 b1 z_56)) ∧ ((¬ b1 < (6 : Int) → z = 0 ∧ n2_59 = b1 ∧ f2_59 = f1)) ∧ (BD f2_59) := hp
              obtain ⟨z_59, rfl, hz_59_0, hz_59_1, hz_59_2⟩ := hp
              have hW : Wd G A s9.heap [(h, .inr (0, [.ref rs, .ref bs, .int (iI en2_3)])), (rs, .inr (5, [.ref ra, .int (iI rn2_3)])), (ra, .inl (G.2.1 0, 8, .inl (iA rf2_3))), (bs, .inr (5, [.ref ba, .int (iI n2_59)])), (ba, .inl (G.2.1 0, 6, .inl (iA f2_59))), (th, .inr (5, [.ref ta, .int (iI T)])), (ta, .inl (G.2.1 0, 120, .inl (iA t)))] H locs := hW
              have hs59 := hz_59_0 (by omega)
              have hs59b : n2_59 = b1 + 1 := hs59.2.1
              refine lv_pop C.1 C.2.1 dX1_standsAt_62 rfl ?_
              refine lv_iinc (v := iI (i + 1)) (lv' := [(3, .int (iI (i + 1))), (0, .ref h), (1, .ref th), (2, .int (iI p))]) C.1 C.2.1 dX1_standsAt_63 hl (k := 0) rfl (iI_add _ _) (by decide) rfl (fun ls hl => ?_)
              refine lv_goto (tgt := 36) C.1 C.2.1 dX1_standsAt_66 (by decide) ?_
              exact ih_36 (i + 1) n2_59 f2_59 (by first | omega | assumption | (intros; first | rfl | omega | assumption | (and_intros <;> first | rfl | omega | assumption))) (by first | omega | assumption | (intros; first | rfl | omega | assumption | (and_intros <;> first | rfl | omega | assumption))) hz_59_2 (by obtain ⟨_, e1, e2⟩ := hz_59_0 (by omega); have h56 := hz_56_0 (by omega); intro j j0 j1; rw [e2]; exact if q9 : j = b1 then (by rw [q9, up_s, h56]; congr 1; omega) else (by rw [up_n _ _ q9]; exact he j j0 (by omega))) (by omega) _ _ _ hW (lv_sub hl [0, 1, 2, 3] rfl)
        exact cut_36 (((rn2_3 + 2 - 2) + 1 : Int)).toNat 2 0 bf (by first | omega | assumption | (intros; first | rfl | omega | assumption | (and_intros <;> first | rfl | omega | assumption))) (by first | omega | assumption | (intros; first | rfl | omega | assumption | (and_intros <;> first | rfl | omega | assumption))) hbf (fun j j0 j1 => by omega) (by omega) _ _ _ hW (lv_sub hl [0, 1, 2, 3] rfl)
      ·
        refine lv_iconst (v := iI 0) C.1 C.2.1 dX1_standsAt_24 rfl ?_
        rw [hQ]
        have hP9 : ∃ z : Int, (some (Value.int (iI 0))) = some (.int (iI z)) ∧ ((z = 1 ∧ ItemR t T p en2_3 (rf2_3 0) (rf2_3 1) bn bf ∧ 2 ≤ rn2_3) ∨ (z = 0 ∧ ∀ e q s n B, ¬ ItemR t T p e q s n B)) ∧ (BD rf2_3) ∧ (BD bf) ∧ (0 ≤ rn2_3 ∧ rn2_3 ≤ 8) ∧ (0 ≤ bn ∧ bn ≤ 6) ∧ (-2147483648 ≤ en2_3 ∧ en2_3 ≤ 2147483647) := ⟨_, rfl, (Or.inr ⟨rfl, fun e r s n B hR => by obtain ⟨c, f, g1, g2, g3, g4, g5, g6, -⟩ := hR; first | (have := hz6 c e f g1; omega) | (have g7 := (ItemL_fun hz6.1 g1).2.2 0 (by omega) (by omega); omega)⟩), hz_3_1, hbf, hz_3_2, hbn, hz_3_3⟩
        exact z_zret C hr rfl hlocks hW (rn2_3, rf2_3, bn, bf, en2_3) rfl hP9 dX1_standsAt_25
set_option maxHeartbeats 4000000 in
set_option maxRecDepth 100000 in
/-- Row.become -/
theorem c_X5_become (l : Launch) (G : GG) (rh : Nat) (bo : Nat) (no : Nat) (so : Nat) (M : Int) (L : Int) (bi : Nat) (n : Int) (B : Int → Int) (h : Nat) (rs : Nat) (ra : Nat) (bs : Nat) (en : Int) (rn : Int) (rf : Int → Int) (ba : Nat) (bn : Int) (bf : Int → Int) (hrn : 0 ≤ rn ∧ rn ≤ 8) (hrf : BD rf) (hB : BD B) (hbn : 0 ≤ bn ∧ bn ≤ 6) (hbf : BD bf) (hs : 1 < rn ∧ 0 ≤ rf 1 ∧ rf 1 < 7) : MQc l yX5_become wsX5_become 2 G [.ref rh, .ref h] [(rh, .inr (4, [.ref bo, .ref no, .ref so, .int (iI M), .int (iI L)])), (bo, .inr (5, [.ref bi, .int (iI n)])), (bi, .inl (G.2.1 0, 6, .inl (iA B))), (h, .inr (0, [.ref rs, .ref bs, .int (iI en)])), (rs, .inr (5, [.ref ra, .int (iI rn)])), (ra, .inl (G.2.1 0, 8, .inl (iA rf))), (bs, .inr (5, [.ref ba, .int (iI bn)])), (ba, .inl (G.2.1 0, 6, .inl (iA bf)))] (fun r (u : (Int → Int)) => r = none ∧ (BD u) ∧ (∀ j, 0 ≤ j → j < bn → u j = bf j)) (fun u => [(rh, .inr (4, [.ref bo, .ref no, .ref (G.2.2 (rf 1).toNat), .int (iI 0), .int (iI L)])), (bo, .inr (5, [.ref bi, .int (iI bn)])), (bi, .inl (G.2.1 0, 6, .inl (iA u))), (h, .inr (0, [.ref rs, .ref bs, .int (iI en)])), (rs, .inr (5, [.ref ra, .int (iI rn)])), (ra, .inl (G.2.1 0, 8, .inl (iA rf))), (bs, .inr (5, [.ref ba, .int (iI bn)])), (ba, .inl (G.2.1 0, 6, .inl (iA bf)))]) := by
  refine MQc.start (own := RX5) (by decide) rfl rfl (Nat.le_of_ble_eq_true rfl) ?_
  intro p9 e9 s9 m9 args below meth c9 A Q C hK hW hA hr hlocks hQ ls hl
  have hl : lv_has ls 3 [(0, .ref rh), (1, .ref h)] := hl
  have hin1 : ∀ w ∈ wsX10, w ∈ wsX5_become := by decide +kernel
  have hin5 : ∀ w ∈ wsX50, w ∈ wsX5_become := by decide +kernel
  have hin6 : ∀ w ∈ wsX60, w ∈ wsX5_become := by decide +kernel
  refine lv_aload_n C.1 C.2.1 dX5_become_0 rfl (lv_at hl 1 rfl) ?_
  refine z_callR (va_runV (As := []) (rest := []) C (c_X1_sort l G h rs ra bs en rn rf hrn hrf s9.heap.size) (cwV 0 C.2.2.2.2 gX5_become_X1_sort rfl rfl rfl (by decide +kernel) ⟨Nat.le_of_ble_eq_true rfl, Nat.le_of_ble_eq_true rfl⟩) (z_preV hK hW hA [3, 4, 5] rfl (by decide) (ci := 0) (q0 := 3) rfl rfl) rfl rfl hl.1 rfl (lv_room (Nat.le_of_ble_eq_true rfl)) dX5_become_1 ⟨Nat.zero_le _, Nat.zero_le _⟩) (fun r hp => ?_)
  have hp : ((r = some .null ∧ ¬ (1 < rn ∧ 0 ≤ rf 1 ∧ rf 1 < 7)) ∨ (r = some (.ref (G.2.2 (rf 1).toNat)) ∧ (1 < rn ∧ 0 ≤ rf 1 ∧ rf 1 < 7))) := hp
  have hq_1 := hp
  rcases hq_1 with ⟨rfl, hd_1⟩ | ⟨rfl, hd_1⟩
  ·
    exact absurd hs hd_1
  ·
    refine lv_astore_n (lv' := [(2, .ref (G.2.2 (rf 1).toNat)), (0, .ref rh), (1, .ref h)]) C.1 C.2.1 dX5_become_4 rfl hl (by decide) rfl (fun ls hl => ?_)
    refine lv_aload_n C.1 C.2.1 dX5_become_5 rfl (lv_at hl 0 rfl) ?_
    refine lv_ifnonnull (tgt := 10) C.1 C.2.1 dX5_become_6 (by decide) ?_
    refine lv_aload_n C.1 C.2.1 dX5_become_10 rfl (lv_at hl 1 rfl) ?_
    refine lv_aload_n C.1 C.2.1 dX5_become_11 rfl (lv_at hl 0 rfl) ?_
    refine z_put C hK hW hin5 tyX5 tyX5_ok nmX5 0 rfl rfl 2 (by decide) (C.2.2.2.2 (.fieldLink RX5 30 "TellingRows$Row" "sort" "LTellingRows$Sort;") (List.mem_of_getElem? (i := 1) rfl)) (fun _ h9 => h9) rfl rfl rfl (Nat.le_of_ble_eq_true rfl) dX5_become_12 (fun H locs hW => ?_)
    have hW : Wd G A s9.heap [(rh, .inr (4, [.ref bo, .ref no, .ref (G.2.2 (rf 1).toNat), .int (iI M), .int (iI L)])), (bo, .inr (5, [.ref bi, .int (iI n)])), (bi, .inl (G.2.1 0, 6, .inl (iA B))), (h, .inr (0, [.ref rs, .ref bs, .int (iI en)])), (rs, .inr (5, [.ref ra, .int (iI rn)])), (ra, .inl (G.2.1 0, 8, .inl (iA rf))), (bs, .inr (5, [.ref ba, .int (iI bn)])), (ba, .inl (G.2.1 0, 6, .inl (iA bf)))] H locs := hW
    refine lv_aload_n C.1 C.2.1 dX5_become_15 rfl (lv_at hl 1 rfl) ?_
    refine z_get C hK hW hin5 (v := .ref bo) 0 rfl rfl 0 (by decide) (C.2.2.2.2 (.fieldLink RX5 14 "TellingRows$Row" "beginnings" "LTellingRows$Sequence;") (List.mem_of_getElem? (i := 2) rfl)) (fun _ h9 => h9) rfl dX5_become_16 ?_
    refine lv_aload_n C.1 C.2.1 dX5_become_19 rfl (lv_at hl 2 rfl) ?_
    refine z_getN C hK hW hin1 (v := .ref bs) 3 rfl rfl 1 (by decide) (nw_f_RX5_42 hK.2.1) (fun _ h9 => h9) rfl dX5_become_20 ?_
    refine z_call (va_runV (As := [.ref bs]) (rest := []) C (c_X6_copy l G bo bi 6 n B bs ba 6 bn bf (by first | omega | assumption | (intros; first | rfl | omega | assumption | (and_intros <;> first | rfl | omega | assumption))) (by first | omega | assumption | (intros; first | rfl | omega | assumption | (and_intros <;> first | rfl | omega | assumption))) (by first | omega | assumption | (intros; first | rfl | omega | assumption | (and_intros <;> first | rfl | omega | assumption))) hB hbf H.size) (cwV 1 C.2.2.2.2 gX5_become_X6_copy rfl rfl rfl (by decide +kernel) ⟨Nat.le_of_ble_eq_true rfl, Nat.le_of_ble_eq_true rfl⟩) (z_preV hK hW hA [1, 2, 6, 7] rfl (by decide) (ci := 5) (q0 := 1) rfl rfl) rfl rfl hl.1 rfl (lv_room (Nat.le_of_ble_eq_true rfl)) dX5_become_23 ⟨Nat.zero_le _, Nat.zero_le _⟩) hW hA [1, 2, 6, 7] rfl (by decide) (fun _ => rfl) (fun r u H locs hp hW => ?_)
    obtain ⟨f2_23, rfl⟩ : ∃ q9, q9 = u := ⟨_, rfl⟩
    have hp : r = none ∧ (BD f2_23) ∧ ((∀ j, 0 ≤ j → j < bn → f2_23 j = bf j)) := hp
    obtain ⟨rfl, hz_23_0, hz_23_1⟩ := hp
    have hW : Wd G A s9.heap [(rh, .inr (4, [.ref bo, .ref no, .ref (G.2.2 (rf 1).toNat), .int (iI M), .int (iI L)])), (bo, .inr (5, [.ref bi, .int (iI bn)])), (bi, .inl (G.2.1 0, 6, .inl (iA f2_23))), (h, .inr (0, [.ref rs, .ref bs, .int (iI en)])), (rs, .inr (5, [.ref ra, .int (iI rn)])), (ra, .inl (G.2.1 0, 8, .inl (iA rf))), (bs, .inr (5, [.ref ba, .int (iI bn)])), (ba, .inl (G.2.1 0, 6, .inl (iA bf)))] H locs := hW
    refine lv_aload_n C.1 C.2.1 dX5_become_26 rfl (lv_at hl 1 rfl) ?_
    refine lv_iconst (v := iI 0) C.1 C.2.1 dX5_become_27 rfl ?_
    refine z_put C hK hW hin5 tyX5 tyX5_ok nmX5 0 rfl rfl 3 (by decide) (C.2.2.2.2 (.fieldLink RX5 47 "TellingRows$Row" "made" "Z") (List.mem_of_getElem? (i := 3) rfl)) (fun _ h9 => h9) rfl rfl rfl (Nat.le_of_ble_eq_true rfl) dX5_become_28 (fun H locs hW => ?_)
    have hW : Wd G A s9.heap [(rh, .inr (4, [.ref bo, .ref no, .ref (G.2.2 (rf 1).toNat), .int (iI 0), .int (iI L)])), (bo, .inr (5, [.ref bi, .int (iI bn)])), (bi, .inl (G.2.1 0, 6, .inl (iA f2_23))), (h, .inr (0, [.ref rs, .ref bs, .int (iI en)])), (rs, .inr (5, [.ref ra, .int (iI rn)])), (ra, .inl (G.2.1 0, 8, .inl (iA rf))), (bs, .inr (5, [.ref ba, .int (iI bn)])), (ba, .inl (G.2.1 0, 6, .inl (iA bf)))] H locs := hW
    rw [hQ]
    have hP9 : (none : Option Value) = none ∧ (BD f2_23) ∧ (∀ j, 0 ≤ j → j < bn → f2_23 j = bf j) := ⟨rfl, hz_23_0, (by first | omega | assumption | (intros; first | rfl | omega | assumption | (and_intros <;> first | rfl | omega | assumption)))⟩
    exact z_vret C hr hlocks hW f2_23 rfl hP9 dX5_become_31
