set_option maxHeartbeats 4000000 in
set_option maxRecDepth 100000 in
/-- TellerSearch.answer -/
theorem c_X9_answer (l : Launch) (G : GG) (h : Nat) (fa : Nat) (w : Int) (fo : Int) (an : Int) (dg : Int → Int) : MRc l yX9_answer wsX9_answer 0 G [.ref h] [(h, .inr (7, [.ref fa, .int (iI w), .int (iI fo), .long (lI an)])), (fa, .inl (G.2.1 0, 10, .inl (iA dg)))] (fun r => ∃ z : Int, r = some (.long (lI z)) ∧ (z = an)) := by
  refine MRc.start (own := RX9) (by decide) rfl rfl (Nat.le_of_ble_eq_true rfl) ?_
  intro p9 e9 s9 m9 args below meth c9 A Q C hK hW hA hr hlocks hQ ls hl
  have hl : lv_has ls 1 [(0, .ref h)] := hl
  have hin9 : ∀ w ∈ wsX90, w ∈ wsX9_answer := by decide +kernel
  refine lv_aload_n C.1 C.2.1 dX9_answer_0 rfl (lv_at hl 0 rfl) ?_
  refine z_get C hK hW hin9 (v := .long (lI an)) 0 rfl rfl 3 (by decide) (C.2.2.2.2 (.fieldLink RX9 15 "TellingRows$TellerSearch" "answer" "J") (List.mem_of_getElem? (i := 1) rfl)) (fun _ h9 => h9) rfl dX9_answer_1 ?_
  rw [hQ]
  have hP9 : ∃ z : Int, (some (Value.long (lI an))) = some (.long (lI z)) ∧ (z = an) := ⟨_, rfl, (by first | omega | assumption | (intros; first | rfl | omega | assumption | (and_intros <;> first | rfl | omega | assumption)))⟩
  exact z_lretR C hr hlocks hP9 dX9_answer_4
set_option maxHeartbeats 4000000 in
set_option maxRecDepth 100000 in
/-- TellerSearch.tells -/
theorem c_X9_tells (l : Launch) (G : GG) (h : Nat) (fa : Nat) (w : Int) (fo : Int) (an : Int) (dg : Int → Int) (b : Int) (hb : 2 ≤ b ∧ b ≤ 10) (hd : BD dg) : MRc l yX9_tells wsX9_tells 0 G [.ref h, .int (iI b)] [(h, .inr (7, [.ref fa, .int (iI w), .int (iI fo), .long (lI an)])), (fa, .inl (G.2.1 0, 10, .inl (iA dg)))] (fun r => ∃ z : Int, r = some (.int (iI z)) ∧ ((z = 1 ∧ TellR dg b) ∨ (z = 0 ∧ ¬ TellR dg b))) := by
  refine MRc.start (own := RX9) (by decide) rfl rfl (Nat.le_of_ble_eq_true rfl) ?_
  intro p9 e9 s9 m9 args below meth c9 A Q C hK hW hA hr hlocks hQ ls hl
  have hl : lv_has ls 5 [(0, .ref h), (1, .int (iI b))] := hl
  have hin9 : ∀ w ∈ wsX90, w ∈ wsX9_tells := by decide +kernel
  refine lv_iconst (v := iI 0) C.1 C.2.1 dX9_tells_0 rfl ?_
  refine lv_istore_n (lv' := [(2, .int (iI 0)), (0, .ref h), (1, .int (iI b))]) C.1 C.2.1 dX9_tells_1 rfl hl (by decide) rfl (fun ls hl => ?_)
  have cut_2 : ∀ (n9 : Nat) (j : Int), (0 ≤ j ∧ j ≤ b) → (∀ x, 0 ≤ x → x < j → oc dg x b = dg x) → (b - j < (n9 : Int)) → ∀ (ls : Array Slot), lv_has ls 5 [(2, .int (iI j)), (0, .ref h), (1, .int (iI b))] → W p9 l e9 (rmL 0) s9 m9 args below meth c9 s9.heap [] 0 0 Q (F0 m9 2 ls []) := by
    intro n9
    induction n9 with
    | zero => intro j hj he hmu; intros; exfalso; omega
    | succ n9 ih_2 =>
      intro j hj he hmu ls hl
      refine lv_iload_n C.1 C.2.1 dX9_tells_2 rfl (lv_at hl 0 rfl) ?_
      refine lv_iload_n C.1 C.2.1 dX9_tells_3 rfl (lv_at hl 2 rfl) ?_
      refine z_icmp_ge (tgt := 75) C dX9_tells_4 (by decide) (by omega) (fun c_4 => ?_) (fun c_4 => ?_)
      ·
        refine lv_iconst (v := iI 1) C.1 C.2.1 dX9_tells_75 rfl ?_
        rw [hQ]
        have hP9 : ∃ z : Int, (some (Value.int (iI 1))) = some (.int (iI z)) ∧ ((z = 1 ∧ TellR dg b) ∨ (z = 0 ∧ ¬ TellR dg b)) := ⟨_, rfl, (Or.inl ⟨rfl, fun x h0 h1 => he x h0 (by omega)⟩)⟩
        exact z_zretR C hr rfl hlocks hP9 dX9_tells_76
      ·
        refine lv_iload_n C.1 C.2.1 dX9_tells_7 rfl (lv_at hl 0 rfl) ?_
        refine lv_aload_n C.1 C.2.1 dX9_tells_8 rfl (lv_at hl 1 rfl) ?_
        refine z_get C hK hW hin9 (v := .ref fa) 0 rfl rfl 0 (by decide) (C.2.2.2.2 (.fieldLink RX9 9 "TellingRows$TellerSearch" "figures" "[I") (List.mem_of_getElem? (i := 1) rfl)) (fun _ h9 => h9) rfl dX9_tells_9 ?_
        refine z_alen C hK hW 1 0 rfl rfl dX9_tells_12 ?_
        refine z_icmp_ge (tgt := 75) C dX9_tells_13 (by decide) (by omega) (fun c_13 => ?_) (fun c_13 => ?_)
        ·
          exfalso; omega
        ·
          refine lv_iconst (v := iI 0) C.1 C.2.1 dX9_tells_16 rfl ?_
          refine lv_istore_n (lv' := [(3, .int (iI 0)), (2, .int (iI j)), (0, .ref h), (1, .int (iI b))]) C.1 C.2.1 dX9_tells_17 rfl hl (by decide) rfl (fun ls hl => ?_)
          refine lv_iconst (v := iI 0) C.1 C.2.1 dX9_tells_18 rfl ?_
          refine lv_istore (lv' := [(4, .int (iI 0)), (3, .int (iI 0)), (2, .int (iI j)), (0, .ref h), (1, .int (iI b))]) C.1 C.2.1 dX9_tells_19 hl (by decide) rfl (fun ls hl => ?_)
          have cut_21 : ∀ (n9 : Nat) (k : Int) (i : Int), (0 ≤ i ∧ i ≤ b) → (k = oc dg j i) → (b - i < (n9 : Int)) → ∀ (ls : Array Slot), lv_has ls 5 [(4, .int (iI i)), (3, .int (iI k)), (2, .int (iI j)), (0, .ref h), (1, .int (iI b))] → W p9 l e9 (rmL 0) s9 m9 args below meth c9 s9.heap [] 0 0 Q (F0 m9 21 ls []) := by
            intro n9
            induction n9 with
            | zero => intro k i hi hk hmu; intros; exfalso; omega
            | succ n9 ih_21 =>
              intro k i hi hk hmu ls hl
              have hkb := oc_b (g := dg) (v := j) hi.1
              refine lv_iload C.1 C.2.1 dX9_tells_21 (lv_at hl 0 rfl) ?_
              refine lv_iload_n C.1 C.2.1 dX9_tells_23 rfl (lv_at hl 4 rfl) ?_
              refine z_icmp_ge (tgt := 57) C dX9_tells_24 (by decide) (by omega) (fun c_24 => ?_) (fun c_24 => ?_)
              ·
                refine lv_iload_n C.1 C.2.1 dX9_tells_57 rfl (lv_at hl 1 rfl) ?_
                refine lv_aload_n C.1 C.2.1 dX9_tells_58 rfl (lv_at hl 3 rfl) ?_
                refine z_get C hK hW hin9 (v := .ref fa) 0 rfl rfl 0 (by decide) (C.2.2.2.2 (.fieldLink RX9 9 "TellingRows$TellerSearch" "figures" "[I") (List.mem_of_getElem? (i := 1) rfl)) (fun _ h9 => h9) rfl dX9_tells_59 ?_
                refine lv_iload_n C.1 C.2.1 dX9_tells_62 rfl (lv_at hl 2 rfl) ?_
                refine z_iald C hK hW 1 rfl (by omega) (by omega) dX9_tells_63 ?_
                have hb_63 := hd j
                have hbj := hd j
                refine z_icmp_eq (tgt := 69) C dX9_tells_64 (by decide) (by omega) (fun c_64 => ?_) (fun c_64 => ?_)
                ·
                  refine lv_iinc (v := iI (j + 1)) (lv' := [(2, .int (iI (j + 1))), (4, .int (iI i)), (3, .int (iI k)), (0, .ref h), (1, .int (iI b))]) C.1 C.2.1 dX9_tells_69 hl (k := 2) rfl (iI_add _ _) (by decide) rfl (fun ls hl => ?_)
                  refine lv_goto (tgt := 2) C.1 C.2.1 dX9_tells_72 (by decide) ?_
                  exact ih_2 (j + 1) (by first | omega | assumption | (intros; first | rfl | omega | assumption | (and_intros <;> first | rfl | omega | assumption))) (fun x h0 h1 => (Int.lt_or_le x j).elim (fun q => he x h0 q) (fun q => by rw [show x = j by omega, show b = i by omega, ← hk]; omega)) (by omega) _ (lv_sub hl [0, 3, 4] rfl)
                ·
                  refine lv_iconst (v := iI 0) C.1 C.2.1 dX9_tells_67 rfl ?_
                  rw [hQ]
                  have hP9 : ∃ z : Int, (some (Value.int (iI 0))) = some (.int (iI z)) ∧ ((z = 1 ∧ TellR dg b) ∨ (z = 0 ∧ ¬ TellR dg b)) := ⟨_, rfl, (Or.inr ⟨rfl, fun h9 => by have := h9 j (by omega) (by omega); rw [show b = i by omega, ← hk] at this; omega⟩)⟩
                  exact z_zretR C hr rfl hlocks hP9 dX9_tells_68
              ·
                refine lv_iload C.1 C.2.1 dX9_tells_27 (lv_at hl 0 rfl) ?_
                refine lv_aload_n C.1 C.2.1 dX9_tells_29 rfl (lv_at hl 3 rfl) ?_
                refine z_get C hK hW hin9 (v := .ref fa) 0 rfl rfl 0 (by decide) (C.2.2.2.2 (.fieldLink RX9 9 "TellingRows$TellerSearch" "figures" "[I") (List.mem_of_getElem? (i := 1) rfl)) (fun _ h9 => h9) rfl dX9_tells_30 ?_
                refine z_alen C hK hW 1 0 rfl rfl dX9_tells_33 ?_
                refine z_icmp_ge (tgt := 57) C dX9_tells_34 (by decide) (by omega) (fun c_34 => ?_) (fun c_34 => ?_)
                ·
                  exfalso; omega
                ·
                  refine lv_aload_n C.1 C.2.1 dX9_tells_37 rfl (lv_at hl 3 rfl) ?_
                  refine z_get C hK hW hin9 (v := .ref fa) 0 rfl rfl 0 (by decide) (C.2.2.2.2 (.fieldLink RX9 9 "TellingRows$TellerSearch" "figures" "[I") (List.mem_of_getElem? (i := 1) rfl)) (fun _ h9 => h9) rfl dX9_tells_38 ?_
                  refine lv_iload C.1 C.2.1 dX9_tells_41 (lv_at hl 0 rfl) ?_
                  refine z_iald C hK hW 1 rfl (by omega) (by omega) dX9_tells_43 ?_
                  have hb_43 := hd i
                  refine lv_iload_n C.1 C.2.1 dX9_tells_44 rfl (lv_at hl 2 rfl) ?_
                  refine z_icmp_ne (tgt := 51) C dX9_tells_45 (by decide) (by omega) (fun c_45 => ?_) (fun c_45 => ?_)
                  ·
                    refine lv_iinc (v := iI (i + 1)) (lv' := [(4, .int (iI (i + 1))), (3, .int (iI k)), (2, .int (iI j)), (0, .ref h), (1, .int (iI b))]) C.1 C.2.1 dX9_tells_51 hl (k := 0) rfl (iI_add _ _) (by decide) rfl (fun ls hl => ?_)
                    refine lv_goto (tgt := 21) C.1 C.2.1 dX9_tells_54 (by decide) ?_
                    exact ih_21 k (i + 1) (by first | omega | assumption | (intros; first | rfl | omega | assumption | (and_intros <;> first | rfl | omega | assumption))) (by rw [oc_s (by omega)]; split <;> omega) (by omega) _ (lv_sub hl [0, 1, 2, 3, 4] rfl)
                  ·
                    refine lv_iinc (v := iI (k + 1)) (lv' := [(3, .int (iI (k + 1))), (4, .int (iI i)), (2, .int (iI j)), (0, .ref h), (1, .int (iI b))]) C.1 C.2.1 dX9_tells_48 hl (k := 1) rfl (iI_add _ _) (by decide) rfl (fun ls hl => ?_)
                    refine lv_iinc (v := iI (i + 1)) (lv' := [(4, .int (iI (i + 1))), (3, .int (iI (k + 1))), (2, .int (iI j)), (0, .ref h), (1, .int (iI b))]) C.1 C.2.1 dX9_tells_51 hl (k := 1) rfl (iI_add _ _) (by decide) rfl (fun ls hl => ?_)
                    refine lv_goto (tgt := 21) C.1 C.2.1 dX9_tells_54 (by decide) ?_
                    exact ih_21 (k + 1) (i + 1) (by first | omega | assumption | (intros; first | rfl | omega | assumption | (and_intros <;> first | rfl | omega | assumption))) (by rw [oc_s (by omega)]; split <;> omega) (by omega) _ (lv_sub hl [0, 1, 2, 3, 4] rfl)
          exact cut_21 (((b - 0) + 1 : Int)).toNat 0 0 (by first | omega | assumption | (intros; first | rfl | omega | assumption | (and_intros <;> first | rfl | omega | assumption))) (by rw [oc_0 (by omega)]) (by omega) _ (lv_sub hl [0, 1, 2, 3, 4] rfl)
  exact cut_2 (((b - 0) + 1 : Int)).toNat 0 (by first | omega | assumption | (intros; first | rfl | omega | assumption | (and_intros <;> first | rfl | omega | assumption))) (fun x h0 h1 => by omega) (by omega) _ (lv_sub hl [0, 1, 2] rfl)
set_option maxHeartbeats 4000000 in
set_option maxRecDepth 100000 in
/-- TellerSearch.keep -/
theorem c_X9_keep (l : Launch) (G : GG) (h : Nat) (fa : Nat) (w : Int) (fo : Int) (an : Int) (dg : Int → Int) (b : Int) (hb : 2 ≤ b ∧ b ≤ 10) (hd : BD dg) (hfo : -2147483648 ≤ fo ∧ fo ≤ 2147483647) (hw : -2147483648 ≤ w ∧ w ≤ 2147483647) : MQc l yX9_keep wsX9_keep 0 G [.ref h, .int (iI b)] [(h, .inr (7, [.ref fa, .int (iI w), .int (iI fo), .long (lI an)])), (fa, .inl (G.2.1 0, 10, .inl (iA dg)))] (fun r (u : Int × Int) => r = none ∧ (u.1 = fo + 1) ∧ ((fo = w → u.2 = cd dg b) ∧ (fo ≠ w → u.2 = an))) (fun u => [(h, .inr (7, [.ref fa, .int (iI w), .int (iI u.1), .long (lI u.2)])), (fa, .inl (G.2.1 0, 10, .inl (iA dg)))]) := by
  refine MQc.start (own := RX9) (by decide) rfl rfl (Nat.le_of_ble_eq_true rfl) ?_
  intro p9 e9 s9 m9 args below meth c9 A Q C hK hW hA hr hlocks hQ ls hl
  have hl : lv_has ls 3 [(0, .ref h), (1, .int (iI b))] := hl
  have hin9 : ∀ w ∈ wsX90, w ∈ wsX9_keep := by decide +kernel
  refine lv_aload_n C.1 C.2.1 dX9_keep_0 rfl (lv_at hl 0 rfl) ?_
  refine z_get C hK hW hin9 (v := .int (iI fo)) 0 rfl rfl 2 (by decide) (C.2.2.2.2 (.fieldLink RX9 23 "TellingRows$TellerSearch" "found" "I") (List.mem_of_getElem? (i := 1) rfl)) (fun _ h9 => h9) rfl dX9_keep_1 ?_
  refine lv_aload_n C.1 C.2.1 dX9_keep_4 rfl (lv_at hl 0 rfl) ?_
  refine z_get C hK hW hin9 (v := .int (iI w)) 0 rfl rfl 1 (by decide) (C.2.2.2.2 (.fieldLink RX9 19 "TellingRows$TellerSearch" "wanted" "I") (List.mem_of_getElem? (i := 2) rfl)) (fun _ h9 => h9) rfl dX9_keep_5 ?_
  refine z_icmp_ne (tgt := 58) C dX9_keep_8 (by decide) (by omega) (fun c_8 => ?_) (fun c_8 => ?_)
  ·
    refine lv_aload_n C.1 C.2.1 dX9_keep_58 rfl (lv_at hl 0 rfl) ?_
    refine lv_dup C.1 C.2.1 dX9_keep_59 rfl ?_
    refine z_get C hK hW hin9 (v := .int (iI fo)) 0 rfl rfl 2 (by decide) (C.2.2.2.2 (.fieldLink RX9 23 "TellingRows$TellerSearch" "found" "I") (List.mem_of_getElem? (i := 1) rfl)) (fun _ h9 => h9) rfl dX9_keep_60 ?_
    refine lv_iconst (v := iI 1) C.1 C.2.1 dX9_keep_63 rfl ?_
    refine z_iadd C dX9_keep_64 ?_
    refine z_put C hK hW hin9 tyX9 tyX9_ok nmX9 0 rfl rfl 2 (by decide) (C.2.2.2.2 (.fieldLink RX9 23 "TellingRows$TellerSearch" "found" "I") (List.mem_of_getElem? (i := 1) rfl)) (fun _ h9 => h9) rfl rfl rfl (Nat.le_of_ble_eq_true rfl) dX9_keep_65 (fun H locs hW => ?_)
    have hW : Wd G A s9.heap [(h, .inr (7, [.ref fa, .int (iI w), .int (iI (fo + 1)), .long (lI an)])), (fa, .inl (G.2.1 0, 10, .inl (iA dg)))] H locs := hW
    rw [hQ]
    have hP9 : (none : Option Value) = none ∧ ((fo + 1) = fo + 1) ∧ ((fo = w → an = cd dg b) ∧ (fo ≠ w → an = an)) := ⟨rfl, (by first | omega | assumption | (intros; first | rfl | omega | assumption | (and_intros <;> first | rfl | omega | assumption))), (by first | exact ⟨fun _ => by rw [hx]; congr 1; omega, fun q9 => absurd c_8 q9⟩ | exact ⟨fun q9 => absurd q9 c_8, fun _ => rfl⟩)⟩
    exact z_vret C hr hlocks hW (fo + 1, an) rfl hP9 dX9_keep_68
  ·
    refine lv_aload_n C.1 C.2.1 dX9_keep_11 rfl (lv_at hl 0 rfl) ?_
    refine lv_lconst (v := lI 0) C.1 C.2.1 dX9_keep_12 rfl ?_
    refine z_put C hK hW hin9 tyX9 tyX9_ok nmX9 0 rfl rfl 3 (by decide) (C.2.2.2.2 (.fieldLink RX9 15 "TellingRows$TellerSearch" "answer" "J") (List.mem_of_getElem? (i := 3) rfl)) (fun _ h9 => h9) rfl rfl rfl (Nat.le_of_ble_eq_true rfl) dX9_keep_13 (fun H locs hW => ?_)
    have hW : Wd G A s9.heap [(h, .inr (7, [.ref fa, .int (iI w), .int (iI fo), .long (lI 0)])), (fa, .inl (G.2.1 0, 10, .inl (iA dg)))] H locs := hW
    refine lv_iconst (v := iI 0) C.1 C.2.1 dX9_keep_16 rfl ?_
    refine lv_istore_n (lv' := [(2, .int (iI 0)), (0, .ref h), (1, .int (iI b))]) C.1 C.2.1 dX9_keep_17 rfl hl (by decide) rfl (fun ls hl => ?_)
    have cut_18 : ∀ (n9 : Nat) (i : Int) (x : Int), (0 ≤ i ∧ i ≤ b) → (x = cd dg i) → (b - i < (n9 : Int)) → ∀ (H : Heap) (locs : List Loc) (ls : Array Slot), Wd G A s9.heap [(h, .inr (7, [.ref fa, .int (iI w), .int (iI fo), .long (lI x)])), (fa, .inl (G.2.1 0, 10, .inl (iA dg)))] H locs → lv_has ls 3 [(2, .int (iI i)), (0, .ref h), (1, .int (iI b))] → W p9 l e9 (rmL 0) s9 m9 args below meth c9 H locs 0 0 Q (F0 m9 18 ls []) := by
      intro n9
      induction n9 with
      | zero => intro i x hi hx hmu; intros; exfalso; omega
      | succ n9 ih_18 =>
        intro i x hi hx hmu H locs ls hW hl
        refine lv_iload_n C.1 C.2.1 dX9_keep_18 rfl (lv_at hl 0 rfl) ?_
        refine lv_iload_n C.1 C.2.1 dX9_keep_19 rfl (lv_at hl 2 rfl) ?_
        refine z_icmp_ge (tgt := 58) C dX9_keep_20 (by decide) (by omega) (fun c_20 => ?_) (fun c_20 => ?_)
        ·
          refine lv_aload_n C.1 C.2.1 dX9_keep_58 rfl (lv_at hl 1 rfl) ?_
          refine lv_dup C.1 C.2.1 dX9_keep_59 rfl ?_
          refine z_get C hK hW hin9 (v := .int (iI fo)) 0 rfl rfl 2 (by decide) (C.2.2.2.2 (.fieldLink RX9 23 "TellingRows$TellerSearch" "found" "I") (List.mem_of_getElem? (i := 1) rfl)) (fun _ h9 => h9) rfl dX9_keep_60 ?_
          refine lv_iconst (v := iI 1) C.1 C.2.1 dX9_keep_63 rfl ?_
          refine z_iadd C dX9_keep_64 ?_
          refine z_put C hK hW hin9 tyX9 tyX9_ok nmX9 0 rfl rfl 2 (by decide) (C.2.2.2.2 (.fieldLink RX9 23 "TellingRows$TellerSearch" "found" "I") (List.mem_of_getElem? (i := 1) rfl)) (fun _ h9 => h9) rfl rfl rfl (Nat.le_of_ble_eq_true rfl) dX9_keep_65 (fun H locs hW => ?_)
          have hW : Wd G A s9.heap [(h, .inr (7, [.ref fa, .int (iI w), .int (iI (fo + 1)), .long (lI x)])), (fa, .inl (G.2.1 0, 10, .inl (iA dg)))] H locs := hW
          rw [hQ]
          have hP9 : (none : Option Value) = none ∧ ((fo + 1) = fo + 1) ∧ ((fo = w → x = cd dg b) ∧ (fo ≠ w → x = an)) := ⟨rfl, (by first | omega | assumption | (intros; first | rfl | omega | assumption | (and_intros <;> first | rfl | omega | assumption))), (by first | exact ⟨fun _ => by rw [hx]; congr 1; omega, fun q9 => absurd c_8 q9⟩ | exact ⟨fun q9 => absurd q9 c_8, fun _ => rfl⟩)⟩
          exact z_vret C hr hlocks hW (fo + 1, x) rfl hP9 dX9_keep_68
        ·
          refine lv_iload_n C.1 C.2.1 dX9_keep_23 rfl (lv_at hl 0 rfl) ?_
          refine lv_aload_n C.1 C.2.1 dX9_keep_24 rfl (lv_at hl 1 rfl) ?_
          refine z_get C hK hW hin9 (v := .ref fa) 0 rfl rfl 0 (by decide) (C.2.2.2.2 (.fieldLink RX9 9 "TellingRows$TellerSearch" "figures" "[I") (List.mem_of_getElem? (i := 4) rfl)) (fun _ h9 => h9) rfl dX9_keep_25 ?_
          refine z_alen C hK hW 1 0 rfl rfl dX9_keep_28 ?_
          refine z_icmp_ge (tgt := 58) C dX9_keep_29 (by decide) (by omega) (fun c_29 => ?_) (fun c_29 => ?_)
          ·
            exfalso; omega
          ·
            refine lv_aload_n C.1 C.2.1 dX9_keep_32 rfl (lv_at hl 1 rfl) ?_
            refine z_ldc2 (z := 10) C (C.2.2.2.2 (.constantLong RX9 40 (10)) (List.mem_of_getElem? (i := 5) rfl)) (by decide +kernel) dX9_keep_33 ?_
            refine lv_aload_n C.1 C.2.1 dX9_keep_36 rfl (lv_at hl 1 rfl) ?_
            refine z_get C hK hW hin9 (v := .long (lI x)) 0 rfl rfl 3 (by decide) (C.2.2.2.2 (.fieldLink RX9 15 "TellingRows$TellerSearch" "answer" "J") (List.mem_of_getElem? (i := 3) rfl)) (fun _ h9 => h9) rfl dX9_keep_37 ?_
            refine z_lmul C dX9_keep_40 ?_
            refine lv_aload_n C.1 C.2.1 dX9_keep_41 rfl (lv_at hl 1 rfl) ?_
            refine z_get C hK hW hin9 (v := .ref fa) 0 rfl rfl 0 (by decide) (C.2.2.2.2 (.fieldLink RX9 9 "TellingRows$TellerSearch" "figures" "[I") (List.mem_of_getElem? (i := 4) rfl)) (fun _ h9 => h9) rfl dX9_keep_42 ?_
            refine lv_iload_n C.1 C.2.1 dX9_keep_45 rfl (lv_at hl 0 rfl) ?_
            refine z_iald C hK hW 1 rfl (by omega) (by omega) dX9_keep_46 ?_
            have hb_46 := hd i
            refine z_i2l C dX9_keep_47 (by omega) ?_
            refine z_ladd C dX9_keep_48 ?_
            refine z_put C hK hW hin9 tyX9 tyX9_ok nmX9 0 rfl rfl 3 (by decide) (C.2.2.2.2 (.fieldLink RX9 15 "TellingRows$TellerSearch" "answer" "J") (List.mem_of_getElem? (i := 3) rfl)) (fun _ h9 => h9) rfl rfl rfl (Nat.le_of_ble_eq_true rfl) dX9_keep_49 (fun H locs hW => ?_)
            have hW : Wd G A s9.heap [(h, .inr (7, [.ref fa, .int (iI w), .int (iI fo), .long (lI ((10 * x) + (dg i)))])), (fa, .inl (G.2.1 0, 10, .inl (iA dg)))] H locs := hW
            refine lv_iinc (v := iI (i + 1)) (lv' := [(2, .int (iI (i + 1))), (0, .ref h), (1, .int (iI b))]) C.1 C.2.1 dX9_keep_52 hl (k := 0) rfl (iI_add _ _) (by decide) rfl (fun ls hl => ?_)
            refine lv_goto (tgt := 18) C.1 C.2.1 dX9_keep_55 (by decide) ?_
            exact ih_18 (i + 1) ((10 * x) + (dg i)) (by first | omega | assumption | (intros; first | rfl | omega | assumption | (and_intros <;> first | rfl | omega | assumption))) (by rw [cd_s hi.1, ← hx]) (by omega) _ _ _ hW (lv_sub hl [0, 1, 2] rfl)
    exact cut_18 (((b - 0) + 1 : Int)).toNat 0 0 (by first | omega | assumption | (intros; first | rfl | omega | assumption | (and_intros <;> first | rfl | omega | assumption))) rfl (by omega) _ _ _ hW (lv_sub hl [0, 1, 2] rfl)
set_option maxHeartbeats 4000000 in
set_option maxRecDepth 100000 in
theorem c_X9_fill0 (l : Launch) (G : GG) (h : Nat) (fa : Nat) (w : Int) (fo : Int) (an : Int) (dg : Int → Int) (b : Int) (p : Int) (fl : Int) (vl : Int) (hb : 2 ≤ b ∧ b ≤ 10) (hp : 0 ≤ p ∧ p + 0 = b) (hd : BD dg) (hw : -2147483648 ≤ w ∧ w ≤ 2147483647) (hfo : 0 ≤ fo ∧ fo + ((TLs b 0 p dg).length : Int) ≤ 2147483647) (hdg : ∀ j, 0 ≤ j → j < p → 0 ≤ dg j ∧ dg j < b) (hfl : 0 ≤ fl ∧ fl = b - sm dg p) (hvl : 0 ≤ vl ∧ vl = b - sm (fun j => j * dg j) p) : MQc l yX9_fill wsX9_fill (0 + 2) G [.ref h, .int (iI b), .int (iI p), .int (iI fl), .int (iI vl)] [(h, .inr (7, [.ref fa, .int (iI w), .int (iI fo), .long (lI an)])), (fa, .inl (G.2.1 0, 10, .inl (iA dg)))] (fun r (u : Int × Int × (Int → Int)) => r = none ∧ (u.1 = fo + ((TLs b 0 p dg).length : Int)) ∧ (u.2.1 = pick (TLs b 0 p dg) (w - fo) an) ∧ (BD u.2.2) ∧ (∀ j, 0 ≤ j → j < p → u.2.2 j = dg j)) (fun u => [(h, .inr (7, [.ref fa, .int (iI w), .int (iI u.1), .long (lI u.2.1)])), (fa, .inl (G.2.1 0, 10, .inl (iA u.2.2)))]) := by
  refine MQc.start (own := RX9) (by decide) rfl rfl (Nat.le_of_ble_eq_true rfl) ?_
  intro p9 e9 s9 m9 args below meth c9 A Q C hK hW hA hr hlocks hQ ls hl
  have hl : lv_has ls 6 [(0, .ref h), (1, .int (iI b)), (2, .int (iI p)), (3, .int (iI fl)), (4, .int (iI vl))] := hl
  have hin9 : ∀ w ∈ wsX90, w ∈ wsX9_fill := by decide +kernel
  have hsm0 : sm dg p ≤ b ∧ sm (fun j => j * dg j) p ≤ b := ⟨by omega, by omega⟩
  have hfl0 : fl ≤ 2147483647 := by have hz := sm_b (h := dg) (n := p) (lo := 0) (hi := b) (fun j j0 j1 => by have := hdg j j0 j1; omega) hp.1; omega
  refine lv_iload_n C.1 C.2.1 dX9_fill_0 rfl (lv_at hl 2 rfl) ?_
  refine z_if_lt (tgt := 18) C dX9_fill_1 (by decide) (by omega) (fun c_1 => ?_) (fun c_1 => ?_)
  ·
    exfalso; omega
  ·
    refine lv_iload_n C.1 C.2.1 dX9_fill_4 rfl (lv_at hl 2 rfl) ?_
    refine lv_iload_n C.1 C.2.1 dX9_fill_5 rfl (lv_at hl 1 rfl) ?_
    refine z_icmp_ge (tgt := 18) C dX9_fill_6 (by decide) (by omega) (fun c_6 => ?_) (fun c_6 => ?_)
    ·
      refine lv_aload_n C.1 C.2.1 dX9_fill_18 rfl (lv_at hl 0 rfl) ?_
      refine lv_iload_n C.1 C.2.1 dX9_fill_19 rfl (lv_at hl 1 rfl) ?_
      refine z_callR (va_runV (As := [.int (iI b)]) (rest := []) C (c_X9_tells l G h fa w fo an dg b hb hd s9.heap.size) (cwV 1 C.2.2.2.2 gX9_fill_X9_tells rfl rfl rfl (by decide +kernel) ⟨Nat.le_of_ble_eq_true rfl, Nat.le_of_ble_eq_true rfl⟩) (z_preV hK hW hA [0, 1] rfl (by decide) (ci := 7) (q0 := 0) rfl rfl) rfl rfl hl.1 rfl (lv_room (Nat.le_of_ble_eq_true rfl)) dX9_fill_20 ⟨Nat.zero_le _, Nat.zero_le _⟩) (fun r hp => ?_)
      have hp : ∃ z : Int, r = some (.int (iI z)) ∧ ((z = 1 ∧ TellR dg b) ∨ (z = 0 ∧ ¬ TellR dg b)) := hp
      obtain ⟨z_20, rfl, hz_20_0⟩ := hp
      refine z_if_eq (tgt := 31) C dX9_fill_23 (by decide) (by omega) (fun c_23 => ?_) (fun c_23 => ?_)
      ·
        rw [hQ]
        have hP9 : (none : Option Value) = none ∧ (fo = fo + ((TLs b 0 p dg).length : Int)) ∧ (an = pick (TLs b 0 p dg) (w - fo) an) ∧ (BD dg) ∧ (∀ j, 0 ≤ j → j < p → dg j = dg j) := ⟨rfl, (by rw [TLs]; first | (rw [if_pos (tellB_iff.mpr (hz_20_0.elim (fun q => q.2) (fun q => absurd q.1 (by omega))))]; simp only [List.length_cons, List.length_nil]; omega) | (rw [if_neg (fun h9 => (hz_20_0.elim (fun q => absurd q.1 (by omega)) (fun q => q.2)) (tellB_iff.mp h9))]; simp)), (by rw [TLs]; first | (rw [if_pos (tellB_iff.mpr (hz_20_0.elim (fun q => q.2) (fun q => absurd q.1 (by omega)))), pick_one]; exact if h9 : w - fo = 0 then (by rw [if_pos h9]; exact hz_28_1.1 (by omega)) else (by rw [if_neg h9]; exact hz_28_1.2 (by omega))) | (rw [if_neg (fun h9 => (hz_20_0.elim (fun q => absurd q.1 (by omega)) (fun q => q.2)) (tellB_iff.mp h9)), pick_nil])), hd, (fun j _ _ => rfl)⟩
        exact z_vret C hr hlocks hW (fo, an, dg) rfl hP9 dX9_fill_31
      ·
        refine lv_aload_n C.1 C.2.1 dX9_fill_26 rfl (lv_at hl 0 rfl) ?_
        refine lv_iload_n C.1 C.2.1 dX9_fill_27 rfl (lv_at hl 1 rfl) ?_
        refine z_call (va_runV (As := [.int (iI b)]) (rest := []) C (c_X9_keep l G h fa w fo an dg b hb hd (by first | omega | assumption | (intros; first | rfl | omega | assumption | (and_intros <;> first | rfl | omega | assumption))) hw s9.heap.size) (cwV 1 C.2.2.2.2 gX9_fill_X9_keep rfl rfl rfl (by decide +kernel) ⟨Nat.le_of_ble_eq_true rfl, Nat.le_of_ble_eq_true rfl⟩) (z_preV hK hW hA [0, 1] rfl (by decide) (ci := 7) (q0 := 0) rfl rfl) rfl rfl hl.1 rfl (lv_room (Nat.le_of_ble_eq_true rfl)) dX9_fill_28 ⟨Nat.zero_le _, Nat.zero_le _⟩) hW hA [0, 1] rfl (by decide) (fun _ => rfl) (fun r u H locs hp hW => ?_)
        obtain ⟨fo2_28, an2_28⟩ := u
        have hp : r = none ∧ (fo2_28 = fo + 1) ∧ ((fo = w → an2_28 = cd dg b) ∧ (fo ≠ w → an2_28 = an)) := hp
        obtain ⟨rfl, hz_28_0, hz_28_1⟩ := hp
        have hW : Wd G A s9.heap [(h, .inr (7, [.ref fa, .int (iI w), .int (iI fo2_28), .long (lI an2_28)])), (fa, .inl (G.2.1 0, 10, .inl (iA dg)))] H locs := hW
        rw [hQ]
        have hP9 : (none : Option Value) = none ∧ (fo2_28 = fo + ((TLs b 0 p dg).length : Int)) ∧ (an2_28 = pick (TLs b 0 p dg) (w - fo) an) ∧ (BD dg) ∧ (∀ j, 0 ≤ j → j < p → dg j = dg j) := ⟨rfl, (by rw [TLs]; first | (rw [if_pos (tellB_iff.mpr (hz_20_0.elim (fun q => q.2) (fun q => absurd q.1 (by omega))))]; simp only [List.length_cons, List.length_nil]; omega) | (rw [if_neg (fun h9 => (hz_20_0.elim (fun q => absurd q.1 (by omega)) (fun q => q.2)) (tellB_iff.mp h9))]; simp)), (by rw [TLs]; first | (rw [if_pos (tellB_iff.mpr (hz_20_0.elim (fun q => q.2) (fun q => absurd q.1 (by omega)))), pick_one]; exact if h9 : w - fo = 0 then (by rw [if_pos h9]; exact hz_28_1.1 (by omega)) else (by rw [if_neg h9]; exact hz_28_1.2 (by omega))) | (rw [if_neg (fun h9 => (hz_20_0.elim (fun q => absurd q.1 (by omega)) (fun q => q.2)) (tellB_iff.mp h9)), pick_nil])), hd, (fun j _ _ => rfl)⟩
        exact z_vret C hr hlocks hW (fo2_28, an2_28, dg) rfl hP9 dX9_fill_31
    ·
      exfalso; omega
set_option maxHeartbeats 4000000 in
set_option maxRecDepth 100000 in
theorem c_X9_fillS (l : Launch) (G : GG) (h : Nat) (fa : Nat) (w : Int) (fo : Int) (an : Int) (dg : Int → Int) (b : Int) (p : Int) (fl : Int) (vl : Int) (k : Nat) (hb : 2 ≤ b ∧ b ≤ 10) (hp : 0 ≤ p ∧ p + ((k : Int) + 1) = b) (hd : BD dg) (hw : -2147483648 ≤ w ∧ w ≤ 2147483647) (hfo : 0 ≤ fo ∧ fo + ((TLs b (k + 1) p dg).length : Int) ≤ 2147483647) (hdg : ∀ j, 0 ≤ j → j < p → 0 ≤ dg j ∧ dg j < b) (hfl : 0 ≤ fl ∧ fl = b - sm dg p) (hvl : 0 ≤ vl ∧ vl = b - sm (fun j => j * dg j) p) (ih : ∀ (h : Nat) (fa : Nat) (w : Int) (fo : Int) (an : Int) (dg : Int → Int) (b : Int) (p : Int) (fl : Int) (vl : Int) (hb : 2 ≤ b ∧ b ≤ 10) (hp : 0 ≤ p ∧ p + (k : Int) = b) (hd : BD dg) (hw : -2147483648 ≤ w ∧ w ≤ 2147483647) (hfo : 0 ≤ fo ∧ fo + ((TLs b k p dg).length : Int) ≤ 2147483647) (hdg : ∀ j, 0 ≤ j → j < p → 0 ≤ dg j ∧ dg j < b) (hfl : 0 ≤ fl ∧ fl = b - sm dg p) (hvl : 0 ≤ vl ∧ vl = b - sm (fun j => j * dg j) p), MQc l yX9_fill wsX9_fill (k + 2) G [.ref h, .int (iI b), .int (iI p), .int (iI fl), .int (iI vl)] [(h, .inr (7, [.ref fa, .int (iI w), .int (iI fo), .long (lI an)])), (fa, .inl (G.2.1 0, 10, .inl (iA dg)))] (fun r (u : Int × Int × (Int → Int)) => r = none ∧ (u.1 = fo + ((TLs b k p dg).length : Int)) ∧ (u.2.1 = pick (TLs b k p dg) (w - fo) an) ∧ (BD u.2.2) ∧ (∀ j, 0 ≤ j → j < p → u.2.2 j = dg j)) (fun u => [(h, .inr (7, [.ref fa, .int (iI w), .int (iI u.1), .long (lI u.2.1)])), (fa, .inl (G.2.1 0, 10, .inl (iA u.2.2)))])) : MQc l yX9_fill wsX9_fill (k + 1 + 2) G [.ref h, .int (iI b), .int (iI p), .int (iI fl), .int (iI vl)] [(h, .inr (7, [.ref fa, .int (iI w), .int (iI fo), .long (lI an)])), (fa, .inl (G.2.1 0, 10, .inl (iA dg)))] (fun r (u : Int × Int × (Int → Int)) => r = none ∧ (u.1 = fo + ((TLs b (k + 1) p dg).length : Int)) ∧ (u.2.1 = pick (TLs b (k + 1) p dg) (w - fo) an) ∧ (BD u.2.2) ∧ (∀ j, 0 ≤ j → j < p → u.2.2 j = dg j)) (fun u => [(h, .inr (7, [.ref fa, .int (iI w), .int (iI u.1), .long (lI u.2.1)])), (fa, .inl (G.2.1 0, 10, .inl (iA u.2.2)))]) := by
  refine MQc.start (own := RX9) (by decide) rfl rfl (Nat.le_of_ble_eq_true rfl) ?_
  intro p9 e9 s9 m9 args below meth c9 A Q C hK hW hA hr hlocks hQ ls hl
  have hl : lv_has ls 6 [(0, .ref h), (1, .int (iI b)), (2, .int (iI p)), (3, .int (iI fl)), (4, .int (iI vl))] := hl
  have hin9 : ∀ w ∈ wsX90, w ∈ wsX9_fill := by decide +kernel
  have hflr : fl ≤ 2147483647 := by have hz := sm_b (h := dg) (n := p) (lo := 0) (hi := b) (fun j j0 j1 => by have := hdg j j0 j1; omega) hp.1; omega
  have hvlr : vl ≤ 2147483647 := by have hz := sm_b (h := fun j => j * dg j) (n := p) (lo := 0) (hi := 100) (fun j j0 j1 => ⟨Int.mul_nonneg j0 (hdg j j0 j1).1, Int.le_trans (Int.mul_le_mul (show j ≤ 10 by omega) (show dg j ≤ 10 by have := hdg j j0 j1; omega) (hdg j j0 j1).1 (by omega)) (by decide)⟩) hp.1; omega
  refine lv_iload_n C.1 C.2.1 dX9_fill_0 rfl (lv_at hl 2 rfl) ?_
  refine z_if_lt (tgt := 18) C dX9_fill_1 (by decide) (by omega) (fun c_1 => ?_) (fun c_1 => ?_)
  ·
    exfalso; omega
  ·
    refine lv_iload_n C.1 C.2.1 dX9_fill_4 rfl (lv_at hl 2 rfl) ?_
    refine lv_iload_n C.1 C.2.1 dX9_fill_5 rfl (lv_at hl 1 rfl) ?_
    refine z_icmp_ge (tgt := 18) C dX9_fill_6 (by decide) (by omega) (fun c_6 => ?_) (fun c_6 => ?_)
    ·
      exfalso; omega
    ·
      refine lv_iload_n C.1 C.2.1 dX9_fill_9 rfl (lv_at hl 2 rfl) ?_
      refine lv_aload_n C.1 C.2.1 dX9_fill_10 rfl (lv_at hl 0 rfl) ?_
      refine z_get C hK hW hin9 (v := .ref fa) 0 rfl rfl 0 (by decide) (C.2.2.2.2 (.fieldLink RX9 9 "TellingRows$TellerSearch" "figures" "[I") (List.mem_of_getElem? (i := 1) rfl)) (fun _ h9 => h9) rfl dX9_fill_11 ?_
      refine z_alen C hK hW 1 0 rfl rfl dX9_fill_14 ?_
      refine z_icmp_lt (tgt := 32) C dX9_fill_15 (by decide) (by omega) (fun c_15 => ?_) (fun c_15 => ?_)
      ·
        refine lv_iconst (v := iI 0) C.1 C.2.1 dX9_fill_32 rfl ?_
        refine lv_istore (lv' := [(5, .int (iI 0)), (0, .ref h), (1, .int (iI b)), (2, .int (iI p)), (3, .int (iI fl)), (4, .int (iI vl))]) C.1 C.2.1 dX9_fill_33 hl (by decide) rfl (fun ls hl => ?_)
        have cut_35 : ∀ (n9 : Nat) (x : Int) (fo1 : Int) (an1 : Int) (dg1 : Int → Int), (0 ≤ x ∧ x ≤ b) → (fo1 = fo + ((TLp b k p dg x).length : Int)) → (an1 = pick (TLp b k p dg x) (w - fo) an) → (BD dg1) → (∀ j, 0 ≤ j → j < p → dg1 j = dg j) → (b - x < (n9 : Int)) → ∀ (H : Heap) (locs : List Loc) (ls : Array Slot), Wd G A s9.heap [(h, .inr (7, [.ref fa, .int (iI w), .int (iI fo1), .long (lI an1)])), (fa, .inl (G.2.1 0, 10, .inl (iA dg1)))] H locs → lv_has ls 6 [(5, .int (iI x)), (0, .ref h), (1, .int (iI b)), (2, .int (iI p)), (3, .int (iI fl)), (4, .int (iI vl))] → W p9 l e9 (rmL (k + 1 + 2)) s9 m9 args below meth c9 H locs 0 0 Q (F0 m9 35 ls []) := by
          intro n9
          induction n9 with
          | zero => intro x fo1 an1 dg1 hx hfo1 han1 hd1 hdg1 hmu; intros; exfalso; omega
          | succ n9 ih_35 =>
            intro x fo1 an1 dg1 hx hfo1 han1 hd1 hdg1 hmu H locs ls hW hl
            have hxp : 0 ≤ x * p ∧ x * p ≤ 100 := ⟨Int.mul_nonneg hx.1 hp.1, Int.le_trans (Int.mul_le_mul (show x ≤ 10 by omega) (show p ≤ 10 by omega) hp.1 (by omega)) (by decide)⟩
            refine lv_iload C.1 C.2.1 dX9_fill_35 (lv_at hl 0 rfl) ?_
            refine lv_iload_n C.1 C.2.1 dX9_fill_37 rfl (lv_at hl 2 rfl) ?_
            refine z_icmp_ge (tgt := 89) C dX9_fill_38 (by decide) (by omega) (fun c_38 => ?_) (fun c_38 => ?_)
            ·
              have hR : TLs b (k + 1) p dg = TLp b k p dg x := TLp_rest (by omega) hp.1 (by omega) hdg hx.1 hx.2 (by omega)
              rw [hQ]
              have hP9 : (none : Option Value) = none ∧ (fo1 = fo + ((TLs b (k + 1) p dg).length : Int)) ∧ (an1 = pick (TLs b (k + 1) p dg) (w - fo) an) ∧ (BD dg1) ∧ (∀ j, 0 ≤ j → j < p → dg1 j = dg j) := ⟨rfl, (by rw [hR]; exact hfo1), (by rw [hR]; exact han1), hd1, hdg1⟩
              exact z_vret C hr hlocks hW (fo1, an1, dg1) rfl hP9 dX9_fill_89
            ·
              refine lv_iload C.1 C.2.1 dX9_fill_41 (lv_at hl 0 rfl) ?_
              refine lv_iload_n C.1 C.2.1 dX9_fill_43 rfl (lv_at hl 4 rfl) ?_
              refine z_icmp_gt (tgt := 89) C dX9_fill_44 (by decide) (by omega) (fun c_44 => ?_) (fun c_44 => ?_)
              ·
                have hR : TLs b (k + 1) p dg = TLp b k p dg x := TLp_rest (by omega) hp.1 (by omega) hdg hx.1 hx.2 (by omega)
                rw [hQ]
                have hP9 : (none : Option Value) = none ∧ (fo1 = fo + ((TLs b (k + 1) p dg).length : Int)) ∧ (an1 = pick (TLs b (k + 1) p dg) (w - fo) an) ∧ (BD dg1) ∧ (∀ j, 0 ≤ j → j < p → dg1 j = dg j) := ⟨rfl, (by rw [hR]; exact hfo1), (by rw [hR]; exact han1), hd1, hdg1⟩
                exact z_vret C hr hlocks hW (fo1, an1, dg1) rfl hP9 dX9_fill_89
              ·
                refine lv_iload C.1 C.2.1 dX9_fill_47 (lv_at hl 0 rfl) ?_
                refine lv_iload_n C.1 C.2.1 dX9_fill_49 rfl (lv_at hl 3 rfl) ?_
                refine z_imul C dX9_fill_50 ?_
                refine lv_iload C.1 C.2.1 dX9_fill_51 (lv_at hl 5 rfl) ?_
                refine z_icmp_gt (tgt := 89) C dX9_fill_53 (by decide) (by omega) (fun c_53 => ?_) (fun c_53 => ?_)
                ·
                  have hR : TLs b (k + 1) p dg = TLp b k p dg x := TLp_rest (by omega) hp.1 (by omega) hdg hx.1 hx.2 (by omega)
                  rw [hQ]
                  have hP9 : (none : Option Value) = none ∧ (fo1 = fo + ((TLs b (k + 1) p dg).length : Int)) ∧ (an1 = pick (TLs b (k + 1) p dg) (w - fo) an) ∧ (BD dg1) ∧ (∀ j, 0 ≤ j → j < p → dg1 j = dg j) := ⟨rfl, (by rw [hR]; exact hfo1), (by rw [hR]; exact han1), hd1, hdg1⟩
                  exact z_vret C hr hlocks hW (fo1, an1, dg1) rfl hP9 dX9_fill_89
                ·
                  refine lv_aload_n C.1 C.2.1 dX9_fill_56 rfl (lv_at hl 1 rfl) ?_
                  refine z_get C hK hW hin9 (v := .ref fa) 0 rfl rfl 0 (by decide) (C.2.2.2.2 (.fieldLink RX9 9 "TellingRows$TellerSearch" "figures" "[I") (List.mem_of_getElem? (i := 1) rfl)) (fun _ h9 => h9) rfl dX9_fill_57 ?_
                  refine lv_iload_n C.1 C.2.1 dX9_fill_60 rfl (lv_at hl 3 rfl) ?_
                  refine lv_iload C.1 C.2.1 dX9_fill_61 (lv_at hl 0 rfl) ?_
                  have hTc : TLs b k (p + 1) (up dg1 p x) = TLs b k (p + 1) (up dg p x) := TLs_congr k (p + 1) _ _ (by omega) (by omega) (fun j j0 j1 => by rcases Int.lt_or_le j p with q | q; rw [up_n _ _ (by omega), up_n _ _ (by omega)]; exact hdg1 j j0 q; rw [show j = p by omega, up_s, up_s])
                  have hlen : ((TLp b k p dg (x + 1)).length : Int) ≤ ((TLs b (k + 1) p dg).length : Int) := by have hm := TLp_mono (b := b) (k := k) (p := p) (d := dg) (x := x + 1) (y := b) (by omega) (by omega); exact Int.ofNat_le.mpr hm
                  have hlen2 : ((TLp b k p dg (x + 1)).length : Int) = (TLp b k p dg x).length + (TLs b k (p + 1) (up dg p x)).length := by rw [TLp_s hx.1, List.length_append, Int.natCast_add]
                  have hs1 : sm (up dg1 p x) (p + 1) = sm dg p + x := by have e1 : sm (up dg1 p x) (p + 1) = sm dg1 p + x := sm_up (fun _ y => y) hp.1; rw [e1, sm_congr hdg1]
                  have hs2 : sm (fun j => j * up dg1 p x j) (p + 1) = sm (fun j => j * dg j) p + x * p := by have e1 : sm (fun j => j * up dg1 p x j) (p + 1) = sm (fun j => j * dg1 j) p + p * x := sm_up (fun j y => j * y) hp.1; rw [e1, Int.mul_comm p x]; congr 1; exact sm_congr (fun j j0 j1 => by rw [hdg1 j j0 j1])
                  refine z_iast C hK hW 1 rfl (by omega) (by omega) dX9_fill_63 (fun H locs hW => ?_)
                  have hbd_63 : BD (up dg1 p x) := BD.up hd1 (by omega)
                  have hW : Wd G A s9.heap [(h, .inr (7, [.ref fa, .int (iI w), .int (iI fo1), .long (lI an1)])), (fa, .inl (G.2.1 0, 10, .inl (iA (up dg1 p x))))] H locs := hW
                  refine lv_aload_n C.1 C.2.1 dX9_fill_64 rfl (lv_at hl 1 rfl) ?_
                  refine lv_iload_n C.1 C.2.1 dX9_fill_65 rfl (lv_at hl 2 rfl) ?_
                  refine lv_iload_n C.1 C.2.1 dX9_fill_66 rfl (lv_at hl 3 rfl) ?_
                  refine lv_iconst (v := iI 1) C.1 C.2.1 dX9_fill_67 rfl ?_
                  refine z_iadd C dX9_fill_68 ?_
                  refine lv_iload_n C.1 C.2.1 dX9_fill_69 rfl (lv_at hl 4 rfl) ?_
                  refine lv_iload C.1 C.2.1 dX9_fill_70 (lv_at hl 0 rfl) ?_
                  refine z_isub C dX9_fill_72 ?_
                  refine lv_iload C.1 C.2.1 dX9_fill_73 (lv_at hl 5 rfl) ?_
                  refine lv_iload C.1 C.2.1 dX9_fill_75 (lv_at hl 0 rfl) ?_
                  refine lv_iload_n C.1 C.2.1 dX9_fill_77 rfl (lv_at hl 3 rfl) ?_
                  refine z_imul C dX9_fill_78 ?_
                  refine z_isub C dX9_fill_79 ?_
                  refine z_call (va_runS (As := [.ref h, .int (iI b), .int (iI (p + 1)), .int (iI (fl - x)), .int (iI (vl - (x * p)))]) (rest := []) C (ih h fa w fo1 an1 (up dg1 p x) b (p + 1) (fl - x) (vl - (x * p)) hb (by omega) hbd_63 hw (by rw [hTc]; omega) (fun j j0 j1 => (Int.lt_or_le j p).elim (fun q => by rw [up_n _ _ (by omega), hdg1 j j0 q]; exact hdg j j0 q) (fun q => by rw [show j = p by omega, up_s]; omega)) (by rw [hs1]; omega) (by rw [hs2]; omega) H.size) (va_cwS 5 C.2.2.2.2 gX9_fill_X9_fill rfl rfl rfl (by decide +kernel) ⟨(by show k + 2 + 1 ≤ k + 1 + 2; omega), (by show 8 + (6 + 11) + 64 * (k + 2) ≤ 64 * (k + 1 + 2); omega)⟩) (z_preS hK hW hA [0, 1] rfl (by decide)) rfl rfl hl.1 rfl (lv_room (Nat.le_of_ble_eq_true rfl)) dX9_fill_80 ⟨Nat.zero_le _, Nat.zero_le _⟩) hW hA [0, 1] rfl (by decide) (fun _ => rfl) (fun r u H locs hp hW => ?_)
                  obtain ⟨fo2_80, an2_80, dg2_80⟩ := u
                  have hp : r = none ∧ (fo2_80 = fo1 + ((TLs b k (p + 1) (up dg1 p x)).length : Int)) ∧ (an2_80 = pick (TLs b k (p + 1) (up dg1 p x)) (w - fo1) an1) ∧ (BD dg2_80) ∧ (∀ j, 0 ≤ j → j < (p + 1) → dg2_80 j = (up dg1 p x) j) := hp
                  obtain ⟨rfl, hz_80_0, hz_80_1, hz_80_2, hz_80_3⟩ := hp
                  have hW : Wd G A s9.heap [(h, .inr (7, [.ref fa, .int (iI w), .int (iI fo2_80), .long (lI an2_80)])), (fa, .inl (G.2.1 0, 10, .inl (iA dg2_80)))] H locs := hW
                  refine lv_iinc (v := iI (x + 1)) (lv' := [(5, .int (iI (x + 1))), (0, .ref h), (1, .int (iI b)), (2, .int (iI p)), (3, .int (iI fl)), (4, .int (iI vl))]) C.1 C.2.1 dX9_fill_83 hl (k := 0) rfl (iI_add _ _) (by decide) rfl (fun ls hl => ?_)
                  refine lv_goto (tgt := 35) C.1 C.2.1 dX9_fill_86 (by decide) ?_
                  exact ih_35 (x + 1) fo2_80 an2_80 dg2_80 (by first | omega | assumption | (intros; first | rfl | omega | assumption | (and_intros <;> first | rfl | omega | assumption))) (by rw [hz_80_0, TLp_s hx.1, List.length_append, hTc, Int.natCast_add]; omega) (by rw [hz_80_1, TLp_s hx.1, pick_app, hTc, han1, hfo1]; congr 1; omega) hz_80_2 (fun j j0 j1 => by rw [hz_80_3 j j0 (by omega), up_n _ _ (by omega)]; exact hdg1 j j0 j1) (by omega) _ _ _ hW (lv_sub hl [0, 1, 2, 3, 4, 5] rfl)
        exact cut_35 (((b - 0) + 1 : Int)).toNat 0 fo an dg (by first | omega | assumption | (intros; first | rfl | omega | assumption | (and_intros <;> first | rfl | omega | assumption))) (by rw [TLp_0]; simp) (by rw [TLp_0, pick_nil]) hd (fun j _ _ => rfl) (by omega) _ _ _ hW (lv_sub hl [0, 1, 2, 3, 4, 5] rfl)
      ·
        exfalso; omega
theorem c_X9_fill (l : Launch) (G : GG) : ∀ (k : Nat), ∀ (h : Nat) (fa : Nat) (w : Int) (fo : Int) (an : Int) (dg : Int → Int) (b : Int) (p : Int) (fl : Int) (vl : Int) (hb : 2 ≤ b ∧ b ≤ 10) (hp : 0 ≤ p ∧ p + (k : Int) = b) (hd : BD dg) (hw : -2147483648 ≤ w ∧ w ≤ 2147483647) (hfo : 0 ≤ fo ∧ fo + ((TLs b k p dg).length : Int) ≤ 2147483647) (hdg : ∀ j, 0 ≤ j → j < p → 0 ≤ dg j ∧ dg j < b) (hfl : 0 ≤ fl ∧ fl = b - sm dg p) (hvl : 0 ≤ vl ∧ vl = b - sm (fun j => j * dg j) p), MQc l yX9_fill wsX9_fill (k + 2) G [.ref h, .int (iI b), .int (iI p), .int (iI fl), .int (iI vl)] [(h, .inr (7, [.ref fa, .int (iI w), .int (iI fo), .long (lI an)])), (fa, .inl (G.2.1 0, 10, .inl (iA dg)))] (fun r (u : Int × Int × (Int → Int)) => r = none ∧ (u.1 = fo + ((TLs b k p dg).length : Int)) ∧ (u.2.1 = pick (TLs b k p dg) (w - fo) an) ∧ (BD u.2.2) ∧ (∀ j, 0 ≤ j → j < p → u.2.2 j = dg j)) (fun u => [(h, .inr (7, [.ref fa, .int (iI w), .int (iI u.1), .long (lI u.2.1)])), (fa, .inl (G.2.1 0, 10, .inl (iA u.2.2)))]) := by
  intro k
  induction k with
  | zero => intro h fa w fo an dg b p fl vl hb hp hd hw hfo hdg hfl hvl; exact c_X9_fill0 l G h fa w fo an dg b p fl vl hb (by simpa using hp) hd hw hfo hdg hfl hvl
  | succ k ih => intro h fa w fo an dg b p fl vl hb hp hd hw hfo hdg hfl hvl; exact c_X9_fillS l G h fa w fo an dg b p fl vl k hb (by omega) hd hw hfo hdg hfl hvl ih
set_option maxHeartbeats 4000000 in
set_option maxRecDepth 100000 in
/-- TellerSearch.search -/
theorem c_X9_search (l : Launch) (G : GG) (h : Nat) (fa : Nat) (w : Int) (fo : Int) (an : Int) (dg : Int → Int) (b : Int) (wh : Int) (hb : 2 ≤ b ∧ b ≤ 10) (hd : BD dg) (hwh : -2147483648 ≤ wh ∧ wh ≤ 2147483647) : MQc l yX9_search wsX9_search 13 G [.ref h, .int (iI b), .int (iI wh)] [(h, .inr (7, [.ref fa, .int (iI w), .int (iI fo), .long (lI an)])), (fa, .inl (G.2.1 0, 10, .inl (iA dg)))] (fun r (u : Int × Int × (Int → Int)) => ∃ z : Int, r = some (.int (iI z)) ∧ (z = ((LT b).length : Int)) ∧ (u.2.1 = pick (LT b) wh (-4)) ∧ (BD u.2.2) ∧ (-2147483648 ≤ u.1 ∧ u.1 ≤ 2147483647)) (fun u => [(h, .inr (7, [.ref fa, .int (iI wh), .int (iI u.1), .long (lI u.2.1)])), (fa, .inl (G.2.1 0, 10, .inl (iA u.2.2)))]) := by
  refine MQc.start (own := RX9) (by decide) rfl rfl (Nat.le_of_ble_eq_true rfl) ?_
  intro p9 e9 s9 m9 args below meth c9 A Q C hK hW hA hr hlocks hQ ls hl
  have hl : lv_has ls 3 [(0, .ref h), (1, .int (iI b)), (2, .int (iI wh))] := hl
  have hin9 : ∀ w ∈ wsX90, w ∈ wsX9_search := by decide +kernel
  have hlen := LT_len hb
  have hLT := LT_any (b := b) (by omega) dg
  refine lv_aload_n C.1 C.2.1 dX9_search_0 rfl (lv_at hl 0 rfl) ?_
  refine lv_iload_n C.1 C.2.1 dX9_search_1 rfl (lv_at hl 2 rfl) ?_
  refine z_put C hK hW hin9 tyX9 tyX9_ok nmX9 0 rfl rfl 1 (by decide) (C.2.2.2.2 (.fieldLink RX9 19 "TellingRows$TellerSearch" "wanted" "I") (List.mem_of_getElem? (i := 1) rfl)) (fun _ h9 => h9) rfl rfl rfl (Nat.le_of_ble_eq_true rfl) dX9_search_2 (fun H locs hW => ?_)
  have hW : Wd G A s9.heap [(h, .inr (7, [.ref fa, .int (iI wh), .int (iI fo), .long (lI an)])), (fa, .inl (G.2.1 0, 10, .inl (iA dg)))] H locs := hW
  refine lv_aload_n C.1 C.2.1 dX9_search_5 rfl (lv_at hl 0 rfl) ?_
  refine lv_iconst (v := iI 0) C.1 C.2.1 dX9_search_6 rfl ?_
  refine z_put C hK hW hin9 tyX9 tyX9_ok nmX9 0 rfl rfl 2 (by decide) (C.2.2.2.2 (.fieldLink RX9 23 "TellingRows$TellerSearch" "found" "I") (List.mem_of_getElem? (i := 2) rfl)) (fun _ h9 => h9) rfl rfl rfl (Nat.le_of_ble_eq_true rfl) dX9_search_7 (fun H locs hW => ?_)
  have hW : Wd G A s9.heap [(h, .inr (7, [.ref fa, .int (iI wh), .int (iI 0), .long (lI an)])), (fa, .inl (G.2.1 0, 10, .inl (iA dg)))] H locs := hW
  refine lv_aload_n C.1 C.2.1 dX9_search_10 rfl (lv_at hl 0 rfl) ?_
  refine z_ldc2 (z := (-4)) C (C.2.2.2.2 (.constantLong RX9 26 (-4)) (List.mem_of_getElem? (i := 3) rfl)) (by decide +kernel) dX9_search_11 ?_
  refine z_put C hK hW hin9 tyX9 tyX9_ok nmX9 0 rfl rfl 3 (by decide) (C.2.2.2.2 (.fieldLink RX9 15 "TellingRows$TellerSearch" "answer" "J") (List.mem_of_getElem? (i := 4) rfl)) (fun _ h9 => h9) rfl rfl rfl (Nat.le_of_ble_eq_true rfl) dX9_search_14 (fun H locs hW => ?_)
  have hW : Wd G A s9.heap [(h, .inr (7, [.ref fa, .int (iI wh), .int (iI 0), .long (lI (-4))])), (fa, .inl (G.2.1 0, 10, .inl (iA dg)))] H locs := hW
  refine lv_aload_n C.1 C.2.1 dX9_search_17 rfl (lv_at hl 0 rfl) ?_
  refine lv_iload_n C.1 C.2.1 dX9_search_18 rfl (lv_at hl 1 rfl) ?_
  refine lv_iconst (v := iI 0) C.1 C.2.1 dX9_search_19 rfl ?_
  refine lv_iload_n C.1 C.2.1 dX9_search_20 rfl (lv_at hl 1 rfl) ?_
  refine lv_iload_n C.1 C.2.1 dX9_search_21 rfl (lv_at hl 1 rfl) ?_
  refine z_call (va_runS (As := [.ref h, .int (iI b), .int (iI 0), .int (iI b), .int (iI b)]) (rest := []) C (c_X9_fill l G b.toNat h fa wh 0 (-4) dg b 0 b b hb (by omega) hd hwh (by rw [hLT]; omega) (fun j j0 j1 => by omega) (by rw [sm_0 (by omega)]; omega) (by rw [sm_0 (by omega)]; omega) H.size) (va_cwS 5 C.2.2.2.2 gX9_search_X9_fill rfl rfl rfl (by decide +kernel) ⟨(by show b.toNat + 2 + 1 ≤ 13; omega), (by show 8 + (6 + 11) + 64 * (b.toNat + 2) ≤ 64 * 13; omega)⟩) (z_preS hK hW hA [0, 1] rfl (by decide)) rfl rfl hl.1 rfl (lv_room (Nat.le_of_ble_eq_true rfl)) dX9_search_22 ⟨Nat.zero_le _, Nat.zero_le _⟩) hW hA [0, 1] rfl (by decide) (fun _ => rfl) (fun r u H locs hp hW => ?_)
  obtain ⟨fo2_22, an2_22, dg2_22⟩ := u
  have hp : r = none ∧ (fo2_22 = 0 + ((TLs b b.toNat 0 dg).length : Int)) ∧ (an2_22 = pick (TLs b b.toNat 0 dg) (wh - 0) (-4)) ∧ (BD dg2_22) ∧ (∀ j, 0 ≤ j → j < 0 → dg2_22 j = dg j) := hp
  obtain ⟨rfl, hz_22_0, hz_22_1, hz_22_2, hz_22_3⟩ := hp
  have hW : Wd G A s9.heap [(h, .inr (7, [.ref fa, .int (iI wh), .int (iI fo2_22), .long (lI an2_22)])), (fa, .inl (G.2.1 0, 10, .inl (iA dg2_22)))] H locs := hW
  refine lv_aload_n C.1 C.2.1 dX9_search_25 rfl (lv_at hl 0 rfl) ?_
  refine z_get C hK hW hin9 (v := .int (iI fo2_22)) 0 rfl rfl 2 (by decide) (C.2.2.2.2 (.fieldLink RX9 23 "TellingRows$TellerSearch" "found" "I") (List.mem_of_getElem? (i := 2) rfl)) (fun _ h9 => h9) rfl dX9_search_26 ?_
  rw [hQ]
  have hP9 : ∃ z : Int, (some (Value.int (iI fo2_22))) = some (.int (iI z)) ∧ (z = ((LT b).length : Int)) ∧ (an2_22 = pick (LT b) wh (-4)) ∧ (BD dg2_22) ∧ (-2147483648 ≤ fo2_22 ∧ fo2_22 ≤ 2147483647) := ⟨_, rfl, (by rw [hz_22_0, hLT]; omega), (by rw [hz_22_1, hLT]; congr 1; omega), hz_22_2, (by rw [hz_22_0, hLT]; omega)⟩
  exact z_iret C hr hlocks hW (fo2_22, an2_22, dg2_22) rfl hP9 dX9_search_29
