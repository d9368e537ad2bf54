theorem off_congr {f f' : Int → Int} {n i : Int} (hh : ∀ j, 0 ≤ j → j < n → f j = f' j) (h : 2 * i ≤ n) : off f i = off f' i := sm_congr (fun y y0 y1 => hh (2 * y) (by omega) (by omega))
theorem UnR_in {f f' g : Int → Int} {n m : Int} (hh : ∀ j, 0 ≤ j → j < n → f j = f' j) (h : UnR f n g m) : UnR f' n g m := by
  obtain ⟨i, hi, a1, a2, a3, a4, a5, a6⟩ := h
  refine ⟨i, hi, a1, a2, by rw [a3, off_congr hh a2], a4, fun y y0 y1 => ?_, fun y k y0 y1 k0 k1 => ?_⟩
  · rw [← hh _ (by omega) (by omega), ← hh _ (by omega) (by omega)]
    exact a5 y y0 y1
  · rw [← hh _ (by omega) (by omega), ← off_congr hh (i := y) (by omega)]
    exact a6 y k y0 y1 k0 (by rw [hh _ (by omega) (by omega)]; exact k1)
theorem UnB_in {f f' : Int → Int} {n : Int} (hh : ∀ j, 0 ≤ j → j < n → f j = f' j) (h : UnB f n) : UnB f' n := by
  rcases h with h | ⟨y, y0, y1, y2⟩ | ⟨i, h1, h2⟩
  · exact Or.inl h
  · exact Or.inr (Or.inl ⟨y, y0, y1, by rw [← hh _ (by omega) (by omega), ← hh _ (by omega) (by omega)]; exact y2⟩)
  · exact Or.inr (Or.inr ⟨i, h1, by rw [← off_congr hh (i := i) (by omega)]; exact h2⟩)
set_option maxHeartbeats 4000000 in
set_option maxRecDepth 100000 in
/-- said -/
theorem c_X11_said (l : Launch) (G : GG) (x : Nat) (ln : Int) (a1 : Nat) (pl : Int) (a3 : Nat) (a4 : Nat) (ri : Int) (ld : Int) (mn : Int) (a8 : Nat) (a9 : Nat) (nn : Int) (a11 : Nat) (fn : Int) (a13 : Nat) (lm : Int) (a15 : Nat) (a16 : Nat) (a17 : Nat) (a18 : Nat) (a19 : Nat) (a20 : Nat) (f : Int → Int) (g : Int → Int) (h0 : Int → Int) (b : Int) (k : Int) (i : Int) (hn : 0 ≤ fn ∧ fn ≤ 40) (hf : BD f) (hg : BD g) (hh : BD h0) (hlm : 0 ≤ lm ∧ lm ≤ 5000) (hb : -2147483648 ≤ b ∧ b ≤ 2147483647) (hk : -2147483648 ≤ k ∧ k ≤ 2147483647) (hi : -2147483648 ≤ i ∧ i ≤ 2147483647) : MQc l yX11_said wsX11_said 1 G [.ref x, .int (iI b), .int (iI k), .int (iI i)] [(x, .inr (9, [.int (iI ln), .ref a1, .int (iI pl), .ref a3, .ref a4, .int (iI ri), .int (iI ld), .int (iI mn), .ref a8, .ref a9, .int (iI nn), .ref a11, .int (iI fn), .ref a13, .int (iI lm), .ref a15, .ref a16, .ref a17, .ref a18, .ref a19, .ref a20])), (a13, .inl (G.2.1 0, 40, .inl (iA f))), (a15, .inl (G.2.1 0, 5000, .inl (iA g))), (a16, .inl (G.2.1 0, 5000, .inl (iA h0)))] (fun r (u : Int × (Int → Int) × (Int → Int)) => ∃ z : Int, r = some (.int (iI z)) ∧ ((0 ≤ k ∧ k ≤ 12) ∧ -1 ≤ i → SaidQ b f fn k i z) ∧ (¬ ((0 ≤ k ∧ k ≤ 12) ∧ -1 ≤ i) → z = -1) ∧ (BD u.2.1) ∧ (BD u.2.2) ∧ (0 ≤ u.1 ∧ u.1 ≤ 5000)) (fun u => [(x, .inr (9, [.int (iI ln), .ref a1, .int (iI pl), .ref a3, .ref a4, .int (iI ri), .int (iI ld), .int (iI mn), .ref a8, .ref a9, .int (iI nn), .ref a11, .int (iI fn), .ref a13, .int (iI u.1), .ref a15, .ref a16, .ref a17, .ref a18, .ref a19, .ref a20])), (a13, .inl (G.2.1 0, 40, .inl (iA f))), (a15, .inl (G.2.1 0, 5000, .inl (iA u.2.1))), (a16, .inl (G.2.1 0, 5000, .inl (iA u.2.2)))]) := by
  refine MQc.start (own := RX11) (by decide) rfl rfl (Nat.le_of_ble_eq_true rfl) ?_
  intro p9 e9 s9 m9 args below meth c9 A Q C hK hW hA hr hlocks hQ ls hl
  have hl : lv_has ls 5 [(0, .ref x), (1, .int (iI b)), (2, .int (iI k)), (3, .int (iI i))] := hl
  have hin11 : ∀ w ∈ wsX110, w ∈ wsX11_said := by decide +kernel
  refine lv_iload_n C.1 C.2.1 dX11_said_0 rfl (lv_at hl 2 rfl) ?_
  refine z_i2l C dX11_said_1 (by omega) ?_
  refine lv_lconst (v := lI 0) C.1 C.2.1 dX11_said_2 rfl ?_
  refine z_ldc2 (z := 12) C (C.2.2.2.2 (.constantLong RX11 147 (12)) (List.mem_of_getElem? (i := 1) rfl)) (by decide +kernel) dX11_said_3 ?_
  refine z_callR (va_runS (As := [.long (lI k), .long (lI 0), .long (lI 12)]) (rest := []) C (c_X11_in l G k 0 12 (by first | omega | assumption | (intros; first | rfl | omega | assumption | (and_intros <;> first | rfl | omega | assumption))) (by first | omega | assumption | (intros; first | rfl | omega | assumption | (and_intros <;> first | rfl | omega | assumption))) (by first | omega | assumption | (intros; first | rfl | omega | assumption | (and_intros <;> first | rfl | omega | assumption))) s9.heap.size) (va_cwS 3 C.2.2.2.2 gX11_said_X11_in rfl rfl rfl (by decide +kernel) ⟨Nat.le_of_ble_eq_true rfl, Nat.le_of_ble_eq_true rfl⟩) (z_preS hK hW hA [] rfl (by decide)) rfl rfl hl.1 rfl (lv_room (Nat.le_of_ble_eq_true rfl)) dX11_said_6 ⟨Nat.zero_le _, Nat.zero_le _⟩) (fun r hp => ?_)
  have hp : ∃ z : Int, r = some (.int (iI z)) ∧ ((z = 1 ∧ ((0 : Int) ≤ k ∧ k ≤ (12 : Int))) ∨ (z = 0 ∧ ¬ ((0 : Int) ≤ k ∧ k ≤ (12 : Int)))) := hp
  obtain ⟨z_6, rfl, hz_6_0⟩ := hp
  refine z_if_eq (tgt := 17) C dX11_said_9 (by decide) (by omega) (fun c_9 => ?_) (fun c_9 => ?_)
  ·
    refine lv_iconst (v := iI (-1)) C.1 C.2.1 dX11_said_17 rfl ?_
    rw [hQ]
    have hP9 : ∃ z : Int, (some (Value.int (iI (-1)))) = some (.int (iI z)) ∧ ((0 ≤ k ∧ k ≤ 12) ∧ -1 ≤ i → SaidQ b f fn k i z) ∧ (¬ ((0 ≤ k ∧ k ≤ 12) ∧ -1 ≤ i) → z = -1) ∧ (BD g) ∧ (BD h0) ∧ (0 ≤ lm ∧ lm ≤ 5000) := ⟨_, rfl, (fun q9 => by omega), (by first | omega | assumption | (intros; first | rfl | omega | assumption | (and_intros <;> first | rfl | omega | assumption))), hg, hh, hlm⟩
    exact z_iret C hr hlocks hW (lm, g, h0) rfl hP9 dX11_said_18
  ·
    refine lv_iload_n C.1 C.2.1 dX11_said_12 rfl (lv_at hl 3 rfl) ?_
    refine lv_iconst (v := iI (-1)) C.1 C.2.1 dX11_said_13 rfl ?_
    refine z_icmp_ge (tgt := 19) C dX11_said_14 (by decide) (by omega) (fun c_14 => ?_) (fun c_14 => ?_)
    ·
      refine lv_aload_n C.1 C.2.1 dX11_said_19 rfl (lv_at hl 0 rfl) ?_
      refine z_call (va_runV (As := []) (rest := []) C (c_X11_begins l G x ln a1 pl a3 a4 ri ld mn a8 a9 nn a11 fn a13 lm a15 a16 a17 a18 a19 a20 f g hn hf hg s9.heap.size) (cwV 0 C.2.2.2.2 gX11_said_X11_begins rfl rfl rfl (by decide +kernel) ⟨Nat.le_of_ble_eq_true rfl, Nat.le_of_ble_eq_true rfl⟩) (z_preV hK hW hA [0, 1, 2] rfl (by decide) (ci := 9) (q0 := 0) rfl rfl) rfl rfl hl.1 rfl (lv_room (Nat.le_of_ble_eq_true rfl)) dX11_said_20 ⟨Nat.zero_le _, Nat.zero_le _⟩) hW hA [0, 1, 2] rfl (by decide) (fun _ => rfl) (fun r u H locs hp hW => ?_)
      obtain ⟨g2_20, rfl⟩ : ∃ q9, q9 = u := ⟨_, rfl⟩
      have hp : r = none ∧ (∀ j, 0 ≤ j → j < fn → g2_20 j = f j) ∧ (BD g2_20) := hp
      obtain ⟨rfl, hz_20_0, hz_20_1⟩ := hp
      have hW : Wd G A s9.heap [(x, .inr (9, [.int (iI ln), .ref a1, .int (iI pl), .ref a3, .ref a4, .int (iI ri), .int (iI ld), .int (iI mn), .ref a8, .ref a9, .int (iI nn), .ref a11, .int (iI fn), .ref a13, .int (iI fn), .ref a15, .ref a16, .ref a17, .ref a18, .ref a19, .ref a20])), (a13, .inl (G.2.1 0, 40, .inl (iA f))), (a15, .inl (G.2.1 0, 5000, .inl (iA g2_20))), (a16, .inl (G.2.1 0, 5000, .inl (iA h0)))] H locs := hW
      refine lv_iconst (v := iI 0) C.1 C.2.1 dX11_said_23 rfl ?_
      refine lv_istore (lv' := [(4, .int (iI 0)), (0, .ref x), (1, .int (iI b)), (2, .int (iI k)), (3, .int (iI i))]) C.1 C.2.1 dX11_said_24 hl (by decide) rfl (fun ls hl => ?_)
      have cut_26 : ∀ (n9 : Nat) (s : Int) (l1 : Int) (g1 : Int → Int) (h1 : Int → Int), (0 ≤ s ∧ s ≤ k) → (It b f fn s.toNat g1 l1) → (0 ≤ l1 ∧ l1 ≤ 5000) → (BD g1) → (BD h1) → (k - s < (n9 : Int)) → ∀ (H : Heap) (locs : List Loc) (ls : Array Slot), Wd G A s9.heap [(x, .inr (9, [.int (iI ln), .ref a1, .int (iI pl), .ref a3, .ref a4, .int (iI ri), .int (iI ld), .int (iI mn), .ref a8, .ref a9, .int (iI nn), .ref a11, .int (iI fn), .ref a13, .int (iI l1), .ref a15, .ref a16, .ref a17, .ref a18, .ref a19, .ref a20])), (a13, .inl (G.2.1 0, 40, .inl (iA f))), (a15, .inl (G.2.1 0, 5000, .inl (iA g1))), (a16, .inl (G.2.1 0, 5000, .inl (iA h1)))] H locs → lv_has ls 5 [(4, .int (iI s)), (0, .ref x), (1, .int (iI b)), (2, .int (iI k)), (3, .int (iI i))] → W p9 l e9 (rmL 1) s9 m9 args below meth c9 H locs 0 0 Q (F0 m9 26 ls []) := by
        intro n9
        induction n9 with
        | zero => intro s l1 g1 h1 hs hI hl1 hg1 hh1 hmu; intros; exfalso; omega
        | succ n9 ih_26 =>
          intro s l1 g1 h1 hs hI hl1 hg1 hh1 hmu H locs ls hW hl
          refine lv_iload C.1 C.2.1 dX11_said_26 (lv_at hl 0 rfl) ?_
          refine lv_iload_n C.1 C.2.1 dX11_said_28 rfl (lv_at hl 3 rfl) ?_
          refine z_icmp_ge (tgt := 49) C dX11_said_29 (by decide) (by omega) (fun c_29 => ?_) (fun c_29 => ?_)
          ·
            refine lv_iload_n C.1 C.2.1 dX11_said_49 rfl (lv_at hl 4 rfl) ?_
            refine z_if_ge (tgt := 60) C dX11_said_50 (by decide) (by omega) (fun c_50 => ?_) (fun c_50 => ?_)
            ·
              refine lv_iload_n C.1 C.2.1 dX11_said_60 rfl (lv_at hl 4 rfl) ?_
              refine lv_aload_n C.1 C.2.1 dX11_said_61 rfl (lv_at hl 1 rfl) ?_
              refine z_get C hK hW hin11 (v := .int (iI l1)) 0 rfl rfl 14 (by decide) (C.2.2.2.2 (.fieldLink RX11 144 "TellingRowsModel" "lineMany" "I") (List.mem_of_getElem? (i := 2) rfl)) (fun _ h9 => h9) rfl dX11_said_62 ?_
              refine z_icmp_ge (tgt := 77) C dX11_said_65 (by decide) (by omega) (fun c_65 => ?_) (fun c_65 => ?_)
              ·
                refine lv_bipush (v := iI (-4)) C.1 C.2.1 dX11_said_77 (by decide +kernel) ?_
                rw [hQ]
                have hP9 : ∃ z : Int, (some (Value.int (iI (-4)))) = some (.int (iI z)) ∧ ((0 ≤ k ∧ k ≤ 12) ∧ -1 ≤ i → SaidQ b f fn k i z) ∧ (¬ ((0 ≤ k ∧ k ≤ 12) ∧ -1 ≤ i) → z = -1) ∧ (BD g1) ∧ (BD h1) ∧ (0 ≤ l1 ∧ l1 ≤ 5000) := ⟨_, rfl, (fun _ => Or.inr ⟨g1, l1, by rw [show k.toNat = s.toNat by omega]; exact hI, fun q9 => by first | rfl | omega, fun q9 => by first | rfl | omega, fun q9 q8 => by first | rfl | omega⟩), (fun q9 => by omega), hg1, hh1, hl1⟩
                exact z_iret C hr hlocks hW (l1, g1, h1) rfl hP9 dX11_said_79
              ·
                refine lv_aload_n C.1 C.2.1 dX11_said_68 rfl (lv_at hl 1 rfl) ?_
                refine z_get C hK hW hin11 (v := .ref a15) 0 rfl rfl 15 (by decide) (C.2.2.2.2 (.fieldLink RX11 37 "TellingRowsModel" "line" "[I") (List.mem_of_getElem? (i := 3) rfl)) (fun _ h9 => h9) rfl dX11_said_69 ?_
                refine lv_iload_n C.1 C.2.1 dX11_said_72 rfl (lv_at hl 4 rfl) ?_
                refine z_iald C hK hW 2 rfl (by omega) (by omega) dX11_said_73 ?_
                have hb_73 := hg1 i
                refine lv_goto (tgt := 79) C.1 C.2.1 dX11_said_74 (by decide) ?_
                rw [hQ]
                have hP9 : ∃ z : Int, (some (Value.int (iI (g1 i)))) = some (.int (iI z)) ∧ ((0 ≤ k ∧ k ≤ 12) ∧ -1 ≤ i → SaidQ b f fn k i z) ∧ (¬ ((0 ≤ k ∧ k ≤ 12) ∧ -1 ≤ i) → z = -1) ∧ (BD g1) ∧ (BD h1) ∧ (0 ≤ l1 ∧ l1 ≤ 5000) := ⟨_, rfl, (fun _ => Or.inr ⟨g1, l1, by rw [show k.toNat = s.toNat by omega]; exact hI, fun q9 => by first | rfl | omega, fun q9 => by first | rfl | omega, fun q9 q8 => by first | rfl | omega⟩), (fun q9 => by omega), hg1, hh1, hl1⟩
                exact z_iret C hr hlocks hW (l1, g1, h1) rfl hP9 dX11_said_79
            ·
              refine lv_aload_n C.1 C.2.1 dX11_said_53 rfl (lv_at hl 1 rfl) ?_
              refine z_get C hK hW hin11 (v := .int (iI l1)) 0 rfl rfl 14 (by decide) (C.2.2.2.2 (.fieldLink RX11 144 "TellingRowsModel" "lineMany" "I") (List.mem_of_getElem? (i := 2) rfl)) (fun _ h9 => h9) rfl dX11_said_54 ?_
              refine lv_goto (tgt := 79) C.1 C.2.1 dX11_said_57 (by decide) ?_
              rw [hQ]
              have hP9 : ∃ z : Int, (some (Value.int (iI l1))) = some (.int (iI z)) ∧ ((0 ≤ k ∧ k ≤ 12) ∧ -1 ≤ i → SaidQ b f fn k i z) ∧ (¬ ((0 ≤ k ∧ k ≤ 12) ∧ -1 ≤ i) → z = -1) ∧ (BD g1) ∧ (BD h1) ∧ (0 ≤ l1 ∧ l1 ≤ 5000) := ⟨_, rfl, (fun _ => Or.inr ⟨g1, l1, by rw [show k.toNat = s.toNat by omega]; exact hI, fun q9 => by first | rfl | omega, fun q9 => by first | rfl | omega, fun q9 q8 => by first | rfl | omega⟩), (fun q9 => by omega), hg1, hh1, hl1⟩
              exact z_iret C hr hlocks hW (l1, g1, h1) rfl hP9 dX11_said_79
          ·
            refine lv_aload_n C.1 C.2.1 dX11_said_32 rfl (lv_at hl 1 rfl) ?_
            refine lv_iload_n C.1 C.2.1 dX11_said_33 rfl (lv_at hl 2 rfl) ?_
            refine z_call (va_runV (As := [.int (iI b)]) (rest := []) C (c_X11_tells l G x ln a1 pl a3 a4 ri ld mn a8 a9 nn a11 fn a13 l1 a15 a16 a17 a18 a19 a20 g1 h1 b hl1 hg1 hh1 hb H.size) (cwV 1 C.2.2.2.2 gX11_said_X11_tells rfl rfl rfl (by decide +kernel) ⟨Nat.le_of_ble_eq_true rfl, Nat.le_of_ble_eq_true rfl⟩) (z_preV hK hW hA [0, 2, 3] rfl (by decide) (ci := 9) (q0 := 0) rfl rfl) rfl rfl hl.1 rfl (lv_room (Nat.le_of_ble_eq_true rfl)) dX11_said_34 ⟨Nat.zero_le _, Nat.zero_le _⟩) hW hA [0, 2, 3] rfl (by decide) (fun _ => rfl) (fun r u H locs hp hW => ?_)
            obtain ⟨lm2_34, g2_34, h2_34⟩ := u
            have hp : ∃ z : Int, r = some (.int (iI z)) ∧ ((z = 1 ∧ StepR b g1 l1 g2_34 lm2_34) ∨ (z = 0 ∧ StepB b g1 l1)) ∧ (BD g2_34) ∧ (BD h2_34) ∧ (0 ≤ lm2_34 ∧ lm2_34 ≤ 5000) := hp
            obtain ⟨z_34, rfl, hz_34_0, hz_34_1, hz_34_2, hz_34_3⟩ := hp
            have hW : Wd G A s9.heap [(x, .inr (9, [.int (iI ln), .ref a1, .int (iI pl), .ref a3, .ref a4, .int (iI ri), .int (iI ld), .int (iI mn), .ref a8, .ref a9, .int (iI nn), .ref a11, .int (iI fn), .ref a13, .int (iI lm2_34), .ref a15, .ref a16, .ref a17, .ref a18, .ref a19, .ref a20])), (a13, .inl (G.2.1 0, 40, .inl (iA f))), (a15, .inl (G.2.1 0, 5000, .inl (iA g2_34))), (a16, .inl (G.2.1 0, 5000, .inl (iA h2_34)))] H locs := hW
            refine z_if_ne (tgt := 43) C dX11_said_37 (by decide) (by omega) (fun c_37 => ?_) (fun c_37 => ?_)
            ·
              refine lv_iinc (v := iI (s + 1)) (lv' := [(4, .int (iI (s + 1))), (0, .ref x), (1, .int (iI b)), (2, .int (iI k)), (3, .int (iI i))]) C.1 C.2.1 dX11_said_43 hl (k := 0) rfl (iI_add _ _) (by decide) rfl (fun ls hl => ?_)
              refine lv_goto (tgt := 26) C.1 C.2.1 dX11_said_46 (by decide) ?_
              exact ih_26 (s + 1) lm2_34 g2_34 h2_34 (by first | omega | assumption | (intros; first | rfl | omega | assumption | (and_intros <;> first | rfl | omega | assumption))) (by rw [show (s + 1).toNat = s.toNat + 1 by omega]; exact ⟨_, _, hI, hz_34_0.elim (fun q => q.2) (fun q => absurd q.1 c_37)⟩) hz_34_3 hz_34_1 hz_34_2 (by omega) _ _ _ hW (lv_sub hl [0, 1, 2, 3, 4] rfl)
            ·
              refine lv_bipush (v := iI (-2)) C.1 C.2.1 dX11_said_40 (by decide +kernel) ?_
              rw [hQ]
              have hP9 : ∃ z : Int, (some (Value.int (iI (-2)))) = some (.int (iI z)) ∧ ((0 ≤ k ∧ k ≤ 12) ∧ -1 ≤ i → SaidQ b f fn k i z) ∧ (¬ ((0 ≤ k ∧ k ≤ 12) ∧ -1 ≤ i) → z = -1) ∧ (BD g2_34) ∧ (BD h2_34) ∧ (0 ≤ lm2_34 ∧ lm2_34 ≤ 5000) := ⟨_, rfl, (fun _ => Or.inl ⟨⟨s.toNat, g1, l1, by omega, hI, hz_34_0.elim (fun q => absurd q.1 (by omega)) (fun q => q.2)⟩, rfl⟩), (fun q9 => by omega), hz_34_1, hz_34_2, hz_34_3⟩
              exact z_iret C hr hlocks hW (lm2_34, g2_34, h2_34) rfl hP9 dX11_said_42
      exact cut_26 (((k - 0) + 1 : Int)).toNat 0 fn g2_20 h0 (by first | omega | assumption | (intros; first | rfl | omega | assumption | (and_intros <;> first | rfl | omega | assumption))) (by exact ⟨rfl, hz_20_0⟩) (by first | omega | assumption | (intros; first | rfl | omega | assumption | (and_intros <;> first | rfl | omega | assumption))) hz_20_1 hh (by omega) _ _ _ hW (lv_sub hl [0, 1, 2, 3, 4] rfl)
    ·
      refine lv_iconst (v := iI (-1)) C.1 C.2.1 dX11_said_17 rfl ?_
      rw [hQ]
      have hP9 : ∃ z : Int, (some (Value.int (iI (-1)))) = some (.int (iI z)) ∧ ((0 ≤ k ∧ k ≤ 12) ∧ -1 ≤ i → SaidQ b f fn k i z) ∧ (¬ ((0 ≤ k ∧ k ≤ 12) ∧ -1 ≤ i) → z = -1) ∧ (BD g) ∧ (BD h0) ∧ (0 ≤ lm ∧ lm ≤ 5000) := ⟨_, rfl, (fun q9 => by omega), (by first | omega | assumption | (intros; first | rfl | omega | assumption | (and_intros <;> first | rfl | omega | assumption))), hg, hh, hlm⟩
      exact z_iret C hr hlocks hW (lm, g, h0) rfl hP9 dX11_said_18
set_option maxHeartbeats 4000000 in
set_option maxRecDepth 100000 in
/-- unsaid -/
theorem c_X11_unsaid (l : Launch) (G : GG) (x : Nat) (ln : Int) (a1 : Nat) (pl : Int) (a3 : Nat) (a4 : Nat) (ri : Int) (ld : Int) (mn : Int) (a8 : Nat) (a9 : Nat) (nn : Int) (a11 : Nat) (fn : Int) (a13 : Nat) (lm : Int) (a15 : Nat) (a16 : Nat) (a17 : Nat) (a18 : Nat) (a19 : Nat) (a20 : Nat) (f : Int → Int) (g : Int → Int) (h0 : Int → Int) (i : Int) (hn : 0 ≤ fn ∧ fn ≤ 40) (hf : BD f) (hg : BD g) (hh : BD h0) (hlm : 0 ≤ lm ∧ lm ≤ 5000) (hi : -2147483648 ≤ i ∧ i ≤ 2147483647) (hF : FIG f fn) : MQc l yX11_unsaid wsX11_unsaid 1 G [.ref x, .int (iI i)] [(x, .inr (9, [.int (iI ln), .ref a1, .int (iI pl), .ref a3, .ref a4, .int (iI ri), .int (iI ld), .int (iI mn), .ref a8, .ref a9, .int (iI nn), .ref a11, .int (iI fn), .ref a13, .int (iI lm), .ref a15, .ref a16, .ref a17, .ref a18, .ref a19, .ref a20])), (a13, .inl (G.2.1 0, 40, .inl (iA f))), (a15, .inl (G.2.1 0, 5000, .inl (iA g))), (a16, .inl (G.2.1 0, 5000, .inl (iA h0)))] (fun r (u : Int × (Int → Int) × (Int → Int)) => ∃ z : Int, r = some (.int (iI z)) ∧ (-1 ≤ i → UnsaidQ f fn i z) ∧ (¬ (-1 ≤ i) → z = -1) ∧ (BD u.2.1) ∧ (BD u.2.2) ∧ (0 ≤ u.1 ∧ u.1 ≤ 5000)) (fun u => [(x, .inr (9, [.int (iI ln), .ref a1, .int (iI pl), .ref a3, .ref a4, .int (iI ri), .int (iI ld), .int (iI mn), .ref a8, .ref a9, .int (iI nn), .ref a11, .int (iI fn), .ref a13, .int (iI u.1), .ref a15, .ref a16, .ref a17, .ref a18, .ref a19, .ref a20])), (a13, .inl (G.2.1 0, 40, .inl (iA f))), (a15, .inl (G.2.1 0, 5000, .inl (iA u.2.1))), (a16, .inl (G.2.1 0, 5000, .inl (iA u.2.2)))]) := by
  refine MQc.start (own := RX11) (by decide) rfl rfl (Nat.le_of_ble_eq_true rfl) ?_
  intro p9 e9 s9 m9 args below meth c9 A Q C hK hW hA hr hlocks hQ ls hl
  have hl : lv_has ls 2 [(0, .ref x), (1, .int (iI i))] := hl
  have hin11 : ∀ w ∈ wsX110, w ∈ wsX11_unsaid := by decide +kernel
  refine lv_iload_n C.1 C.2.1 dX11_unsaid_0 rfl (lv_at hl 1 rfl) ?_
  refine lv_iconst (v := iI (-1)) C.1 C.2.1 dX11_unsaid_1 rfl ?_
  refine z_icmp_ge (tgt := 7) C dX11_unsaid_2 (by decide) (by omega) (fun c_2 => ?_) (fun c_2 => ?_)
  ·
    refine lv_aload_n C.1 C.2.1 dX11_unsaid_7 rfl (lv_at hl 0 rfl) ?_
    refine z_call (va_runV (As := []) (rest := []) C (c_X11_begins l G x ln a1 pl a3 a4 ri ld mn a8 a9 nn a11 fn a13 lm a15 a16 a17 a18 a19 a20 f g hn hf hg s9.heap.size) (cwV 0 C.2.2.2.2 gX11_unsaid_X11_begins rfl rfl rfl (by decide +kernel) ⟨Nat.le_of_ble_eq_true rfl, Nat.le_of_ble_eq_true rfl⟩) (z_preV hK hW hA [0, 1, 2] rfl (by decide) (ci := 9) (q0 := 0) rfl rfl) rfl rfl hl.1 rfl (lv_room (Nat.le_of_ble_eq_true rfl)) dX11_unsaid_8 ⟨Nat.zero_le _, Nat.zero_le _⟩) hW hA [0, 1, 2] rfl (by decide) (fun _ => rfl) (fun r u H locs hp hW => ?_)
    obtain ⟨g2_8, rfl⟩ : ∃ q9, q9 = u := ⟨_, rfl⟩
    have hp : r = none ∧ (∀ j, 0 ≤ j → j < fn → g2_8 j = f j) ∧ (BD g2_8) := hp
    obtain ⟨rfl, hz_8_0, hz_8_1⟩ := hp
    have hW : Wd G A s9.heap [(x, .inr (9, [.int (iI ln), .ref a1, .int (iI pl), .ref a3, .ref a4, .int (iI ri), .int (iI ld), .int (iI mn), .ref a8, .ref a9, .int (iI nn), .ref a11, .int (iI fn), .ref a13, .int (iI fn), .ref a15, .ref a16, .ref a17, .ref a18, .ref a19, .ref a20])), (a13, .inl (G.2.1 0, 40, .inl (iA f))), (a15, .inl (G.2.1 0, 5000, .inl (iA g2_8))), (a16, .inl (G.2.1 0, 5000, .inl (iA h0)))] H locs := hW
    refine lv_aload_n C.1 C.2.1 dX11_unsaid_11 rfl (lv_at hl 0 rfl) ?_
    refine z_call (va_runV (As := []) (rest := []) C (c_X11_untells l G x ln a1 pl a3 a4 ri ld mn a8 a9 nn a11 fn a13 fn a15 a16 a17 a18 a19 a20 g2_8 h0 (by first | omega | assumption | (intros; first | rfl | omega | assumption | (and_intros <;> first | rfl | omega | assumption))) hz_8_1 hh (fun j j0 j1 => by rw [hz_8_0 j j0 j1]; exact hF j j0 j1) H.size) (cwV 0 C.2.2.2.2 gX11_unsaid_X11_untells rfl rfl rfl (by decide +kernel) ⟨Nat.le_of_ble_eq_true rfl, Nat.le_of_ble_eq_true rfl⟩) (z_preV hK hW hA [0, 2, 3] rfl (by decide) (ci := 9) (q0 := 0) rfl rfl) rfl rfl hl.1 rfl (lv_room (Nat.le_of_ble_eq_true rfl)) dX11_unsaid_12 ⟨Nat.zero_le _, Nat.zero_le _⟩) hW hA [0, 2, 3] rfl (by decide) (fun _ => rfl) (fun r u H locs hp hW => ?_)
    obtain ⟨lm2_12, g2_12, h2_12⟩ := u
    have hp : ∃ z : Int, r = some (.int (iI z)) ∧ ((z = 1 ∧ UnR g2_8 fn g2_12 lm2_12) ∨ (z = 0 ∧ UnB g2_8 fn)) ∧ (BD g2_12) ∧ (BD h2_12) ∧ (0 ≤ lm2_12 ∧ lm2_12 ≤ 5000) := hp
    obtain ⟨z_12, rfl, hz_12_0, hz_12_1, hz_12_2, hz_12_3⟩ := hp
    have hW : Wd G A s9.heap [(x, .inr (9, [.int (iI ln), .ref a1, .int (iI pl), .ref a3, .ref a4, .int (iI ri), .int (iI ld), .int (iI mn), .ref a8, .ref a9, .int (iI nn), .ref a11, .int (iI fn), .ref a13, .int (iI lm2_12), .ref a15, .ref a16, .ref a17, .ref a18, .ref a19, .ref a20])), (a13, .inl (G.2.1 0, 40, .inl (iA f))), (a15, .inl (G.2.1 0, 5000, .inl (iA g2_12))), (a16, .inl (G.2.1 0, 5000, .inl (iA h2_12)))] H locs := hW
    refine z_if_ne (tgt := 21) C dX11_unsaid_15 (by decide) (by omega) (fun c_15 => ?_) (fun c_15 => ?_)
    ·
      refine lv_iload_n C.1 C.2.1 dX11_unsaid_21 rfl (lv_at hl 1 rfl) ?_
      refine z_if_ge (tgt := 32) C dX11_unsaid_22 (by decide) (by omega) (fun c_22 => ?_) (fun c_22 => ?_)
      ·
        refine lv_iload_n C.1 C.2.1 dX11_unsaid_32 rfl (lv_at hl 1 rfl) ?_
        refine lv_aload_n C.1 C.2.1 dX11_unsaid_33 rfl (lv_at hl 0 rfl) ?_
        refine z_get C hK hW hin11 (v := .int (iI lm2_12)) 0 rfl rfl 14 (by decide) (C.2.2.2.2 (.fieldLink RX11 144 "TellingRowsModel" "lineMany" "I") (List.mem_of_getElem? (i := 1) rfl)) (fun _ h9 => h9) rfl dX11_unsaid_34 ?_
        refine z_icmp_ge (tgt := 49) C dX11_unsaid_37 (by decide) (by omega) (fun c_37 => ?_) (fun c_37 => ?_)
        ·
          refine lv_bipush (v := iI (-4)) C.1 C.2.1 dX11_unsaid_49 (by decide +kernel) ?_
          rw [hQ]
          have hP9 : ∃ z : Int, (some (Value.int (iI (-4)))) = some (.int (iI z)) ∧ (-1 ≤ i → UnsaidQ f fn i z) ∧ (¬ (-1 ≤ i) → z = -1) ∧ (BD g2_12) ∧ (BD h2_12) ∧ (0 ≤ lm2_12 ∧ lm2_12 ≤ 5000) := ⟨_, rfl, (fun _ => Or.inr ⟨_, _, UnR_in hz_8_0 (hz_12_0.elim (fun q => q.2) (fun q => absurd q.1 c_15)), fun q9 => by first | rfl | omega, fun q9 => by first | rfl | omega, fun q9 q8 => by first | rfl | omega⟩), (fun q9 => by omega), hz_12_1, hz_12_2, hz_12_3⟩
          exact z_iret C hr hlocks hW (lm2_12, g2_12, h2_12) rfl hP9 dX11_unsaid_51
        ·
          refine lv_aload_n C.1 C.2.1 dX11_unsaid_40 rfl (lv_at hl 0 rfl) ?_
          refine z_get C hK hW hin11 (v := .ref a15) 0 rfl rfl 15 (by decide) (C.2.2.2.2 (.fieldLink RX11 37 "TellingRowsModel" "line" "[I") (List.mem_of_getElem? (i := 2) rfl)) (fun _ h9 => h9) rfl dX11_unsaid_41 ?_
          refine lv_iload_n C.1 C.2.1 dX11_unsaid_44 rfl (lv_at hl 1 rfl) ?_
          refine z_iald C hK hW 2 rfl (by omega) (by omega) dX11_unsaid_45 ?_
          have hb_45 := hz_12_1 i
          refine lv_goto (tgt := 51) C.1 C.2.1 dX11_unsaid_46 (by decide) ?_
          rw [hQ]
          have hP9 : ∃ z : Int, (some (Value.int (iI (g2_12 i)))) = some (.int (iI z)) ∧ (-1 ≤ i → UnsaidQ f fn i z) ∧ (¬ (-1 ≤ i) → z = -1) ∧ (BD g2_12) ∧ (BD h2_12) ∧ (0 ≤ lm2_12 ∧ lm2_12 ≤ 5000) := ⟨_, rfl, (fun _ => Or.inr ⟨_, _, UnR_in hz_8_0 (hz_12_0.elim (fun q => q.2) (fun q => absurd q.1 c_15)), fun q9 => by first | rfl | omega, fun q9 => by first | rfl | omega, fun q9 q8 => by first | rfl | omega⟩), (fun q9 => by omega), hz_12_1, hz_12_2, hz_12_3⟩
          exact z_iret C hr hlocks hW (lm2_12, g2_12, h2_12) rfl hP9 dX11_unsaid_51
      ·
        refine lv_aload_n C.1 C.2.1 dX11_unsaid_25 rfl (lv_at hl 0 rfl) ?_
        refine z_get C hK hW hin11 (v := .int (iI lm2_12)) 0 rfl rfl 14 (by decide) (C.2.2.2.2 (.fieldLink RX11 144 "TellingRowsModel" "lineMany" "I") (List.mem_of_getElem? (i := 1) rfl)) (fun _ h9 => h9) rfl dX11_unsaid_26 ?_
        refine lv_goto (tgt := 51) C.1 C.2.1 dX11_unsaid_29 (by decide) ?_
        rw [hQ]
        have hP9 : ∃ z : Int, (some (Value.int (iI lm2_12))) = some (.int (iI z)) ∧ (-1 ≤ i → UnsaidQ f fn i z) ∧ (¬ (-1 ≤ i) → z = -1) ∧ (BD g2_12) ∧ (BD h2_12) ∧ (0 ≤ lm2_12 ∧ lm2_12 ≤ 5000) := ⟨_, rfl, (fun _ => Or.inr ⟨_, _, UnR_in hz_8_0 (hz_12_0.elim (fun q => q.2) (fun q => absurd q.1 c_15)), fun q9 => by first | rfl | omega, fun q9 => by first | rfl | omega, fun q9 q8 => by first | rfl | omega⟩), (fun q9 => by omega), hz_12_1, hz_12_2, hz_12_3⟩
        exact z_iret C hr hlocks hW (lm2_12, g2_12, h2_12) rfl hP9 dX11_unsaid_51
    ·
      refine lv_bipush (v := iI (-2)) C.1 C.2.1 dX11_unsaid_18 (by decide +kernel) ?_
      rw [hQ]
      have hP9 : ∃ z : Int, (some (Value.int (iI (-2)))) = some (.int (iI z)) ∧ (-1 ≤ i → UnsaidQ f fn i z) ∧ (¬ (-1 ≤ i) → z = -1) ∧ (BD g2_12) ∧ (BD h2_12) ∧ (0 ≤ lm2_12 ∧ lm2_12 ≤ 5000) := ⟨_, rfl, (fun _ => Or.inl ⟨UnB_in hz_8_0 (hz_12_0.elim (fun q => absurd q.1 (by omega)) (fun q => q.2)), rfl⟩), (fun q9 => by omega), hz_12_1, hz_12_2, hz_12_3⟩
      exact z_iret C hr hlocks hW (lm2_12, g2_12, h2_12) rfl hP9 dX11_unsaid_20
  ·
    refine lv_iconst (v := iI (-1)) C.1 C.2.1 dX11_unsaid_5 rfl ?_
    rw [hQ]
    have hP9 : ∃ z : Int, (some (Value.int (iI (-1)))) = some (.int (iI z)) ∧ (-1 ≤ i → UnsaidQ f fn i z) ∧ (¬ (-1 ≤ i) → z = -1) ∧ (BD g) ∧ (BD h0) ∧ (0 ≤ lm ∧ lm ≤ 5000) := ⟨_, rfl, (fun q9 => by omega), (by first | omega | assumption | (intros; first | rfl | omega | assumption | (and_intros <;> first | rfl | omega | assumption))), hg, hh, hlm⟩
    exact z_iret C hr hlocks hW (lm, g, h0) rfl hP9 dX11_unsaid_6
set_option maxHeartbeats 4000000 in
set_option maxRecDepth 100000 in
/-- backs -/
theorem c_X11_backs (l : Launch) (G : GG) (x : Nat) (ln : Int) (a1 : Nat) (pl : Int) (a3 : Nat) (a4 : Nat) (ri : Int) (ld : Int) (mn : Int) (a8 : Nat) (a9 : Nat) (nn : Int) (a11 : Nat) (fn : Int) (a13 : Nat) (lm : Int) (a15 : Nat) (a16 : Nat) (a17 : Nat) (a18 : Nat) (a19 : Nat) (a20 : Nat) (f : Int → Int) (g : Int → Int) (h0 : Int → Int) (hn : 0 ≤ fn ∧ fn ≤ 40) (hf : BD f) (hg : BD g) (hh : BD h0) (hlm : 0 ≤ lm ∧ lm ≤ 5000) (hF : FIG f fn) : MQc l yX11_backs wsX11_backs 1 G [.ref x] [(x, .inr (9, [.int (iI ln), .ref a1, .int (iI pl), .ref a3, .ref a4, .int (iI ri), .int (iI ld), .int (iI mn), .ref a8, .ref a9, .int (iI nn), .ref a11, .int (iI fn), .ref a13, .int (iI lm), .ref a15, .ref a16, .ref a17, .ref a18, .ref a19, .ref a20])), (a13, .inl (G.2.1 0, 40, .inl (iA f))), (a15, .inl (G.2.1 0, 5000, .inl (iA g))), (a16, .inl (G.2.1 0, 5000, .inl (iA h0)))] (fun r (u : Int × (Int → Int) × (Int → Int)) => ∃ z : Int, r = some (.int (iI z)) ∧ (BackR f fn z) ∧ (BD u.2.1) ∧ (BD u.2.2) ∧ (0 ≤ u.1 ∧ u.1 ≤ 5000)) (fun u => [(x, .inr (9, [.int (iI ln), .ref a1, .int (iI pl), .ref a3, .ref a4, .int (iI ri), .int (iI ld), .int (iI mn), .ref a8, .ref a9, .int (iI nn), .ref a11, .int (iI fn), .ref a13, .int (iI u.1), .ref a15, .ref a16, .ref a17, .ref a18, .ref a19, .ref a20])), (a13, .inl (G.2.1 0, 40, .inl (iA f))), (a15, .inl (G.2.1 0, 5000, .inl (iA u.2.1))), (a16, .inl (G.2.1 0, 5000, .inl (iA u.2.2)))]) := by
  refine MQc.start (own := RX11) (by decide) rfl rfl (Nat.le_of_ble_eq_true rfl) ?_
  intro p9 e9 s9 m9 args below meth c9 A Q C hK hW hA hr hlocks hQ ls hl
  have hl : lv_has ls 2 [(0, .ref x)] := hl
  have hin11 : ∀ w ∈ wsX110, w ∈ wsX11_backs := by decide +kernel
  refine lv_aload_n C.1 C.2.1 dX11_backs_0 rfl (lv_at hl 0 rfl) ?_
  refine z_call (va_runV (As := []) (rest := []) C (c_X11_begins l G x ln a1 pl a3 a4 ri ld mn a8 a9 nn a11 fn a13 lm a15 a16 a17 a18 a19 a20 f g hn hf hg s9.heap.size) (cwV 0 C.2.2.2.2 gX11_backs_X11_begins rfl rfl rfl (by decide +kernel) ⟨Nat.le_of_ble_eq_true rfl, Nat.le_of_ble_eq_true rfl⟩) (z_preV hK hW hA [0, 1, 2] rfl (by decide) (ci := 9) (q0 := 0) rfl rfl) rfl rfl hl.1 rfl (lv_room (Nat.le_of_ble_eq_true rfl)) dX11_backs_1 ⟨Nat.zero_le _, Nat.zero_le _⟩) hW hA [0, 1, 2] rfl (by decide) (fun _ => rfl) (fun r u H locs hp hW => ?_)
  obtain ⟨g2_1, rfl⟩ : ∃ q9, q9 = u := ⟨_, rfl⟩
  have hp : r = none ∧ (∀ j, 0 ≤ j → j < fn → g2_1 j = f j) ∧ (BD g2_1) := hp
  obtain ⟨rfl, hz_1_0, hz_1_1⟩ := hp
  have hW : Wd G A s9.heap [(x, .inr (9, [.int (iI ln), .ref a1, .int (iI pl), .ref a3, .ref a4, .int (iI ri), .int (iI ld), .int (iI mn), .ref a8, .ref a9, .int (iI nn), .ref a11, .int (iI fn), .ref a13, .int (iI fn), .ref a15, .ref a16, .ref a17, .ref a18, .ref a19, .ref a20])), (a13, .inl (G.2.1 0, 40, .inl (iA f))), (a15, .inl (G.2.1 0, 5000, .inl (iA g2_1))), (a16, .inl (G.2.1 0, 5000, .inl (iA h0)))] H locs := hW
  refine lv_iconst (v := iI 0) C.1 C.2.1 dX11_backs_4 rfl ?_
  refine lv_istore_n (lv' := [(1, .int (iI 0)), (0, .ref x)]) C.1 C.2.1 dX11_backs_5 rfl hl (by decide) rfl (fun ls hl => ?_)
  have cut_6 : ∀ (n9 : Nat) (k : Int) (l1 : Int) (g1 : Int → Int) (h1 : Int → Int), (0 ≤ k ∧ k ≤ 20) → (UIt f fn k.toNat g1 l1) → (FIG g1 l1) → (0 ≤ l1 ∧ l1 ≤ 5000) → (BD g1) → (BD h1) → (20 - k < (n9 : Int)) → ∀ (H : Heap) (locs : List Loc) (ls : Array Slot), Wd G A s9.heap [(x, .inr (9, [.int (iI ln), .ref a1, .int (iI pl), .ref a3, .ref a4, .int (iI ri), .int (iI ld), .int (iI mn), .ref a8, .ref a9, .int (iI nn), .ref a11, .int (iI fn), .ref a13, .int (iI l1), .ref a15, .ref a16, .ref a17, .ref a18, .ref a19, .ref a20])), (a13, .inl (G.2.1 0, 40, .inl (iA f))), (a15, .inl (G.2.1 0, 5000, .inl (iA g1))), (a16, .inl (G.2.1 0, 5000, .inl (iA h1)))] H locs → lv_has ls 2 [(1, .int (iI k)), (0, .ref x)] → W p9 l e9 (rmL 1) s9 m9 args below meth c9 H locs 0 0 Q (F0 m9 6 ls []) := by
    intro n9
    induction n9 with
    | zero => intro k l1 g1 h1 hk hU hF1 hl1 hg1 hh1 hmu; intros; exfalso; omega
    | succ n9 ih_6 =>
      intro k l1 g1 h1 hk hU hF1 hl1 hg1 hh1 hmu H locs ls hW hl
      refine lv_iload_n C.1 C.2.1 dX11_backs_6 rfl (lv_at hl 0 rfl) ?_
      refine lv_bipush (v := iI 20) C.1 C.2.1 dX11_backs_7 (by decide +kernel) ?_
      refine z_icmp_ge (tgt := 25) C dX11_backs_9 (by decide) (by omega) (fun c_9 => ?_) (fun c_9 => ?_)
      ·
        refine lv_iload_n C.1 C.2.1 dX11_backs_25 rfl (lv_at hl 0 rfl) ?_
        rw [hQ]
        have hP9 : ∃ z : Int, (some (Value.int (iI k))) = some (.int (iI z)) ∧ (BackR f fn z) ∧ (BD g1) ∧ (BD h1) ∧ (0 ≤ l1 ∧ l1 ≤ 5000) := ⟨_, rfl, (by first | exact ⟨by omega, by omega, _, _, hU, Or.inl (by omega)⟩ | exact ⟨by omega, by omega, _, _, hU, Or.inr (hz_13_0.elim (fun q => absurd q.1 (by omega)) (fun q => q.2))⟩), hg1, hh1, hl1⟩
        exact z_iret C hr hlocks hW (l1, g1, h1) rfl hP9 dX11_backs_26
      ·
        refine lv_aload_n C.1 C.2.1 dX11_backs_12 rfl (lv_at hl 1 rfl) ?_
        refine z_call (va_runV (As := []) (rest := []) C (c_X11_untells l G x ln a1 pl a3 a4 ri ld mn a8 a9 nn a11 fn a13 l1 a15 a16 a17 a18 a19 a20 g1 h1 hl1 hg1 hh1 hF1 H.size) (cwV 0 C.2.2.2.2 gX11_backs_X11_untells rfl rfl rfl (by decide +kernel) ⟨Nat.le_of_ble_eq_true rfl, Nat.le_of_ble_eq_true rfl⟩) (z_preV hK hW hA [0, 2, 3] rfl (by decide) (ci := 9) (q0 := 0) rfl rfl) rfl rfl hl.1 rfl (lv_room (Nat.le_of_ble_eq_true rfl)) dX11_backs_13 ⟨Nat.zero_le _, Nat.zero_le _⟩) hW hA [0, 2, 3] rfl (by decide) (fun _ => rfl) (fun r u H locs hp hW => ?_)
        obtain ⟨lm2_13, g2_13, h2_13⟩ := u
        have hp : ∃ z : Int, r = some (.int (iI z)) ∧ ((z = 1 ∧ UnR g1 l1 g2_13 lm2_13) ∨ (z = 0 ∧ UnB g1 l1)) ∧ (BD g2_13) ∧ (BD h2_13) ∧ (0 ≤ lm2_13 ∧ lm2_13 ≤ 5000) := hp
        obtain ⟨z_13, rfl, hz_13_0, hz_13_1, hz_13_2, hz_13_3⟩ := hp
        have hW : Wd G A s9.heap [(x, .inr (9, [.int (iI ln), .ref a1, .int (iI pl), .ref a3, .ref a4, .int (iI ri), .int (iI ld), .int (iI mn), .ref a8, .ref a9, .int (iI nn), .ref a11, .int (iI fn), .ref a13, .int (iI lm2_13), .ref a15, .ref a16, .ref a17, .ref a18, .ref a19, .ref a20])), (a13, .inl (G.2.1 0, 40, .inl (iA f))), (a15, .inl (G.2.1 0, 5000, .inl (iA g2_13))), (a16, .inl (G.2.1 0, 5000, .inl (iA h2_13)))] H locs := hW
        refine z_if_eq (tgt := 25) C dX11_backs_16 (by decide) (by omega) (fun c_16 => ?_) (fun c_16 => ?_)
        ·
          refine lv_iload_n C.1 C.2.1 dX11_backs_25 rfl (lv_at hl 0 rfl) ?_
          rw [hQ]
          have hP9 : ∃ z : Int, (some (Value.int (iI k))) = some (.int (iI z)) ∧ (BackR f fn z) ∧ (BD g2_13) ∧ (BD h2_13) ∧ (0 ≤ lm2_13 ∧ lm2_13 ≤ 5000) := ⟨_, rfl, (by first | exact ⟨by omega, by omega, _, _, hU, Or.inl (by omega)⟩ | exact ⟨by omega, by omega, _, _, hU, Or.inr (hz_13_0.elim (fun q => absurd q.1 (by omega)) (fun q => q.2))⟩), hz_13_1, hz_13_2, hz_13_3⟩
          exact z_iret C hr hlocks hW (lm2_13, g2_13, h2_13) rfl hP9 dX11_backs_26
        ·
          refine lv_iinc (v := iI (k + 1)) (lv' := [(1, .int (iI (k + 1))), (0, .ref x)]) C.1 C.2.1 dX11_backs_19 hl (k := 0) rfl (iI_add _ _) (by decide) rfl (fun ls hl => ?_)
          refine lv_goto (tgt := 6) C.1 C.2.1 dX11_backs_22 (by decide) ?_
          exact ih_6 (k + 1) lm2_13 g2_13 h2_13 (by first | omega | assumption | (intros; first | rfl | omega | assumption | (and_intros <;> first | rfl | omega | assumption))) (by rw [show (k + 1).toNat = k.toNat + 1 by omega]; exact ⟨_, _, hU, hz_13_0.elim (fun q => q.2) (fun q => absurd q.1 c_16)⟩) (UnR_fig (hz_13_0.elim (fun q => q.2) (fun q => absurd q.1 c_16)) hF1) hz_13_3 hz_13_1 hz_13_2 (by omega) _ _ _ hW (lv_sub hl [0, 1] rfl)
  exact cut_6 (((20 - 0) + 1 : Int)).toNat 0 fn g2_1 h0 (by first | omega | assumption | (intros; first | rfl | omega | assumption | (and_intros <;> first | rfl | omega | assumption))) (by exact ⟨rfl, hz_1_0⟩) (fun j j0 j1 => by rw [hz_1_0 j j0 j1]; exact hF j j0 j1) (by first | omega | assumption | (intros; first | rfl | omega | assumption | (and_intros <;> first | rfl | omega | assumption))) hz_1_1 hh (by omega) _ _ _ hW (lv_sub hl [0, 1] rfl)
