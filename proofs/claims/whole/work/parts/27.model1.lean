set_option maxHeartbeats 4000000 in
set_option maxRecDepth 100000 in
/-- in -/
theorem c_X11_in (l : Launch) (G : GG) (v : Int) (lo9 : Int) (hi9 : Int) (hv : -9223372036854775808 ≤ v ∧ v ≤ 9223372036854775807) (hlo : -9223372036854775808 ≤ lo9 ∧ lo9 ≤ 9223372036854775807) (hhi : -9223372036854775808 ≤ hi9 ∧ hi9 ≤ 9223372036854775807) : MRc l yX11_in wsX11_in 0 G [.long (lI v), .long (lI lo9), .long (lI hi9)] [] (fun r => ∃ z : Int, r = some (.int (iI z)) ∧ ((z = 1 ∧ (lo9 ≤ v ∧ v ≤ hi9)) ∨ (z = 0 ∧ ¬ (lo9 ≤ v ∧ v ≤ hi9)))) := by
  refine MRc.start (own := RX11) (by decide) rfl rfl (Nat.le_of_ble_eq_true rfl) ?_
  intro p9 e9 s9 m9 args below meth c9 A Q C hK hW hA hr hlocks hQ ls hl
  have hl : lv_has ls 6 [(0, .long (lI v)), (2, .long (lI lo9)), (4, .long (lI hi9))] := hl
  refine lv_lload_n C.1 C.2.1 dX11_in_0 rfl (lv_at hl 0 rfl) ?_
  refine lv_lload_n C.1 C.2.1 dX11_in_1 rfl (lv_at hl 1 rfl) ?_
  refine z_lcmp_lt (tgt := 17) C dX11_in_2 dX11_in_3 (by decide) (by omega) (fun c_2 => ?_) (fun c_2 => ?_)
  ·
    refine lv_iconst (v := iI 0) C.1 C.2.1 dX11_in_17 rfl ?_
    rw [hQ]
    have hP9 : ∃ z : Int, (some (Value.int (iI 0))) = some (.int (iI z)) ∧ ((z = 1 ∧ (lo9 ≤ v ∧ v ≤ hi9)) ∨ (z = 0 ∧ ¬ (lo9 ≤ v ∧ v ≤ hi9))) := ⟨_, rfl, (by first | exact Or.inl ⟨rfl, by omega⟩ | exact Or.inr ⟨rfl, by omega⟩)⟩
    exact z_zretR C hr rfl hlocks hP9 dX11_in_18
  ·
    refine lv_lload_n C.1 C.2.1 dX11_in_6 rfl (lv_at hl 0 rfl) ?_
    refine lv_lload C.1 C.2.1 dX11_in_7 (lv_at hl 2 rfl) ?_
    refine z_lcmp_gt (tgt := 17) C dX11_in_9 dX11_in_10 (by decide) (by omega) (fun c_9 => ?_) (fun c_9 => ?_)
    ·
      refine lv_iconst (v := iI 0) C.1 C.2.1 dX11_in_17 rfl ?_
      rw [hQ]
      have hP9 : ∃ z : Int, (some (Value.int (iI 0))) = some (.int (iI z)) ∧ ((z = 1 ∧ (lo9 ≤ v ∧ v ≤ hi9)) ∨ (z = 0 ∧ ¬ (lo9 ≤ v ∧ v ≤ hi9))) := ⟨_, rfl, (by first | exact Or.inl ⟨rfl, by omega⟩ | exact Or.inr ⟨rfl, by omega⟩)⟩
      exact z_zretR C hr rfl hlocks hP9 dX11_in_18
    ·
      refine lv_iconst (v := iI 1) C.1 C.2.1 dX11_in_13 rfl ?_
      refine lv_goto (tgt := 18) C.1 C.2.1 dX11_in_14 (by decide) ?_
      rw [hQ]
      have hP9 : ∃ z : Int, (some (Value.int (iI 1))) = some (.int (iI z)) ∧ ((z = 1 ∧ (lo9 ≤ v ∧ v ≤ hi9)) ∨ (z = 0 ∧ ¬ (lo9 ≤ v ∧ v ≤ hi9))) := ⟨_, rfl, (by first | exact Or.inl ⟨rfl, by omega⟩ | exact Or.inr ⟨rfl, by omega⟩)⟩
      exact z_zretR C hr rfl hlocks hP9 dX11_in_18
set_option maxHeartbeats 4000000 in
set_option maxRecDepth 100000 in
/-- isRegister -/
theorem c_X11_isRegister (l : Launch) (G : GG) (rr : Int) (hrr : -2147483648 ≤ rr ∧ rr ≤ 2147483647) : MRc l yX11_isRegister wsX11_isRegister 1 G [.int (iI rr)] [] (fun r => ∃ z : Int, r = some (.int (iI z)) ∧ ((z = 1 ∧ (0 ≤ rr ∧ rr ≤ 3)) ∨ (z = 0 ∧ ¬ (0 ≤ rr ∧ rr ≤ 3)))) := by
  refine MRc.start (own := RX11) (by decide) rfl rfl (Nat.le_of_ble_eq_true rfl) ?_
  intro p9 e9 s9 m9 args below meth c9 A Q C hK hW hA hr hlocks hQ ls hl
  have hl : lv_has ls 1 [(0, .int (iI rr))] := hl
  refine lv_iload_n C.1 C.2.1 dX11_isRegister_0 rfl (lv_at hl 0 rfl) ?_
  refine z_i2l C dX11_isRegister_1 (by omega) ?_
  refine lv_lconst (v := lI 0) C.1 C.2.1 dX11_isRegister_2 rfl ?_
  refine z_ldc2 (z := 3) C (C.2.2.2.2 (.constantLong RX11 82 (3)) (List.mem_of_getElem? (i := 1) rfl)) (by decide +kernel) dX11_isRegister_3 ?_
  refine z_callR (va_runS (As := [.long (lI rr), .long (lI 0), .long (lI 3)]) (rest := []) C (c_X11_in l G rr 0 3 (by first | omega | assumption | (intros; first | rfl | omega | assumption | (and_intros <;> first | rfl | omega | assumption))) (by first | omega | assumption | (intros; first | rfl | omega | assumption | (and_intros <;> first | rfl | omega | assumption))) (by first | omega | assumption | (intros; first | rfl | omega | assumption | (and_intros <;> first | rfl | omega | assumption))) s9.heap.size) (va_cwS 3 C.2.2.2.2 gX11_isRegister_X11_in rfl rfl rfl (by decide +kernel) ⟨Nat.le_of_ble_eq_true rfl, Nat.le_of_ble_eq_true rfl⟩) (z_preS hK hW hA [] rfl (by decide)) rfl rfl hl.1 rfl (lv_room (Nat.le_of_ble_eq_true rfl)) dX11_isRegister_6 ⟨Nat.zero_le _, Nat.zero_le _⟩) (fun r hp => ?_)
  have hp : ∃ z : Int, r = some (.int (iI z)) ∧ ((z = 1 ∧ ((0 : Int) ≤ rr ∧ rr ≤ (3 : Int))) ∨ (z = 0 ∧ ¬ ((0 : Int) ≤ rr ∧ rr ≤ (3 : Int)))) := hp
  obtain ⟨z_6, rfl, hz_6_0⟩ := hp
  rw [hQ]
  have hP9 : ∃ z : Int, (some (Value.int (iI z_6))) = some (.int (iI z)) ∧ ((z = 1 ∧ (0 ≤ rr ∧ rr ≤ 3)) ∨ (z = 0 ∧ ¬ (0 ≤ rr ∧ rr ≤ 3))) := ⟨_, rfl, hz_6_0⟩
  exact z_zretR C hr (by rcases hz_6_0 with q | q <;> (rw [q.1]; rfl)) hlocks hP9 dX11_isRegister_9
set_option maxHeartbeats 4000000 in
set_option maxRecDepth 100000 in
/-- is -/
theorem c_X11_is (l : Launch) (G : GG) (x : Nat) (ln : Int) (a1 : Nat) (pl : Int) (a3 : Nat) (a4 : Nat) (ri : Int) (ld : Int) (mn : Int) (a8 : Nat) (a9 : Nat) (nn : Int) (a11 : Nat) (fn : Int) (a13 : Nat) (lm : Int) (a15 : Nat) (a16 : Nat) (a17 : Nat) (a18 : Nat) (a19 : Nat) (a20 : Nat) (t : Int → Int) (s : Int) (hT : 0 ≤ ln ∧ ln ≤ 120) (ht : BD t) (hpl : 0 ≤ pl ∧ pl ≤ ln) (hs : -2147483648 ≤ s ∧ s ≤ 2147483647) : MRc l yX11_is wsX11_is 0 G [.ref x, .int (iI s)] [(x, .inr (9, [.int (iI ln), .ref a1, .int (iI pl), .ref a3, .ref a4, .int (iI ri), .int (iI ld), .int (iI mn), .ref a8, .ref a9, .int (iI nn), .ref a11, .int (iI fn), .ref a13, .int (iI lm), .ref a15, .ref a16, .ref a17, .ref a18, .ref a19, .ref a20])), (a1, .inl (G.2.1 1, 120, .inl (iA t)))] (fun r => ∃ z : Int, r = some (.int (iI z)) ∧ ((z = 1 ∧ (pl < ln ∧ t pl = s)) ∨ (z = 0 ∧ ¬ (pl < ln ∧ t pl = s)))) := by
  refine MRc.start (own := RX11) (by decide) rfl rfl (Nat.le_of_ble_eq_true rfl) ?_
  intro p9 e9 s9 m9 args below meth c9 A Q C hK hW hA hr hlocks hQ ls hl
  have hl : lv_has ls 2 [(0, .ref x), (1, .int (iI s))] := hl
  have hin11 : ∀ w ∈ wsX110, w ∈ wsX11_is := by decide +kernel
  refine lv_aload_n C.1 C.2.1 dX11_is_0 rfl (lv_at hl 0 rfl) ?_
  refine z_get C hK hW hin11 (v := .int (iI pl)) 0 rfl rfl 2 (by decide) (C.2.2.2.2 (.fieldLink RX11 65 "TellingRowsModel" "at" "I") (List.mem_of_getElem? (i := 1) rfl)) (fun _ h9 => h9) rfl dX11_is_1 ?_
  refine lv_aload_n C.1 C.2.1 dX11_is_4 rfl (lv_at hl 0 rfl) ?_
  refine z_get C hK hW hin11 (v := .int (iI ln)) 0 rfl rfl 0 (by decide) (C.2.2.2.2 (.fieldLink RX11 62 "TellingRowsModel" "length" "I") (List.mem_of_getElem? (i := 2) rfl)) (fun _ h9 => h9) rfl dX11_is_5 ?_
  refine z_icmp_ge (tgt := 28) C dX11_is_8 (by decide) (by omega) (fun c_8 => ?_) (fun c_8 => ?_)
  ·
    refine lv_iconst (v := iI 0) C.1 C.2.1 dX11_is_28 rfl ?_
    rw [hQ]
    have hP9 : ∃ z : Int, (some (Value.int (iI 0))) = some (.int (iI z)) ∧ ((z = 1 ∧ (pl < ln ∧ t pl = s)) ∨ (z = 0 ∧ ¬ (pl < ln ∧ t pl = s))) := ⟨_, rfl, (by first | exact Or.inl ⟨rfl, by omega⟩ | exact Or.inr ⟨rfl, by omega⟩)⟩
    exact z_zretR C hr rfl hlocks hP9 dX11_is_29
  ·
    refine lv_aload_n C.1 C.2.1 dX11_is_11 rfl (lv_at hl 0 rfl) ?_
    refine z_get C hK hW hin11 (v := .ref a1) 0 rfl rfl 1 (by decide) (C.2.2.2.2 (.fieldLink RX11 7 "TellingRowsModel" "text" "[B") (List.mem_of_getElem? (i := 3) rfl)) (fun _ h9 => h9) rfl dX11_is_12 ?_
    refine lv_aload_n C.1 C.2.1 dX11_is_15 rfl (lv_at hl 0 rfl) ?_
    refine z_get C hK hW hin11 (v := .int (iI pl)) 0 rfl rfl 2 (by decide) (C.2.2.2.2 (.fieldLink RX11 65 "TellingRowsModel" "at" "I") (List.mem_of_getElem? (i := 1) rfl)) (fun _ h9 => h9) rfl dX11_is_16 ?_
    refine z_bald C hK hW 1 rfl (by omega) (by omega) dX11_is_19 ?_
    have hb_19 := ht pl
    refine lv_iload_n C.1 C.2.1 dX11_is_20 rfl (lv_at hl 1 rfl) ?_
    refine z_icmp_ne (tgt := 28) C dX11_is_21 (by decide) (by omega) (fun c_21 => ?_) (fun c_21 => ?_)
    ·
      refine lv_iconst (v := iI 0) C.1 C.2.1 dX11_is_28 rfl ?_
      rw [hQ]
      have hP9 : ∃ z : Int, (some (Value.int (iI 0))) = some (.int (iI z)) ∧ ((z = 1 ∧ (pl < ln ∧ t pl = s)) ∨ (z = 0 ∧ ¬ (pl < ln ∧ t pl = s))) := ⟨_, rfl, (by first | exact Or.inl ⟨rfl, by omega⟩ | exact Or.inr ⟨rfl, by omega⟩)⟩
      exact z_zretR C hr rfl hlocks hP9 dX11_is_29
    ·
      refine lv_iconst (v := iI 1) C.1 C.2.1 dX11_is_24 rfl ?_
      refine lv_goto (tgt := 29) C.1 C.2.1 dX11_is_25 (by decide) ?_
      rw [hQ]
      have hP9 : ∃ z : Int, (some (Value.int (iI 1))) = some (.int (iI z)) ∧ ((z = 1 ∧ (pl < ln ∧ t pl = s)) ∨ (z = 0 ∧ ¬ (pl < ln ∧ t pl = s))) := ⟨_, rfl, (by first | exact Or.inl ⟨rfl, by omega⟩ | exact Or.inr ⟨rfl, by omega⟩)⟩
      exact z_zretR C hr rfl hlocks hP9 dX11_is_29
set_option maxHeartbeats 4000000 in
set_option maxRecDepth 100000 in
/-- oneOrTwo -/
theorem c_X11_oneOrTwo (l : Launch) (G : GG) (x : Nat) (ln : Int) (a1 : Nat) (pl : Int) (a3 : Nat) (a4 : Nat) (ri : Int) (ld : Int) (mn : Int) (a8 : Nat) (a9 : Nat) (nn : Int) (a11 : Nat) (fn : Int) (a13 : Nat) (lm : Int) (a15 : Nat) (a16 : Nat) (a17 : Nat) (a18 : Nat) (a19 : Nat) (a20 : Nat) (t : Int → Int) (hT : 0 ≤ ln ∧ ln ≤ 120) (ht : BD t) (hpl : 0 ≤ pl ∧ pl ≤ ln) : MQc l yX11_oneOrTwo wsX11_oneOrTwo 1 G [.ref x] [(x, .inr (9, [.int (iI ln), .ref a1, .int (iI pl), .ref a3, .ref a4, .int (iI ri), .int (iI ld), .int (iI mn), .ref a8, .ref a9, .int (iI nn), .ref a11, .int (iI fn), .ref a13, .int (iI lm), .ref a15, .ref a16, .ref a17, .ref a18, .ref a19, .ref a20])), (a1, .inl (G.2.1 1, 120, .inl (iA t)))] (fun r (u : Int) => ∃ z : Int, r = some (.int (iI z)) ∧ ((0 ≤ z ∧ z ≤ 99 ∧ NumR t ln pl u z) ∨ (z = -1 ∧ ∀ q v, ¬ NumR t ln pl q v)) ∧ (pl ≤ u ∧ u ≤ ln)) (fun u => [(x, .inr (9, [.int (iI ln), .ref a1, .int (iI u), .ref a3, .ref a4, .int (iI ri), .int (iI ld), .int (iI mn), .ref a8, .ref a9, .int (iI nn), .ref a11, .int (iI fn), .ref a13, .int (iI lm), .ref a15, .ref a16, .ref a17, .ref a18, .ref a19, .ref a20])), (a1, .inl (G.2.1 1, 120, .inl (iA t)))]) := by
  refine MQc.start (own := RX11) (by decide) rfl rfl (Nat.le_of_ble_eq_true rfl) ?_
  intro p9 e9 s9 m9 args below meth c9 A Q C hK hW hA hr hlocks hQ ls hl
  have hl : lv_has ls 3 [(0, .ref x)] := hl
  have hin11 : ∀ w ∈ wsX110, w ∈ wsX11_oneOrTwo := by decide +kernel
  refine lv_iconst (v := iI 0) C.1 C.2.1 dX11_oneOrTwo_0 rfl ?_
  refine lv_istore_n (lv' := [(1, .int (iI 0)), (0, .ref x)]) C.1 C.2.1 dX11_oneOrTwo_1 rfl hl (by decide) rfl (fun ls hl => ?_)
  refine lv_iconst (v := iI 0) C.1 C.2.1 dX11_oneOrTwo_2 rfl ?_
  refine lv_istore_n (lv' := [(2, .int (iI 0)), (1, .int (iI 0)), (0, .ref x)]) C.1 C.2.1 dX11_oneOrTwo_3 rfl hl (by decide) rfl (fun ls hl => ?_)
  have cut_4 : ∀ (n9 : Nat) (p : Int) (v : Int) (k : Int), (0 ≤ k ∧ p = pl + k ∧ p ≤ ln) → (∀ j, pl ≤ j → j < p → 48 ≤ t j ∧ t j ≤ 57) → ((k = 0 ∧ v = 0) ∨ (k = 1 ∧ v = t pl - 48) ∨ (2 ≤ k ∧ v = 10 * (t pl - 48) + (t (pl + 1) - 48))) → (ln - p < (n9 : Int)) → ∀ (H : Heap) (locs : List Loc) (ls : Array Slot), Wd G A s9.heap [(x, .inr (9, [.int (iI ln), .ref a1, .int (iI p), .ref a3, .ref a4, .int (iI ri), .int (iI ld), .int (iI mn), .ref a8, .ref a9, .int (iI nn), .ref a11, .int (iI fn), .ref a13, .int (iI lm), .ref a15, .ref a16, .ref a17, .ref a18, .ref a19, .ref a20])), (a1, .inl (G.2.1 1, 120, .inl (iA t)))] H locs → lv_has ls 3 [(2, .int (iI k)), (1, .int (iI v)), (0, .ref x)] → W p9 l e9 (rmL 1) s9 m9 args below meth c9 H locs 0 0 Q (F0 m9 4 ls []) := by
    intro n9
    induction n9 with
    | zero => intro p v k hk hd hv hmu; intros; exfalso; omega
    | succ n9 ih_4 =>
      intro p v k hk hd hv hmu H locs ls hW hl
      have hd0 := fun q9 => hd pl (by omega) q9
      have hd1 := fun q9 => hd (pl + 1) (by omega) q9
      have hvb : 0 ≤ v ∧ v ≤ 99 := hv.elim (fun q => by omega) (fun q => q.elim (fun q => by have := hd0 (by omega); omega) (fun q => by have := hd0 (by omega); have := hd1 (by omega); omega))
      refine lv_aload_n C.1 C.2.1 dX11_oneOrTwo_4 rfl (lv_at hl 2 rfl) ?_
      refine z_get C hK hW hin11 (v := .int (iI p)) 0 rfl rfl 2 (by decide) (C.2.2.2.2 (.fieldLink RX11 65 "TellingRowsModel" "at" "I") (List.mem_of_getElem? (i := 1) rfl)) (fun _ h9 => h9) rfl dX11_oneOrTwo_5 ?_
      refine lv_aload_n C.1 C.2.1 dX11_oneOrTwo_8 rfl (lv_at hl 2 rfl) ?_
      refine z_get C hK hW hin11 (v := .int (iI ln)) 0 rfl rfl 0 (by decide) (C.2.2.2.2 (.fieldLink RX11 62 "TellingRowsModel" "length" "I") (List.mem_of_getElem? (i := 2) rfl)) (fun _ h9 => h9) rfl dX11_oneOrTwo_9 ?_
      refine z_icmp_ge (tgt := 80) C dX11_oneOrTwo_12 (by decide) (by omega) (fun c_12 => ?_) (fun c_12 => ?_)
      ·
        refine lv_iload_n C.1 C.2.1 dX11_oneOrTwo_80 rfl (lv_at hl 0 rfl) ?_
        refine z_i2l C dX11_oneOrTwo_81 (by omega) ?_
        refine lv_lconst (v := lI 1) C.1 C.2.1 dX11_oneOrTwo_82 rfl ?_
        refine z_ldc2 (z := 2) C (C.2.2.2.2 (.constantLong RX11 72 (2)) (List.mem_of_getElem? (i := 6) rfl)) (by decide +kernel) dX11_oneOrTwo_83 ?_
        refine z_callR (va_runS (As := [.long (lI k), .long (lI 1), .long (lI 2)]) (rest := []) C (c_X11_in l G k 1 2 (by first | omega | assumption | (intros; first | rfl | omega | assumption | (and_intros <;> first | rfl | omega | assumption))) (by first | omega | assumption | (intros; first | rfl | omega | assumption | (and_intros <;> first | rfl | omega | assumption))) (by first | omega | assumption | (intros; first | rfl | omega | assumption | (and_intros <;> first | rfl | omega | assumption))) H.size) (va_cwS 3 C.2.2.2.2 gX11_oneOrTwo_X11_in rfl rfl rfl (by decide +kernel) ⟨Nat.le_of_ble_eq_true rfl, Nat.le_of_ble_eq_true rfl⟩) (z_preS hK hW hA [] rfl (by decide)) rfl rfl hl.1 rfl (lv_room (Nat.le_of_ble_eq_true rfl)) dX11_oneOrTwo_86 ⟨Nat.zero_le _, Nat.zero_le _⟩) (fun r hp => ?_)
        have hp : ∃ z : Int, r = some (.int (iI z)) ∧ ((z = 1 ∧ ((1 : Int) ≤ k ∧ k ≤ (2 : Int))) ∨ (z = 0 ∧ ¬ ((1 : Int) ≤ k ∧ k ≤ (2 : Int)))) := hp
        obtain ⟨z_86, rfl, hz_86_0⟩ := hp
        refine z_if_eq (tgt := 96) C dX11_oneOrTwo_89 (by decide) (by omega) (fun c_89 => ?_) (fun c_89 => ?_)
        ·
          refine lv_iconst (v := iI (-1)) C.1 C.2.1 dX11_oneOrTwo_96 rfl ?_
          rw [hQ]
          have hP9 : ∃ z : Int, (some (Value.int (iI (-1)))) = some (.int (iI z)) ∧ ((0 ≤ z ∧ z ≤ 99 ∧ NumR t ln pl p z) ∨ (z = -1 ∧ ∀ q v, ¬ NumR t ln pl q v)) ∧ (pl ≤ p ∧ p ≤ ln) := ⟨_, rfl, (by have hnd : p < ln → ¬ (48 ≤ t p ∧ t p ≤ 57) := (by first | omega | (intro q9; omega)); rcases hv with q | q | q <;> first | (exfalso; omega) | exact Or.inr ⟨rfl, fun q8 v8 hN => by have h8 := hN.1; rw [show p = pl by omega] at hnd; omega⟩ | exact Or.inl ⟨by omega, by omega, Or.inl ⟨by omega, by omega, hd0 (by omega), by omega⟩, hnd⟩ | exact Or.inl ⟨by omega, by omega, Or.inr ⟨by omega, by omega, hd0 (by omega), hd1 (by omega), by omega⟩, hnd⟩ | exact Or.inr ⟨rfl, fun q8 v8 hN => by have hN2 := hN.2; have h8 := hN.1; exact h8.elim (fun h8 => by rw [h8.1] at hN2; have := hd1 (by omega); omega) (fun h8 => by rw [h8.1] at hN2; have := hd (pl + 2) (by omega) (by omega); omega)⟩), (by first | omega | assumption | (intros; first | rfl | omega | assumption | (and_intros <;> first | rfl | omega | assumption)))⟩
          exact z_iret C hr hlocks hW p rfl hP9 dX11_oneOrTwo_97
        ·
          refine lv_iload_n C.1 C.2.1 dX11_oneOrTwo_92 rfl (lv_at hl 1 rfl) ?_
          refine lv_goto (tgt := 97) C.1 C.2.1 dX11_oneOrTwo_93 (by decide) ?_
          rw [hQ]
          have hP9 : ∃ z : Int, (some (Value.int (iI v))) = some (.int (iI z)) ∧ ((0 ≤ z ∧ z ≤ 99 ∧ NumR t ln pl p z) ∨ (z = -1 ∧ ∀ q v, ¬ NumR t ln pl q v)) ∧ (pl ≤ p ∧ p ≤ ln) := ⟨_, rfl, (by have hnd : p < ln → ¬ (48 ≤ t p ∧ t p ≤ 57) := (by first | omega | (intro q9; omega)); rcases hv with q | q | q <;> first | (exfalso; omega) | exact Or.inr ⟨rfl, fun q8 v8 hN => by have h8 := hN.1; rw [show p = pl by omega] at hnd; omega⟩ | exact Or.inl ⟨by omega, by omega, Or.inl ⟨by omega, by omega, hd0 (by omega), by omega⟩, hnd⟩ | exact Or.inl ⟨by omega, by omega, Or.inr ⟨by omega, by omega, hd0 (by omega), hd1 (by omega), by omega⟩, hnd⟩ | exact Or.inr ⟨rfl, fun q8 v8 hN => by have hN2 := hN.2; have h8 := hN.1; exact h8.elim (fun h8 => by rw [h8.1] at hN2; have := hd1 (by omega); omega) (fun h8 => by rw [h8.1] at hN2; have := hd (pl + 2) (by omega) (by omega); omega)⟩), (by first | omega | assumption | (intros; first | rfl | omega | assumption | (and_intros <;> first | rfl | omega | assumption)))⟩
          exact z_iret C hr hlocks hW p rfl hP9 dX11_oneOrTwo_97
      ·
        refine lv_aload_n C.1 C.2.1 dX11_oneOrTwo_15 rfl (lv_at hl 2 rfl) ?_
        refine z_get C hK hW hin11 (v := .ref a1) 0 rfl rfl 1 (by decide) (C.2.2.2.2 (.fieldLink RX11 7 "TellingRowsModel" "text" "[B") (List.mem_of_getElem? (i := 3) rfl)) (fun _ h9 => h9) rfl dX11_oneOrTwo_16 ?_
        refine lv_aload_n C.1 C.2.1 dX11_oneOrTwo_19 rfl (lv_at hl 2 rfl) ?_
        refine z_get C hK hW hin11 (v := .int (iI p)) 0 rfl rfl 2 (by decide) (C.2.2.2.2 (.fieldLink RX11 65 "TellingRowsModel" "at" "I") (List.mem_of_getElem? (i := 1) rfl)) (fun _ h9 => h9) rfl dX11_oneOrTwo_20 ?_
        refine z_bald C hK hW 1 rfl (by omega) (by omega) dX11_oneOrTwo_23 ?_
        have hb_23 := ht p
        have hbt := ht p
        refine z_i2l C dX11_oneOrTwo_24 (by omega) ?_
        refine z_ldc2 (z := 48) C (C.2.2.2.2 (.constantLong RX11 68 (48)) (List.mem_of_getElem? (i := 4) rfl)) (by decide +kernel) dX11_oneOrTwo_25 ?_
        refine z_ldc2 (z := 57) C (C.2.2.2.2 (.constantLong RX11 70 (57)) (List.mem_of_getElem? (i := 5) rfl)) (by decide +kernel) dX11_oneOrTwo_28 ?_
        refine z_callR (va_runS (As := [.long (lI (t p)), .long (lI 48), .long (lI 57)]) (rest := []) C (c_X11_in l G (t p) 48 57 (by first | omega | assumption | (intros; first | rfl | omega | assumption | (and_intros <;> first | rfl | omega | assumption))) (by first | omega | assumption | (intros; first | rfl | omega | assumption | (and_intros <;> first | rfl | omega | assumption))) (by first | omega | assumption | (intros; first | rfl | omega | assumption | (and_intros <;> first | rfl | omega | assumption))) H.size) (va_cwS 3 C.2.2.2.2 gX11_oneOrTwo_X11_in rfl rfl rfl (by decide +kernel) ⟨Nat.le_of_ble_eq_true rfl, Nat.le_of_ble_eq_true rfl⟩) (z_preS hK hW hA [] rfl (by decide)) rfl rfl hl.1 rfl (lv_room (Nat.le_of_ble_eq_true rfl)) dX11_oneOrTwo_31 ⟨Nat.zero_le _, Nat.zero_le _⟩) (fun r hp => ?_)
        have hp : ∃ z : Int, r = some (.int (iI z)) ∧ ((z = 1 ∧ ((48 : Int) ≤ (t p) ∧ (t p) ≤ (57 : Int))) ∨ (z = 0 ∧ ¬ ((48 : Int) ≤ (t p) ∧ (t p) ≤ (57 : Int)))) := hp
        obtain ⟨z_31, rfl, hz_31_0⟩ := hp
        refine z_if_eq (tgt := 80) C dX11_oneOrTwo_34 (by decide) (by omega) (fun c_34 => ?_) (fun c_34 => ?_)
        ·
          refine lv_iload_n C.1 C.2.1 dX11_oneOrTwo_80 rfl (lv_at hl 0 rfl) ?_
          refine z_i2l C dX11_oneOrTwo_81 (by omega) ?_
          refine lv_lconst (v := lI 1) C.1 C.2.1 dX11_oneOrTwo_82 rfl ?_
          refine z_ldc2 (z := 2) C (C.2.2.2.2 (.constantLong RX11 72 (2)) (List.mem_of_getElem? (i := 6) rfl)) (by decide +kernel) dX11_oneOrTwo_83 ?_
          refine z_callR (va_runS (As := [.long (lI k), .long (lI 1), .long (lI 2)]) (rest := []) C (c_X11_in l G k 1 2 (by first | omega | assumption | (intros; first | rfl | omega | assumption | (and_intros <;> first | rfl | omega | assumption))) (by first | omega | assumption | (intros; first | rfl | omega | assumption | (and_intros <;> first | rfl | omega | assumption))) (by first | omega | assumption | (intros; first | rfl | omega | assumption | (and_intros <;> first | rfl | omega | assumption))) H.size) (va_cwS 3 C.2.2.2.2 gX11_oneOrTwo_X11_in rfl rfl rfl (by decide +kernel) ⟨Nat.le_of_ble_eq_true rfl, Nat.le_of_ble_eq_true rfl⟩) (z_preS hK hW hA [] rfl (by decide)) rfl rfl hl.1 rfl (lv_room (Nat.le_of_ble_eq_true rfl)) dX11_oneOrTwo_86 ⟨Nat.zero_le _, Nat.zero_le _⟩) (fun r hp => ?_)
          have hp : ∃ z : Int, r = some (.int (iI z)) ∧ ((z = 1 ∧ ((1 : Int) ≤ k ∧ k ≤ (2 : Int))) ∨ (z = 0 ∧ ¬ ((1 : Int) ≤ k ∧ k ≤ (2 : Int)))) := hp
          obtain ⟨z_86, rfl, hz_86_0⟩ := hp
          refine z_if_eq (tgt := 96) C dX11_oneOrTwo_89 (by decide) (by omega) (fun c_89 => ?_) (fun c_89 => ?_)
          ·
            refine lv_iconst (v := iI (-1)) C.1 C.2.1 dX11_oneOrTwo_96 rfl ?_
            rw [hQ]
            have hP9 : ∃ z : Int, (some (Value.int (iI (-1)))) = some (.int (iI z)) ∧ ((0 ≤ z ∧ z ≤ 99 ∧ NumR t ln pl p z) ∨ (z = -1 ∧ ∀ q v, ¬ NumR t ln pl q v)) ∧ (pl ≤ p ∧ p ≤ ln) := ⟨_, rfl, (by have hnd : p < ln → ¬ (48 ≤ t p ∧ t p ≤ 57) := (by first | omega | (intro q9; omega)); rcases hv with q | q | q <;> first | (exfalso; omega) | exact Or.inr ⟨rfl, fun q8 v8 hN => by have h8 := hN.1; rw [show p = pl by omega] at hnd; omega⟩ | exact Or.inl ⟨by omega, by omega, Or.inl ⟨by omega, by omega, hd0 (by omega), by omega⟩, hnd⟩ | exact Or.inl ⟨by omega, by omega, Or.inr ⟨by omega, by omega, hd0 (by omega), hd1 (by omega), by omega⟩, hnd⟩ | exact Or.inr ⟨rfl, fun q8 v8 hN => by have hN2 := hN.2; have h8 := hN.1; exact h8.elim (fun h8 => by rw [h8.1] at hN2; have := hd1 (by omega); omega) (fun h8 => by rw [h8.1] at hN2; have := hd (pl + 2) (by omega) (by omega); omega)⟩), (by first | omega | assumption | (intros; first | rfl | omega | assumption | (and_intros <;> first | rfl | omega | assumption)))⟩
            exact z_iret C hr hlocks hW p rfl hP9 dX11_oneOrTwo_97
          ·
            refine lv_iload_n C.1 C.2.1 dX11_oneOrTwo_92 rfl (lv_at hl 1 rfl) ?_
            refine lv_goto (tgt := 97) C.1 C.2.1 dX11_oneOrTwo_93 (by decide) ?_
            rw [hQ]
            have hP9 : ∃ z : Int, (some (Value.int (iI v))) = some (.int (iI z)) ∧ ((0 ≤ z ∧ z ≤ 99 ∧ NumR t ln pl p z) ∨ (z = -1 ∧ ∀ q v, ¬ NumR t ln pl q v)) ∧ (pl ≤ p ∧ p ≤ ln) := ⟨_, rfl, (by have hnd : p < ln → ¬ (48 ≤ t p ∧ t p ≤ 57) := (by first | omega | (intro q9; omega)); rcases hv with q | q | q <;> first | (exfalso; omega) | exact Or.inr ⟨rfl, fun q8 v8 hN => by have h8 := hN.1; rw [show p = pl by omega] at hnd; omega⟩ | exact Or.inl ⟨by omega, by omega, Or.inl ⟨by omega, by omega, hd0 (by omega), by omega⟩, hnd⟩ | exact Or.inl ⟨by omega, by omega, Or.inr ⟨by omega, by omega, hd0 (by omega), hd1 (by omega), by omega⟩, hnd⟩ | exact Or.inr ⟨rfl, fun q8 v8 hN => by have hN2 := hN.2; have h8 := hN.1; exact h8.elim (fun h8 => by rw [h8.1] at hN2; have := hd1 (by omega); omega) (fun h8 => by rw [h8.1] at hN2; have := hd (pl + 2) (by omega) (by omega); omega)⟩), (by first | omega | assumption | (intros; first | rfl | omega | assumption | (and_intros <;> first | rfl | omega | assumption)))⟩
            exact z_iret C hr hlocks hW p rfl hP9 dX11_oneOrTwo_97
        ·
          refine lv_iload_n C.1 C.2.1 dX11_oneOrTwo_37 rfl (lv_at hl 0 rfl) ?_
          refine lv_iconst (v := iI 2) C.1 C.2.1 dX11_oneOrTwo_38 rfl ?_
          refine z_icmp_ge (tgt := 62) C dX11_oneOrTwo_39 (by decide) (by omega) (fun c_39 => ?_) (fun c_39 => ?_)
          ·
            refine lv_iload_n C.1 C.2.1 dX11_oneOrTwo_62 rfl (lv_at hl 1 rfl) ?_
            refine lv_istore_n (lv' := [(1, .int (iI v)), (2, .int (iI k)), (0, .ref x)]) C.1 C.2.1 dX11_oneOrTwo_63 rfl hl (by decide) rfl (fun ls hl => ?_)
            refine lv_iinc (v := iI (k + 1)) (lv' := [(2, .int (iI (k + 1))), (1, .int (iI v)), (0, .ref x)]) C.1 C.2.1 dX11_oneOrTwo_64 hl (k := 1) rfl (iI_add _ _) (by decide) rfl (fun ls hl => ?_)
            refine lv_aload_n C.1 C.2.1 dX11_oneOrTwo_67 rfl (lv_at hl 2 rfl) ?_
            refine lv_dup C.1 C.2.1 dX11_oneOrTwo_68 rfl ?_
            refine z_get C hK hW hin11 (v := .int (iI p)) 0 rfl rfl 2 (by decide) (C.2.2.2.2 (.fieldLink RX11 65 "TellingRowsModel" "at" "I") (List.mem_of_getElem? (i := 1) rfl)) (fun _ h9 => h9) rfl dX11_oneOrTwo_69 ?_
            refine lv_iconst (v := iI 1) C.1 C.2.1 dX11_oneOrTwo_72 rfl ?_
            refine z_iadd C dX11_oneOrTwo_73 ?_
            refine z_put C hK hW hin11 tyX11 tyX11_ok nmX11 0 rfl rfl 2 (by decide) (C.2.2.2.2 (.fieldLink RX11 65 "TellingRowsModel" "at" "I") (List.mem_of_getElem? (i := 1) rfl)) (fun _ h9 => h9) rfl rfl rfl (Nat.le_of_ble_eq_true rfl) dX11_oneOrTwo_74 (fun H locs hW => ?_)
            have hW : Wd G A s9.heap [(x, .inr (9, [.int (iI ln), .ref a1, .int (iI (p + 1)), .ref a3, .ref a4, .int (iI ri), .int (iI ld), .int (iI mn), .ref a8, .ref a9, .int (iI nn), .ref a11, .int (iI fn), .ref a13, .int (iI lm), .ref a15, .ref a16, .ref a17, .ref a18, .ref a19, .ref a20])), (a1, .inl (G.2.1 1, 120, .inl (iA t)))] H locs := hW
            refine lv_goto (tgt := 4) C.1 C.2.1 dX11_oneOrTwo_77 (by decide) ?_
            exact ih_4 (p + 1) v (k + 1) (by first | omega | assumption | (intros; first | rfl | omega | assumption | (and_intros <;> first | rfl | omega | assumption))) (fun j j0 j1 => if q : j = p then (by rw [q]; omega) else hd j j0 (by omega)) (hv.elim (fun q => Or.inr (Or.inl ⟨by omega, by rw [show pl = p by omega]; omega⟩)) (fun q => q.elim (fun q => Or.inr (Or.inr ⟨by omega, by rw [show pl + 1 = p by omega]; omega⟩)) (fun q => Or.inr (Or.inr ⟨by omega, by omega⟩)))) (by omega) _ _ _ hW (lv_sub hl [0, 1, 2] rfl)
          ·
            refine lv_bipush (v := iI 10) C.1 C.2.1 dX11_oneOrTwo_42 (by decide +kernel) ?_
            refine lv_iload_n C.1 C.2.1 dX11_oneOrTwo_44 rfl (lv_at hl 1 rfl) ?_
            refine z_imul C dX11_oneOrTwo_45 ?_
            refine lv_aload_n C.1 C.2.1 dX11_oneOrTwo_46 rfl (lv_at hl 2 rfl) ?_
            refine z_get C hK hW hin11 (v := .ref a1) 0 rfl rfl 1 (by decide) (C.2.2.2.2 (.fieldLink RX11 7 "TellingRowsModel" "text" "[B") (List.mem_of_getElem? (i := 3) rfl)) (fun _ h9 => h9) rfl dX11_oneOrTwo_47 ?_
            refine lv_aload_n C.1 C.2.1 dX11_oneOrTwo_50 rfl (lv_at hl 2 rfl) ?_
            refine z_get C hK hW hin11 (v := .int (iI p)) 0 rfl rfl 2 (by decide) (C.2.2.2.2 (.fieldLink RX11 65 "TellingRowsModel" "at" "I") (List.mem_of_getElem? (i := 1) rfl)) (fun _ h9 => h9) rfl dX11_oneOrTwo_51 ?_
            refine z_bald C hK hW 1 rfl (by omega) (by omega) dX11_oneOrTwo_54 ?_
            have hb_54 := ht p
            have hbt2 := ht p
            refine z_iadd C dX11_oneOrTwo_55 ?_
            refine lv_bipush (v := iI 48) C.1 C.2.1 dX11_oneOrTwo_56 (by decide +kernel) ?_
            refine z_isub C dX11_oneOrTwo_58 ?_
            refine lv_goto (tgt := 63) C.1 C.2.1 dX11_oneOrTwo_59 (by decide) ?_
            refine lv_istore_n (lv' := [(1, .int (iI (((10 * v) + (t p)) - 48))), (2, .int (iI k)), (0, .ref x)]) C.1 C.2.1 dX11_oneOrTwo_63 rfl hl (by decide) rfl (fun ls hl => ?_)
            refine lv_iinc (v := iI (k + 1)) (lv' := [(2, .int (iI (k + 1))), (1, .int (iI (((10 * v) + (t p)) - 48))), (0, .ref x)]) C.1 C.2.1 dX11_oneOrTwo_64 hl (k := 1) rfl (iI_add _ _) (by decide) rfl (fun ls hl => ?_)
            refine lv_aload_n C.1 C.2.1 dX11_oneOrTwo_67 rfl (lv_at hl 2 rfl) ?_
            refine lv_dup C.1 C.2.1 dX11_oneOrTwo_68 rfl ?_
            refine z_get C hK hW hin11 (v := .int (iI p)) 0 rfl rfl 2 (by decide) (C.2.2.2.2 (.fieldLink RX11 65 "TellingRowsModel" "at" "I") (List.mem_of_getElem? (i := 1) rfl)) (fun _ h9 => h9) rfl dX11_oneOrTwo_69 ?_
            refine lv_iconst (v := iI 1) C.1 C.2.1 dX11_oneOrTwo_72 rfl ?_
            refine z_iadd C dX11_oneOrTwo_73 ?_
            refine z_put C hK hW hin11 tyX11 tyX11_ok nmX11 0 rfl rfl 2 (by decide) (C.2.2.2.2 (.fieldLink RX11 65 "TellingRowsModel" "at" "I") (List.mem_of_getElem? (i := 1) rfl)) (fun _ h9 => h9) rfl rfl rfl (Nat.le_of_ble_eq_true rfl) dX11_oneOrTwo_74 (fun H locs hW => ?_)
            have hW : Wd G A s9.heap [(x, .inr (9, [.int (iI ln), .ref a1, .int (iI (p + 1)), .ref a3, .ref a4, .int (iI ri), .int (iI ld), .int (iI mn), .ref a8, .ref a9, .int (iI nn), .ref a11, .int (iI fn), .ref a13, .int (iI lm), .ref a15, .ref a16, .ref a17, .ref a18, .ref a19, .ref a20])), (a1, .inl (G.2.1 1, 120, .inl (iA t)))] H locs := hW
            refine lv_goto (tgt := 4) C.1 C.2.1 dX11_oneOrTwo_77 (by decide) ?_
            exact ih_4 (p + 1) (((10 * v) + (t p)) - 48) (k + 1) (by first | omega | assumption | (intros; first | rfl | omega | assumption | (and_intros <;> first | rfl | omega | assumption))) (fun j j0 j1 => if q : j = p then (by rw [q]; omega) else hd j j0 (by omega)) (hv.elim (fun q => Or.inr (Or.inl ⟨by omega, by rw [show pl = p by omega]; omega⟩)) (fun q => q.elim (fun q => Or.inr (Or.inr ⟨by omega, by rw [show pl + 1 = p by omega]; omega⟩)) (fun q => Or.inr (Or.inr ⟨by omega, by omega⟩)))) (by omega) _ _ _ hW (lv_sub hl [0, 1, 2] rfl)
  exact cut_4 (((ln - pl) + 1 : Int)).toNat pl 0 0 (by first | omega | assumption | (intros; first | rfl | omega | assumption | (and_intros <;> first | rfl | omega | assumption))) (fun j j0 j1 => by omega) (Or.inl ⟨rfl, rfl⟩) (by omega) _ _ _ hW (lv_sub hl [0, 1, 2] rfl)
set_option maxHeartbeats 4000000 in
set_option maxRecDepth 100000 in
/-- count -/
theorem c_X11_count (l : Launch) (G : GG) (x : Nat) (ln : Int) (a1 : Nat) (pl : Int) (a3 : Nat) (a4 : Nat) (ri : Int) (ld : Int) (mn : Int) (a8 : Nat) (a9 : Nat) (nn : Int) (a11 : Nat) (fn : Int) (a13 : Nat) (lm : Int) (a15 : Nat) (a16 : Nat) (a17 : Nat) (a18 : Nat) (a19 : Nat) (a20 : Nat) (w : Int) (hw : -2147483648 ≤ w ∧ w ≤ 2147483647) : MRc l yX11_count wsX11_count 0 G [.ref x, .int (iI w)] [(x, .inr (9, [.int (iI ln), .ref a1, .int (iI pl), .ref a3, .ref a4, .int (iI ri), .int (iI ld), .int (iI mn), .ref a8, .ref a9, .int (iI nn), .ref a11, .int (iI fn), .ref a13, .int (iI lm), .ref a15, .ref a16, .ref a17, .ref a18, .ref a19, .ref a20]))] (fun r => ∃ z : Int, r = some (.int (iI z)) ∧ ((w = 0 → z = ln) ∧ (w = 1 → z = nn) ∧ (w = 2 → z = fn) ∧ (¬ (0 ≤ w ∧ w ≤ 2) → z = -1))) := by
  refine MRc.start (own := RX11) (by decide) rfl rfl (Nat.le_of_ble_eq_true rfl) ?_
  intro p9 e9 s9 m9 args below meth c9 A Q C hK hW hA hr hlocks hQ ls hl
  have hl : lv_has ls 2 [(0, .ref x), (1, .int (iI w))] := hl
  have hin11 : ∀ w ∈ wsX110, w ∈ wsX11_count := by decide +kernel
  refine lv_iload_n C.1 C.2.1 dX11_count_0 rfl (lv_at hl 1 rfl) ?_
  refine z_if_ne (tgt := 11) C dX11_count_1 (by decide) (by omega) (fun c_1 => ?_) (fun c_1 => ?_)
  ·
    refine lv_iload_n C.1 C.2.1 dX11_count_11 rfl (lv_at hl 1 rfl) ?_
    refine lv_iconst (v := iI 1) C.1 C.2.1 dX11_count_12 rfl ?_
    refine z_icmp_ne (tgt := 23) C dX11_count_13 (by decide) (by omega) (fun c_13 => ?_) (fun c_13 => ?_)
    ·
      refine lv_iload_n C.1 C.2.1 dX11_count_23 rfl (lv_at hl 1 rfl) ?_
      refine lv_iconst (v := iI 2) C.1 C.2.1 dX11_count_24 rfl ?_
      refine z_icmp_ne (tgt := 35) C dX11_count_25 (by decide) (by omega) (fun c_25 => ?_) (fun c_25 => ?_)
      ·
        refine lv_iconst (v := iI (-1)) C.1 C.2.1 dX11_count_35 rfl ?_
        rw [hQ]
        have hP9 : ∃ z : Int, (some (Value.int (iI (-1)))) = some (.int (iI z)) ∧ ((w = 0 → z = ln) ∧ (w = 1 → z = nn) ∧ (w = 2 → z = fn) ∧ (¬ (0 ≤ w ∧ w ≤ 2) → z = -1)) := ⟨_, rfl, (by omega)⟩
        exact z_iretR C hr hlocks hP9 dX11_count_36
      ·
        refine lv_aload_n C.1 C.2.1 dX11_count_28 rfl (lv_at hl 0 rfl) ?_
        refine z_get C hK hW hin11 (v := .int (iI fn)) 0 rfl rfl 12 (by decide) (C.2.2.2.2 (.fieldLink RX11 141 "TellingRowsModel" "figures" "I") (List.mem_of_getElem? (i := 3) rfl)) (fun _ h9 => h9) rfl dX11_count_29 ?_
        refine lv_goto (tgt := 36) C.1 C.2.1 dX11_count_32 (by decide) ?_
        rw [hQ]
        have hP9 : ∃ z : Int, (some (Value.int (iI fn))) = some (.int (iI z)) ∧ ((w = 0 → z = ln) ∧ (w = 1 → z = nn) ∧ (w = 2 → z = fn) ∧ (¬ (0 ≤ w ∧ w ≤ 2) → z = -1)) := ⟨_, rfl, (by omega)⟩
        exact z_iretR C hr hlocks hP9 dX11_count_36
    ·
      refine lv_aload_n C.1 C.2.1 dX11_count_16 rfl (lv_at hl 0 rfl) ?_
      refine z_get C hK hW hin11 (v := .int (iI nn)) 0 rfl rfl 10 (by decide) (C.2.2.2.2 (.fieldLink RX11 133 "TellingRowsModel" "numbers" "I") (List.mem_of_getElem? (i := 2) rfl)) (fun _ h9 => h9) rfl dX11_count_17 ?_
      refine lv_goto (tgt := 36) C.1 C.2.1 dX11_count_20 (by decide) ?_
      rw [hQ]
      have hP9 : ∃ z : Int, (some (Value.int (iI nn))) = some (.int (iI z)) ∧ ((w = 0 → z = ln) ∧ (w = 1 → z = nn) ∧ (w = 2 → z = fn) ∧ (¬ (0 ≤ w ∧ w ≤ 2) → z = -1)) := ⟨_, rfl, (by omega)⟩
      exact z_iretR C hr hlocks hP9 dX11_count_36
  ·
    refine lv_aload_n C.1 C.2.1 dX11_count_4 rfl (lv_at hl 0 rfl) ?_
    refine z_get C hK hW hin11 (v := .int (iI ln)) 0 rfl rfl 0 (by decide) (C.2.2.2.2 (.fieldLink RX11 62 "TellingRowsModel" "length" "I") (List.mem_of_getElem? (i := 1) rfl)) (fun _ h9 => h9) rfl dX11_count_5 ?_
    refine lv_goto (tgt := 36) C.1 C.2.1 dX11_count_8 (by decide) ?_
    rw [hQ]
    have hP9 : ∃ z : Int, (some (Value.int (iI ln))) = some (.int (iI z)) ∧ ((w = 0 → z = ln) ∧ (w = 1 → z = nn) ∧ (w = 2 → z = fn) ∧ (¬ (0 ≤ w ∧ w ≤ 2) → z = -1)) := ⟨_, rfl, (by omega)⟩
    exact z_iretR C hr hlocks hP9 dX11_count_36
set_option maxHeartbeats 4000000 in
set_option maxRecDepth 100000 in
/-- X11_wipe -/
theorem c_X11_wipe (l : Launch) (G : GG) (x : Nat) (ln : Int) (a1 : Nat) (pl : Int) (a3 : Nat) (a4 : Nat) (ri : Int) (ld : Int) (mn : Int) (a8 : Nat) (a9 : Nat) (nn : Int) (a11 : Nat) (fn : Int) (a13 : Nat) (lm : Int) (a15 : Nat) (a16 : Nat) (a17 : Nat) (a18 : Nat) (a19 : Nat) (a20 : Nat) : MQc l yX11_wipe wsX11_wipe 0 G [.ref x] [(x, .inr (9, [.int (iI ln), .ref a1, .int (iI pl), .ref a3, .ref a4, .int (iI ri), .int (iI ld), .int (iI mn), .ref a8, .ref a9, .int (iI nn), .ref a11, .int (iI fn), .ref a13, .int (iI lm), .ref a15, .ref a16, .ref a17, .ref a18, .ref a19, .ref a20]))] (fun r (u : Unit) => ∃ z : Int, r = some (.int (iI z)) ∧ (z = ln)) (fun u => [(x, .inr (9, [.int (iI 0), .ref a1, .int (iI pl), .ref a3, .ref a4, .int (iI ri), .int (iI ld), .int (iI mn), .ref a8, .ref a9, .int (iI nn), .ref a11, .int (iI fn), .ref a13, .int (iI lm), .ref a15, .ref a16, .ref a17, .ref a18, .ref a19, .ref a20]))]) := by
  refine MQc.start (own := RX11) (by decide) rfl rfl (Nat.le_of_ble_eq_true rfl) ?_
  intro p9 e9 s9 m9 args below meth c9 A Q C hK hW hA hr hlocks hQ ls hl
  have hl : lv_has ls 2 [(0, .ref x)] := hl
  have hin11 : ∀ w ∈ wsX110, w ∈ wsX11_wipe := by decide +kernel
  refine lv_aload_n C.1 C.2.1 dX11_wipe_0 rfl (lv_at hl 0 rfl) ?_
  refine z_get C hK hW hin11 (v := .int (iI ln)) 0 rfl rfl 0 (by decide) (C.2.2.2.2 (.fieldLink RX11 62 "TellingRowsModel" "length" "I") (List.mem_of_getElem? (i := 1) rfl)) (fun _ h9 => h9) rfl dX11_wipe_1 ?_
  refine lv_istore_n (lv' := [(1, .int (iI ln)), (0, .ref x)]) C.1 C.2.1 dX11_wipe_4 rfl hl (by decide) rfl (fun ls hl => ?_)
  refine lv_aload_n C.1 C.2.1 dX11_wipe_5 rfl (lv_at hl 1 rfl) ?_
  refine lv_iconst (v := iI 0) C.1 C.2.1 dX11_wipe_6 rfl ?_
  refine z_put C hK hW hin11 tyX11 tyX11_ok nmX11 0 rfl rfl 0 (by decide) (C.2.2.2.2 (.fieldLink RX11 62 "TellingRowsModel" "length" "I") (List.mem_of_getElem? (i := 1) rfl)) (fun _ h9 => h9) rfl rfl rfl (Nat.le_of_ble_eq_true rfl) dX11_wipe_7 (fun H locs hW => ?_)
  have hW : Wd G A s9.heap [(x, .inr (9, [.int (iI 0), .ref a1, .int (iI pl), .ref a3, .ref a4, .int (iI ri), .int (iI ld), .int (iI mn), .ref a8, .ref a9, .int (iI nn), .ref a11, .int (iI fn), .ref a13, .int (iI lm), .ref a15, .ref a16, .ref a17, .ref a18, .ref a19, .ref a20]))] H locs := hW
  refine lv_iload_n C.1 C.2.1 dX11_wipe_10 rfl (lv_at hl 0 rfl) ?_
  rw [hQ]
  have hP9 : ∃ z : Int, (some (Value.int (iI ln))) = some (.int (iI z)) ∧ (z = ln) := ⟨_, rfl, (by first | omega | assumption | (intros; first | rfl | omega | assumption | (and_intros <;> first | rfl | omega | assumption)))⟩
  exact z_iret C hr hlocks hW () rfl hP9 dX11_wipe_11
set_option maxHeartbeats 4000000 in
set_option maxRecDepth 100000 in
/-- X11_noNumbers -/
theorem c_X11_noNumbers (l : Launch) (G : GG) (x : Nat) (ln : Int) (a1 : Nat) (pl : Int) (a3 : Nat) (a4 : Nat) (ri : Int) (ld : Int) (mn : Int) (a8 : Nat) (a9 : Nat) (nn : Int) (a11 : Nat) (fn : Int) (a13 : Nat) (lm : Int) (a15 : Nat) (a16 : Nat) (a17 : Nat) (a18 : Nat) (a19 : Nat) (a20 : Nat) : MQc l yX11_noNumbers wsX11_noNumbers 0 G [.ref x] [(x, .inr (9, [.int (iI ln), .ref a1, .int (iI pl), .ref a3, .ref a4, .int (iI ri), .int (iI ld), .int (iI mn), .ref a8, .ref a9, .int (iI nn), .ref a11, .int (iI fn), .ref a13, .int (iI lm), .ref a15, .ref a16, .ref a17, .ref a18, .ref a19, .ref a20]))] (fun r (u : Unit) => ∃ z : Int, r = some (.int (iI z)) ∧ (z = nn)) (fun u => [(x, .inr (9, [.int (iI ln), .ref a1, .int (iI pl), .ref a3, .ref a4, .int (iI ri), .int (iI ld), .int (iI mn), .ref a8, .ref a9, .int (iI 0), .ref a11, .int (iI fn), .ref a13, .int (iI lm), .ref a15, .ref a16, .ref a17, .ref a18, .ref a19, .ref a20]))]) := by
  refine MQc.start (own := RX11) (by decide) rfl rfl (Nat.le_of_ble_eq_true rfl) ?_
  intro p9 e9 s9 m9 args below meth c9 A Q C hK hW hA hr hlocks hQ ls hl
  have hl : lv_has ls 2 [(0, .ref x)] := hl
  have hin11 : ∀ w ∈ wsX110, w ∈ wsX11_noNumbers := by decide +kernel
  refine lv_aload_n C.1 C.2.1 dX11_noNumbers_0 rfl (lv_at hl 0 rfl) ?_
  refine z_get C hK hW hin11 (v := .int (iI nn)) 0 rfl rfl 10 (by decide) (C.2.2.2.2 (.fieldLink RX11 133 "TellingRowsModel" "numbers" "I") (List.mem_of_getElem? (i := 1) rfl)) (fun _ h9 => h9) rfl dX11_noNumbers_1 ?_
  refine lv_istore_n (lv' := [(1, .int (iI nn)), (0, .ref x)]) C.1 C.2.1 dX11_noNumbers_4 rfl hl (by decide) rfl (fun ls hl => ?_)
  refine lv_aload_n C.1 C.2.1 dX11_noNumbers_5 rfl (lv_at hl 1 rfl) ?_
  refine lv_iconst (v := iI 0) C.1 C.2.1 dX11_noNumbers_6 rfl ?_
  refine z_put C hK hW hin11 tyX11 tyX11_ok nmX11 0 rfl rfl 10 (by decide) (C.2.2.2.2 (.fieldLink RX11 133 "TellingRowsModel" "numbers" "I") (List.mem_of_getElem? (i := 1) rfl)) (fun _ h9 => h9) rfl rfl rfl (Nat.le_of_ble_eq_true rfl) dX11_noNumbers_7 (fun H locs hW => ?_)
  have hW : Wd G A s9.heap [(x, .inr (9, [.int (iI ln), .ref a1, .int (iI pl), .ref a3, .ref a4, .int (iI ri), .int (iI ld), .int (iI mn), .ref a8, .ref a9, .int (iI 0), .ref a11, .int (iI fn), .ref a13, .int (iI lm), .ref a15, .ref a16, .ref a17, .ref a18, .ref a19, .ref a20]))] H locs := hW
  refine lv_iload_n C.1 C.2.1 dX11_noNumbers_10 rfl (lv_at hl 0 rfl) ?_
  rw [hQ]
  have hP9 : ∃ z : Int, (some (Value.int (iI nn))) = some (.int (iI z)) ∧ (z = nn) := ⟨_, rfl, (by first | omega | assumption | (intros; first | rfl | omega | assumption | (and_intros <;> first | rfl | omega | assumption)))⟩
  exact z_iret C hr hlocks hW () rfl hP9 dX11_noNumbers_11
set_option maxHeartbeats 4000000 in
set_option maxRecDepth 100000 in
/-- X11_noFigures -/
theorem c_X11_noFigures (l : Launch) (G : GG) (x : Nat) (ln : Int) (a1 : Nat) (pl : Int) (a3 : Nat) (a4 : Nat) (ri : Int) (ld : Int) (mn : Int) (a8 : Nat) (a9 : Nat) (nn : Int) (a11 : Nat) (fn : Int) (a13 : Nat) (lm : Int) (a15 : Nat) (a16 : Nat) (a17 : Nat) (a18 : Nat) (a19 : Nat) (a20 : Nat) : MQc l yX11_noFigures wsX11_noFigures 0 G [.ref x] [(x, .inr (9, [.int (iI ln), .ref a1, .int (iI pl), .ref a3, .ref a4, .int (iI ri), .int (iI ld), .int (iI mn), .ref a8, .ref a9, .int (iI nn), .ref a11, .int (iI fn), .ref a13, .int (iI lm), .ref a15, .ref a16, .ref a17, .ref a18, .ref a19, .ref a20]))] (fun r (u : Unit) => ∃ z : Int, r = some (.int (iI z)) ∧ (z = fn)) (fun u => [(x, .inr (9, [.int (iI ln), .ref a1, .int (iI pl), .ref a3, .ref a4, .int (iI ri), .int (iI ld), .int (iI mn), .ref a8, .ref a9, .int (iI nn), .ref a11, .int (iI 0), .ref a13, .int (iI lm), .ref a15, .ref a16, .ref a17, .ref a18, .ref a19, .ref a20]))]) := by
  refine MQc.start (own := RX11) (by decide) rfl rfl (Nat.le_of_ble_eq_true rfl) ?_
  intro p9 e9 s9 m9 args below meth c9 A Q C hK hW hA hr hlocks hQ ls hl
  have hl : lv_has ls 2 [(0, .ref x)] := hl
  have hin11 : ∀ w ∈ wsX110, w ∈ wsX11_noFigures := by decide +kernel
  refine lv_aload_n C.1 C.2.1 dX11_noFigures_0 rfl (lv_at hl 0 rfl) ?_
  refine z_get C hK hW hin11 (v := .int (iI fn)) 0 rfl rfl 12 (by decide) (C.2.2.2.2 (.fieldLink RX11 141 "TellingRowsModel" "figures" "I") (List.mem_of_getElem? (i := 1) rfl)) (fun _ h9 => h9) rfl dX11_noFigures_1 ?_
  refine lv_istore_n (lv' := [(1, .int (iI fn)), (0, .ref x)]) C.1 C.2.1 dX11_noFigures_4 rfl hl (by decide) rfl (fun ls hl => ?_)
  refine lv_aload_n C.1 C.2.1 dX11_noFigures_5 rfl (lv_at hl 1 rfl) ?_
  refine lv_iconst (v := iI 0) C.1 C.2.1 dX11_noFigures_6 rfl ?_
  refine z_put C hK hW hin11 tyX11 tyX11_ok nmX11 0 rfl rfl 12 (by decide) (C.2.2.2.2 (.fieldLink RX11 141 "TellingRowsModel" "figures" "I") (List.mem_of_getElem? (i := 1) rfl)) (fun _ h9 => h9) rfl rfl rfl (Nat.le_of_ble_eq_true rfl) dX11_noFigures_7 (fun H locs hW => ?_)
  have hW : Wd G A s9.heap [(x, .inr (9, [.int (iI ln), .ref a1, .int (iI pl), .ref a3, .ref a4, .int (iI ri), .int (iI ld), .int (iI mn), .ref a8, .ref a9, .int (iI nn), .ref a11, .int (iI 0), .ref a13, .int (iI lm), .ref a15, .ref a16, .ref a17, .ref a18, .ref a19, .ref a20]))] H locs := hW
  refine lv_iload_n C.1 C.2.1 dX11_noFigures_10 rfl (lv_at hl 0 rfl) ?_
  rw [hQ]
  have hP9 : ∃ z : Int, (some (Value.int (iI fn))) = some (.int (iI z)) ∧ (z = fn) := ⟨_, rfl, (by first | omega | assumption | (intros; first | rfl | omega | assumption | (and_intros <;> first | rfl | omega | assumption)))⟩
  exact z_iret C hr hlocks hW () rfl hP9 dX11_noFigures_11
set_option maxHeartbeats 4000000 in
set_option maxRecDepth 100000 in
/-- X11_number -/
theorem c_X11_number (l : Launch) (G : GG) (x : Nat) (ln : Int) (a1 : Nat) (pl : Int) (a3 : Nat) (a4 : Nat) (ri : Int) (ld : Int) (mn : Int) (a8 : Nat) (a9 : Nat) (nn : Int) (a11 : Nat) (fn : Int) (a13 : Nat) (lm : Int) (a15 : Nat) (a16 : Nat) (a17 : Nat) (a18 : Nat) (a19 : Nat) (a20 : Nat) (q : Int → Int) (v : Int) (hn : 0 ≤ nn ∧ nn ≤ 40) (hq : BD q) (hv : -2147483648 ≤ v ∧ v ≤ 2147483647) : MQc l yX11_number wsX11_number 1 G [.ref x, .int (iI v)] [(x, .inr (9, [.int (iI ln), .ref a1, .int (iI pl), .ref a3, .ref a4, .int (iI ri), .int (iI ld), .int (iI mn), .ref a8, .ref a9, .int (iI nn), .ref a11, .int (iI fn), .ref a13, .int (iI lm), .ref a15, .ref a16, .ref a17, .ref a18, .ref a19, .ref a20])), (a11, .inl (G.2.1 0, 40, .inl (iA q)))] (fun r (u : Int × (Int → Int)) => ∃ z : Int, r = some (.int (iI z)) ∧ (¬ (0 ≤ v ∧ v ≤ 60000) → z = -1 ∧ u.1 = nn ∧ u.2 = q) ∧ (0 ≤ v ∧ v ≤ 60000 → (nn < 40 → z = nn + 1 ∧ u.1 = nn + 1 ∧ u.2 = up q nn v) ∧ (¬ nn < 40 → z = -3 ∧ u.1 = nn ∧ u.2 = q)) ∧ (BD u.2)) (fun u => [(x, .inr (9, [.int (iI ln), .ref a1, .int (iI pl), .ref a3, .ref a4, .int (iI ri), .int (iI ld), .int (iI mn), .ref a8, .ref a9, .int (iI u.1), .ref a11, .int (iI fn), .ref a13, .int (iI lm), .ref a15, .ref a16, .ref a17, .ref a18, .ref a19, .ref a20])), (a11, .inl (G.2.1 0, 40, .inl (iA u.2)))]) := by
  refine MQc.start (own := RX11) (by decide) rfl rfl (Nat.le_of_ble_eq_true rfl) ?_
  intro p9 e9 s9 m9 args below meth c9 A Q C hK hW hA hr hlocks hQ ls hl
  have hl : lv_has ls 2 [(0, .ref x), (1, .int (iI v))] := hl
  have hin11 : ∀ w ∈ wsX110, w ∈ wsX11_number := by decide +kernel
  refine lv_iload_n C.1 C.2.1 dX11_number_0 rfl (lv_at hl 1 rfl) ?_
  refine z_i2l C dX11_number_1 (by omega) ?_
  refine lv_lconst (v := lI 0) C.1 C.2.1 dX11_number_2 rfl ?_
  refine z_ldc2 (z := 60000) C (C.2.2.2.2 (.constantLong RX11 129 (60000)) (List.mem_of_getElem? (i := 1) rfl)) (by decide +kernel) dX11_number_3 ?_
  refine z_callR (va_runS (As := [.long (lI v), .long (lI 0), .long (lI 60000)]) (rest := []) C (c_X11_in l G v 0 60000 (by first | omega | assumption | (intros; first | rfl | omega | assumption | (and_intros <;> first | rfl | omega | assumption))) (by first | omega | assumption | (intros; first | rfl | omega | assumption | (and_intros <;> first | rfl | omega | assumption))) (by first | omega | assumption | (intros; first | rfl | omega | assumption | (and_intros <;> first | rfl | omega | assumption))) s9.heap.size) (va_cwS 3 C.2.2.2.2 gX11_number_X11_in rfl rfl rfl (by decide +kernel) ⟨Nat.le_of_ble_eq_true rfl, Nat.le_of_ble_eq_true rfl⟩) (z_preS hK hW hA [] rfl (by decide)) rfl rfl hl.1 rfl (lv_room (Nat.le_of_ble_eq_true rfl)) dX11_number_6 ⟨Nat.zero_le _, Nat.zero_le _⟩) (fun r hp => ?_)
  have hp : ∃ z : Int, r = some (.int (iI z)) ∧ ((z = 1 ∧ ((0 : Int) ≤ v ∧ v ≤ (60000 : Int))) ∨ (z = 0 ∧ ¬ ((0 : Int) ≤ v ∧ v ≤ (60000 : Int)))) := hp
  obtain ⟨z_6, rfl, hz_6_0⟩ := hp
  refine z_if_ne (tgt := 14) C dX11_number_9 (by decide) (by omega) (fun c_9 => ?_) (fun c_9 => ?_)
  ·
    refine lv_aload_n C.1 C.2.1 dX11_number_14 rfl (lv_at hl 0 rfl) ?_
    refine z_get C hK hW hin11 (v := .int (iI nn)) 0 rfl rfl 10 (by decide) (C.2.2.2.2 (.fieldLink RX11 133 "TellingRowsModel" "numbers" "I") (List.mem_of_getElem? (i := 2) rfl)) (fun _ h9 => h9) rfl dX11_number_15 ?_
    refine lv_bipush (v := iI 40) C.1 C.2.1 dX11_number_18 (by decide +kernel) ?_
    refine z_icmp_ne (tgt := 26) C dX11_number_20 (by decide) (by omega) (fun c_20 => ?_) (fun c_20 => ?_)
    ·
      refine lv_aload_n C.1 C.2.1 dX11_number_26 rfl (lv_at hl 0 rfl) ?_
      refine z_get C hK hW hin11 (v := .ref a11) 0 rfl rfl 11 (by decide) (C.2.2.2.2 (.fieldLink RX11 31 "TellingRowsModel" "number" "[I") (List.mem_of_getElem? (i := 3) rfl)) (fun _ h9 => h9) rfl dX11_number_27 ?_
      refine lv_aload_n C.1 C.2.1 dX11_number_30 rfl (lv_at hl 0 rfl) ?_
      refine z_get C hK hW hin11 (v := .int (iI nn)) 0 rfl rfl 10 (by decide) (C.2.2.2.2 (.fieldLink RX11 133 "TellingRowsModel" "numbers" "I") (List.mem_of_getElem? (i := 2) rfl)) (fun _ h9 => h9) rfl dX11_number_31 ?_
      refine lv_iload_n C.1 C.2.1 dX11_number_34 rfl (lv_at hl 1 rfl) ?_
      refine z_iast C hK hW 1 rfl (by omega) (by omega) dX11_number_35 (fun H locs hW => ?_)
      have hbd_35 : BD (up q nn v) := BD.up hq (by omega)
      have hW : Wd G A s9.heap [(x, .inr (9, [.int (iI ln), .ref a1, .int (iI pl), .ref a3, .ref a4, .int (iI ri), .int (iI ld), .int (iI mn), .ref a8, .ref a9, .int (iI nn), .ref a11, .int (iI fn), .ref a13, .int (iI lm), .ref a15, .ref a16, .ref a17, .ref a18, .ref a19, .ref a20])), (a11, .inl (G.2.1 0, 40, .inl (iA (up q nn v))))] H locs := hW
      refine lv_aload_n C.1 C.2.1 dX11_number_36 rfl (lv_at hl 0 rfl) ?_
      refine lv_dup C.1 C.2.1 dX11_number_37 rfl ?_
      refine z_get C hK hW hin11 (v := .int (iI nn)) 0 rfl rfl 10 (by decide) (C.2.2.2.2 (.fieldLink RX11 133 "TellingRowsModel" "numbers" "I") (List.mem_of_getElem? (i := 2) rfl)) (fun _ h9 => h9) rfl dX11_number_38 ?_
      refine lv_iconst (v := iI 1) C.1 C.2.1 dX11_number_41 rfl ?_
      refine z_iadd C dX11_number_42 ?_
      refine z_put C hK hW hin11 tyX11 tyX11_ok nmX11 0 rfl rfl 10 (by decide) (C.2.2.2.2 (.fieldLink RX11 133 "TellingRowsModel" "numbers" "I") (List.mem_of_getElem? (i := 2) rfl)) (fun _ h9 => h9) rfl rfl rfl (Nat.le_of_ble_eq_true rfl) dX11_number_43 (fun H locs hW => ?_)
      have hW : Wd G A s9.heap [(x, .inr (9, [.int (iI ln), .ref a1, .int (iI pl), .ref a3, .ref a4, .int (iI ri), .int (iI ld), .int (iI mn), .ref a8, .ref a9, .int (iI (nn + 1)), .ref a11, .int (iI fn), .ref a13, .int (iI lm), .ref a15, .ref a16, .ref a17, .ref a18, .ref a19, .ref a20])), (a11, .inl (G.2.1 0, 40, .inl (iA (up q nn v))))] H locs := hW
      refine lv_aload_n C.1 C.2.1 dX11_number_46 rfl (lv_at hl 0 rfl) ?_
      refine z_get C hK hW hin11 (v := .int (iI (nn + 1))) 0 rfl rfl 10 (by decide) (C.2.2.2.2 (.fieldLink RX11 133 "TellingRowsModel" "numbers" "I") (List.mem_of_getElem? (i := 2) rfl)) (fun _ h9 => h9) rfl dX11_number_47 ?_
      rw [hQ]
      have hP9 : ∃ z : Int, (some (Value.int (iI (nn + 1)))) = some (.int (iI z)) ∧ (¬ (0 ≤ v ∧ v ≤ 60000) → z = -1 ∧ (nn + 1) = nn ∧ (up q nn v) = q) ∧ (0 ≤ v ∧ v ≤ 60000 → (nn < 40 → z = nn + 1 ∧ (nn + 1) = nn + 1 ∧ (up q nn v) = up q nn v) ∧ (¬ nn < 40 → z = -3 ∧ (nn + 1) = nn ∧ (up q nn v) = q)) ∧ (BD (up q nn v)) := ⟨_, rfl, (by first | exact fun _ => ⟨rfl, rfl, rfl⟩ | exact fun q9 => by omega), (by first | exact fun q9 => by omega | exact fun _ => ⟨fun q8 => by first | omega | exact ⟨rfl, rfl, rfl⟩, fun q8 => by first | omega | exact ⟨rfl, rfl, rfl⟩⟩), hbd_35⟩
      exact z_iret C hr hlocks hW (nn + 1, (up q nn v)) rfl hP9 dX11_number_50
    ·
      refine lv_bipush (v := iI (-3)) C.1 C.2.1 dX11_number_23 (by decide +kernel) ?_
      rw [hQ]
      have hP9 : ∃ z : Int, (some (Value.int (iI (-3)))) = some (.int (iI z)) ∧ (¬ (0 ≤ v ∧ v ≤ 60000) → z = -1 ∧ nn = nn ∧ q = q) ∧ (0 ≤ v ∧ v ≤ 60000 → (nn < 40 → z = nn + 1 ∧ nn = nn + 1 ∧ q = up q nn v) ∧ (¬ nn < 40 → z = -3 ∧ nn = nn ∧ q = q)) ∧ (BD q) := ⟨_, rfl, (by first | exact fun _ => ⟨rfl, rfl, rfl⟩ | exact fun q9 => by omega), (by first | exact fun q9 => by omega | exact fun _ => ⟨fun q8 => by first | omega | exact ⟨rfl, rfl, rfl⟩, fun q8 => by first | omega | exact ⟨rfl, rfl, rfl⟩⟩), hq⟩
      exact z_iret C hr hlocks hW (nn, q) rfl hP9 dX11_number_25
  ·
    refine lv_iconst (v := iI (-1)) C.1 C.2.1 dX11_number_12 rfl ?_
    rw [hQ]
    have hP9 : ∃ z : Int, (some (Value.int (iI (-1)))) = some (.int (iI z)) ∧ (¬ (0 ≤ v ∧ v ≤ 60000) → z = -1 ∧ nn = nn ∧ q = q) ∧ (0 ≤ v ∧ v ≤ 60000 → (nn < 40 → z = nn + 1 ∧ nn = nn + 1 ∧ q = up q nn v) ∧ (¬ nn < 40 → z = -3 ∧ nn = nn ∧ q = q)) ∧ (BD q) := ⟨_, rfl, (by first | exact fun _ => ⟨rfl, rfl, rfl⟩ | exact fun q9 => by omega), (by first | exact fun q9 => by omega | exact fun _ => ⟨fun q8 => by first | omega | exact ⟨rfl, rfl, rfl⟩, fun q8 => by first | omega | exact ⟨rfl, rfl, rfl⟩⟩), hq⟩
    exact z_iret C hr hlocks hW (nn, q) rfl hP9 dX11_number_13
set_option maxHeartbeats 4000000 in
set_option maxRecDepth 100000 in
/-- X11_figure -/
theorem c_X11_figure (l : Launch) (G : GG) (x : Nat) (ln : Int) (a1 : Nat) (pl : Int) (a3 : Nat) (a4 : Nat) (ri : Int) (ld : Int) (mn : Int) (a8 : Nat) (a9 : Nat) (nn : Int) (a11 : Nat) (fn : Int) (a13 : Nat) (lm : Int) (a15 : Nat) (a16 : Nat) (a17 : Nat) (a18 : Nat) (a19 : Nat) (a20 : Nat) (q : Int → Int) (v : Int) (hn : 0 ≤ fn ∧ fn ≤ 40) (hq : BD q) (hv : -2147483648 ≤ v ∧ v ≤ 2147483647) : MQc l yX11_figure wsX11_figure 1 G [.ref x, .int (iI v)] [(x, .inr (9, [.int (iI ln), .ref a1, .int (iI pl), .ref a3, .ref a4, .int (iI ri), .int (iI ld), .int (iI mn), .ref a8, .ref a9, .int (iI nn), .ref a11, .int (iI fn), .ref a13, .int (iI lm), .ref a15, .ref a16, .ref a17, .ref a18, .ref a19, .ref a20])), (a13, .inl (G.2.1 0, 40, .inl (iA q)))] (fun r (u : Int × (Int → Int)) => ∃ z : Int, r = some (.int (iI z)) ∧ (¬ (1 ≤ v ∧ v ≤ 9) → z = -1 ∧ u.1 = fn ∧ u.2 = q) ∧ (1 ≤ v ∧ v ≤ 9 → (fn < 40 → z = fn + 1 ∧ u.1 = fn + 1 ∧ u.2 = up q fn v) ∧ (¬ fn < 40 → z = -3 ∧ u.1 = fn ∧ u.2 = q)) ∧ (BD u.2)) (fun u => [(x, .inr (9, [.int (iI ln), .ref a1, .int (iI pl), .ref a3, .ref a4, .int (iI ri), .int (iI ld), .int (iI mn), .ref a8, .ref a9, .int (iI nn), .ref a11, .int (iI u.1), .ref a13, .int (iI lm), .ref a15, .ref a16, .ref a17, .ref a18, .ref a19, .ref a20])), (a13, .inl (G.2.1 0, 40, .inl (iA u.2)))]) := by
  refine MQc.start (own := RX11) (by decide) rfl rfl (Nat.le_of_ble_eq_true rfl) ?_
  intro p9 e9 s9 m9 args below meth c9 A Q C hK hW hA hr hlocks hQ ls hl
  have hl : lv_has ls 2 [(0, .ref x), (1, .int (iI v))] := hl
  have hin11 : ∀ w ∈ wsX110, w ∈ wsX11_figure := by decide +kernel
  refine lv_iload_n C.1 C.2.1 dX11_figure_0 rfl (lv_at hl 1 rfl) ?_
  refine z_i2l C dX11_figure_1 (by omega) ?_
  refine lv_lconst (v := lI 1) C.1 C.2.1 dX11_figure_2 rfl ?_
  refine z_ldc2 (z := 9) C (C.2.2.2.2 (.constantLong RX11 139 (9)) (List.mem_of_getElem? (i := 1) rfl)) (by decide +kernel) dX11_figure_3 ?_
  refine z_callR (va_runS (As := [.long (lI v), .long (lI 1), .long (lI 9)]) (rest := []) C (c_X11_in l G v 1 9 (by first | omega | assumption | (intros; first | rfl | omega | assumption | (and_intros <;> first | rfl | omega | assumption))) (by first | omega | assumption | (intros; first | rfl | omega | assumption | (and_intros <;> first | rfl | omega | assumption))) (by first | omega | assumption | (intros; first | rfl | omega | assumption | (and_intros <;> first | rfl | omega | assumption))) s9.heap.size) (va_cwS 3 C.2.2.2.2 gX11_figure_X11_in rfl rfl rfl (by decide +kernel) ⟨Nat.le_of_ble_eq_true rfl, Nat.le_of_ble_eq_true rfl⟩) (z_preS hK hW hA [] rfl (by decide)) rfl rfl hl.1 rfl (lv_room (Nat.le_of_ble_eq_true rfl)) dX11_figure_6 ⟨Nat.zero_le _, Nat.zero_le _⟩) (fun r hp => ?_)
  have hp : ∃ z : Int, r = some (.int (iI z)) ∧ ((z = 1 ∧ ((1 : Int) ≤ v ∧ v ≤ (9 : Int))) ∨ (z = 0 ∧ ¬ ((1 : Int) ≤ v ∧ v ≤ (9 : Int)))) := hp
  obtain ⟨z_6, rfl, hz_6_0⟩ := hp
  refine z_if_ne (tgt := 14) C dX11_figure_9 (by decide) (by omega) (fun c_9 => ?_) (fun c_9 => ?_)
  ·
    refine lv_aload_n C.1 C.2.1 dX11_figure_14 rfl (lv_at hl 0 rfl) ?_
    refine z_get C hK hW hin11 (v := .int (iI fn)) 0 rfl rfl 12 (by decide) (C.2.2.2.2 (.fieldLink RX11 141 "TellingRowsModel" "figures" "I") (List.mem_of_getElem? (i := 2) rfl)) (fun _ h9 => h9) rfl dX11_figure_15 ?_
    refine lv_bipush (v := iI 40) C.1 C.2.1 dX11_figure_18 (by decide +kernel) ?_
    refine z_icmp_ne (tgt := 26) C dX11_figure_20 (by decide) (by omega) (fun c_20 => ?_) (fun c_20 => ?_)
    ·
      refine lv_aload_n C.1 C.2.1 dX11_figure_26 rfl (lv_at hl 0 rfl) ?_
      refine z_get C hK hW hin11 (v := .ref a13) 0 rfl rfl 13 (by decide) (C.2.2.2.2 (.fieldLink RX11 34 "TellingRowsModel" "figure" "[I") (List.mem_of_getElem? (i := 3) rfl)) (fun _ h9 => h9) rfl dX11_figure_27 ?_
      refine lv_aload_n C.1 C.2.1 dX11_figure_30 rfl (lv_at hl 0 rfl) ?_
      refine z_get C hK hW hin11 (v := .int (iI fn)) 0 rfl rfl 12 (by decide) (C.2.2.2.2 (.fieldLink RX11 141 "TellingRowsModel" "figures" "I") (List.mem_of_getElem? (i := 2) rfl)) (fun _ h9 => h9) rfl dX11_figure_31 ?_
      refine lv_iload_n C.1 C.2.1 dX11_figure_34 rfl (lv_at hl 1 rfl) ?_
      refine z_iast C hK hW 1 rfl (by omega) (by omega) dX11_figure_35 (fun H locs hW => ?_)
      have hbd_35 : BD (up q fn v) := BD.up hq (by omega)
      have hW : Wd G A s9.heap [(x, .inr (9, [.int (iI ln), .ref a1, .int (iI pl), .ref a3, .ref a4, .int (iI ri), .int (iI ld), .int (iI mn), .ref a8, .ref a9, .int (iI nn), .ref a11, .int (iI fn), .ref a13, .int (iI lm), .ref a15, .ref a16, .ref a17, .ref a18, .ref a19, .ref a20])), (a13, .inl (G.2.1 0, 40, .inl (iA (up q fn v))))] H locs := hW
      refine lv_aload_n C.1 C.2.1 dX11_figure_36 rfl (lv_at hl 0 rfl) ?_
      refine lv_dup C.1 C.2.1 dX11_figure_37 rfl ?_
      refine z_get C hK hW hin11 (v := .int (iI fn)) 0 rfl rfl 12 (by decide) (C.2.2.2.2 (.fieldLink RX11 141 "TellingRowsModel" "figures" "I") (List.mem_of_getElem? (i := 2) rfl)) (fun _ h9 => h9) rfl dX11_figure_38 ?_
      refine lv_iconst (v := iI 1) C.1 C.2.1 dX11_figure_41 rfl ?_
      refine z_iadd C dX11_figure_42 ?_
      refine z_put C hK hW hin11 tyX11 tyX11_ok nmX11 0 rfl rfl 12 (by decide) (C.2.2.2.2 (.fieldLink RX11 141 "TellingRowsModel" "figures" "I") (List.mem_of_getElem? (i := 2) rfl)) (fun _ h9 => h9) rfl rfl rfl (Nat.le_of_ble_eq_true rfl) dX11_figure_43 (fun H locs hW => ?_)
      have hW : Wd G A s9.heap [(x, .inr (9, [.int (iI ln), .ref a1, .int (iI pl), .ref a3, .ref a4, .int (iI ri), .int (iI ld), .int (iI mn), .ref a8, .ref a9, .int (iI nn), .ref a11, .int (iI (fn + 1)), .ref a13, .int (iI lm), .ref a15, .ref a16, .ref a17, .ref a18, .ref a19, .ref a20])), (a13, .inl (G.2.1 0, 40, .inl (iA (up q fn v))))] H locs := hW
      refine lv_aload_n C.1 C.2.1 dX11_figure_46 rfl (lv_at hl 0 rfl) ?_
      refine z_get C hK hW hin11 (v := .int (iI (fn + 1))) 0 rfl rfl 12 (by decide) (C.2.2.2.2 (.fieldLink RX11 141 "TellingRowsModel" "figures" "I") (List.mem_of_getElem? (i := 2) rfl)) (fun _ h9 => h9) rfl dX11_figure_47 ?_
      rw [hQ]
      have hP9 : ∃ z : Int, (some (Value.int (iI (fn + 1)))) = some (.int (iI z)) ∧ (¬ (1 ≤ v ∧ v ≤ 9) → z = -1 ∧ (fn + 1) = fn ∧ (up q fn v) = q) ∧ (1 ≤ v ∧ v ≤ 9 → (fn < 40 → z = fn + 1 ∧ (fn + 1) = fn + 1 ∧ (up q fn v) = up q fn v) ∧ (¬ fn < 40 → z = -3 ∧ (fn + 1) = fn ∧ (up q fn v) = q)) ∧ (BD (up q fn v)) := ⟨_, rfl, (by first | exact fun _ => ⟨rfl, rfl, rfl⟩ | exact fun q9 => by omega), (by first | exact fun q9 => by omega | exact fun _ => ⟨fun q8 => by first | omega | exact ⟨rfl, rfl, rfl⟩, fun q8 => by first | omega | exact ⟨rfl, rfl, rfl⟩⟩), hbd_35⟩
      exact z_iret C hr hlocks hW (fn + 1, (up q fn v)) rfl hP9 dX11_figure_50
    ·
      refine lv_bipush (v := iI (-3)) C.1 C.2.1 dX11_figure_23 (by decide +kernel) ?_
      rw [hQ]
      have hP9 : ∃ z : Int, (some (Value.int (iI (-3)))) = some (.int (iI z)) ∧ (¬ (1 ≤ v ∧ v ≤ 9) → z = -1 ∧ fn = fn ∧ q = q) ∧ (1 ≤ v ∧ v ≤ 9 → (fn < 40 → z = fn + 1 ∧ fn = fn + 1 ∧ q = up q fn v) ∧ (¬ fn < 40 → z = -3 ∧ fn = fn ∧ q = q)) ∧ (BD q) := ⟨_, rfl, (by first | exact fun _ => ⟨rfl, rfl, rfl⟩ | exact fun q9 => by omega), (by first | exact fun q9 => by omega | exact fun _ => ⟨fun q8 => by first | omega | exact ⟨rfl, rfl, rfl⟩, fun q8 => by first | omega | exact ⟨rfl, rfl, rfl⟩⟩), hq⟩
      exact z_iret C hr hlocks hW (fn, q) rfl hP9 dX11_figure_25
  ·
    refine lv_iconst (v := iI (-1)) C.1 C.2.1 dX11_figure_12 rfl ?_
    rw [hQ]
    have hP9 : ∃ z : Int, (some (Value.int (iI (-1)))) = some (.int (iI z)) ∧ (¬ (1 ≤ v ∧ v ≤ 9) → z = -1 ∧ fn = fn ∧ q = q) ∧ (1 ≤ v ∧ v ≤ 9 → (fn < 40 → z = fn + 1 ∧ fn = fn + 1 ∧ q = up q fn v) ∧ (¬ fn < 40 → z = -3 ∧ fn = fn ∧ q = q)) ∧ (BD q) := ⟨_, rfl, (by first | exact fun _ => ⟨rfl, rfl, rfl⟩ | exact fun q9 => by omega), (by first | exact fun q9 => by omega | exact fun _ => ⟨fun q8 => by first | omega | exact ⟨rfl, rfl, rfl⟩, fun q8 => by first | omega | exact ⟨rfl, rfl, rfl⟩⟩), hq⟩
    exact z_iret C hr hlocks hW (fn, q) rfl hP9 dX11_figure_13
set_option maxHeartbeats 4000000 in
set_option maxRecDepth 100000 in
/-- told -/
theorem c_X11_told (l : Launch) (G : GG) (x : Nat) (ln : Int) (a1 : Nat) (pl : Int) (a3 : Nat) (a4 : Nat) (ri : Int) (ld : Int) (mn : Int) (a8 : Nat) (a9 : Nat) (nn : Int) (a11 : Nat) (fn : Int) (a13 : Nat) (lm : Int) (a15 : Nat) (a16 : Nat) (a17 : Nat) (a18 : Nat) (a19 : Nat) (a20 : Nat) (g : Int → Int) (rr : Int) (w : Int) (hg : BD g) (hrr : -2147483648 ≤ rr ∧ rr ≤ 2147483647) (hw : -2147483648 ≤ w ∧ w ≤ 2147483647) : MRc l yX11_told wsX11_told 2 G [.ref x, .int (iI rr), .int (iI w)] [(x, .inr (9, [.int (iI ln), .ref a1, .int (iI pl), .ref a3, .ref a4, .int (iI ri), .int (iI ld), .int (iI mn), .ref a8, .ref a9, .int (iI nn), .ref a11, .int (iI fn), .ref a13, .int (iI lm), .ref a15, .ref a16, .ref a17, .ref a18, .ref a19, .ref a20])), (a3, .inl (G.2.1 0, 32, .inl (iA g)))] (fun r => ∃ z : Int, r = some (.int (iI z)) ∧ (¬ ((0 ≤ rr ∧ rr ≤ 3) ∧ (0 ≤ w ∧ w ≤ 7)) → z = -1) ∧ ((0 ≤ rr ∧ rr ≤ 3) ∧ 0 ≤ w ∧ w < 2 → z = g (8 * rr + w)) ∧ ((0 ≤ rr ∧ rr ≤ 3) ∧ 2 ≤ w ∧ w ≤ 7 → (w - 2 < g (8 * rr + 1) → z = g (8 * rr + w)) ∧ (¬ (w - 2 < g (8 * rr + 1)) → z = -4))) := by
  refine MRc.start (own := RX11) (by decide) rfl rfl (Nat.le_of_ble_eq_true rfl) ?_
  intro p9 e9 s9 m9 args below meth c9 A Q C hK hW hA hr hlocks hQ ls hl
  have hl : lv_has ls 3 [(0, .ref x), (1, .int (iI rr)), (2, .int (iI w))] := hl
  have hin11 : ∀ w ∈ wsX110, w ∈ wsX11_told := by decide +kernel
  refine lv_iload_n C.1 C.2.1 dX11_told_0 rfl (lv_at hl 1 rfl) ?_
  refine z_callR (va_runS (As := [.int (iI rr)]) (rest := []) C (c_X11_isRegister l G rr hrr s9.heap.size) (va_cwS 1 C.2.2.2.2 gX11_told_X11_isRegister rfl rfl rfl (by decide +kernel) ⟨Nat.le_of_ble_eq_true rfl, Nat.le_of_ble_eq_true rfl⟩) (z_preS hK hW hA [] rfl (by decide)) rfl rfl hl.1 rfl (lv_room (Nat.le_of_ble_eq_true rfl)) dX11_told_1 ⟨Nat.zero_le _, Nat.zero_le _⟩) (fun r hp => ?_)
  have hp : ∃ z : Int, r = some (.int (iI z)) ∧ ((z = 1 ∧ (0 ≤ rr ∧ rr ≤ 3)) ∨ (z = 0 ∧ ¬ (0 ≤ rr ∧ rr ≤ 3))) := hp
  obtain ⟨z_1, rfl, hz_1_0⟩ := hp
  refine z_if_eq (tgt := 19) C dX11_told_4 (by decide) (by omega) (fun c_4 => ?_) (fun c_4 => ?_)
  ·
    refine lv_iconst (v := iI (-1)) C.1 C.2.1 dX11_told_19 rfl ?_
    rw [hQ]
    have hP9 : ∃ z : Int, (some (Value.int (iI (-1)))) = some (.int (iI z)) ∧ (¬ ((0 ≤ rr ∧ rr ≤ 3) ∧ (0 ≤ w ∧ w ≤ 7)) → z = -1) ∧ ((0 ≤ rr ∧ rr ≤ 3) ∧ 0 ≤ w ∧ w < 2 → z = g (8 * rr + w)) ∧ ((0 ≤ rr ∧ rr ≤ 3) ∧ 2 ≤ w ∧ w ≤ 7 → (w - 2 < g (8 * rr + 1) → z = g (8 * rr + w)) ∧ (¬ (w - 2 < g (8 * rr + 1)) → z = -4)) := ⟨_, rfl, (fun q9 => by omega), (fun q9 => by first | omega | rfl), (fun q9 => by first | omega | exact ⟨fun q8 => by first | omega | rfl, fun q8 => by first | omega | rfl⟩)⟩
    exact z_iretR C hr hlocks hP9 dX11_told_20
  ·
    refine lv_iload_n C.1 C.2.1 dX11_told_7 rfl (lv_at hl 2 rfl) ?_
    refine z_i2l C dX11_told_8 (by omega) ?_
    refine lv_lconst (v := lI 0) C.1 C.2.1 dX11_told_9 rfl ?_
    refine z_ldc2 (z := 7) C (C.2.2.2.2 (.constantLong RX11 99 (7)) (List.mem_of_getElem? (i := 1) rfl)) (by decide +kernel) dX11_told_10 ?_
    refine z_callR (va_runS (As := [.long (lI w), .long (lI 0), .long (lI 7)]) (rest := []) C (c_X11_in l G w 0 7 (by first | omega | assumption | (intros; first | rfl | omega | assumption | (and_intros <;> first | rfl | omega | assumption))) (by first | omega | assumption | (intros; first | rfl | omega | assumption | (and_intros <;> first | rfl | omega | assumption))) (by first | omega | assumption | (intros; first | rfl | omega | assumption | (and_intros <;> first | rfl | omega | assumption))) s9.heap.size) (va_cwS 3 C.2.2.2.2 gX11_told_X11_in rfl rfl rfl (by decide +kernel) ⟨Nat.le_of_ble_eq_true rfl, Nat.le_of_ble_eq_true rfl⟩) (z_preS hK hW hA [] rfl (by decide)) rfl rfl hl.1 rfl (lv_room (Nat.le_of_ble_eq_true rfl)) dX11_told_13 ⟨Nat.zero_le _, Nat.zero_le _⟩) (fun r hp => ?_)
    have hp : ∃ z : Int, r = some (.int (iI z)) ∧ ((z = 1 ∧ ((0 : Int) ≤ w ∧ w ≤ (7 : Int))) ∨ (z = 0 ∧ ¬ ((0 : Int) ≤ w ∧ w ≤ (7 : Int)))) := hp
    obtain ⟨z_13, rfl, hz_13_0⟩ := hp
    refine z_if_ne (tgt := 21) C dX11_told_16 (by decide) (by omega) (fun c_16 => ?_) (fun c_16 => ?_)
    ·
      refine lv_iload_n C.1 C.2.1 dX11_told_21 rfl (lv_at hl 2 rfl) ?_
      refine lv_iconst (v := iI 2) C.1 C.2.1 dX11_told_22 rfl ?_
      refine z_icmp_ge (tgt := 40) C dX11_told_23 (by decide) (by omega) (fun c_23 => ?_) (fun c_23 => ?_)
      ·
        refine lv_iload_n C.1 C.2.1 dX11_told_40 rfl (lv_at hl 2 rfl) ?_
        refine lv_iconst (v := iI 2) C.1 C.2.1 dX11_told_41 rfl ?_
        refine z_isub C dX11_told_42 ?_
        refine lv_aload_n C.1 C.2.1 dX11_told_43 rfl (lv_at hl 0 rfl) ?_
        refine z_get C hK hW hin11 (v := .ref a3) 0 rfl rfl 3 (by decide) (C.2.2.2.2 (.fieldLink RX11 13 "TellingRowsModel" "law" "[I") (List.mem_of_getElem? (i := 2) rfl)) (fun _ h9 => h9) rfl dX11_told_44 ?_
        refine lv_bipush (v := iI 8) C.1 C.2.1 dX11_told_47 (by decide +kernel) ?_
        refine lv_iload_n C.1 C.2.1 dX11_told_49 rfl (lv_at hl 1 rfl) ?_
        refine z_imul C dX11_told_50 ?_
        refine lv_iconst (v := iI 1) C.1 C.2.1 dX11_told_51 rfl ?_
        refine z_iadd C dX11_told_52 ?_
        refine z_iald C hK hW 1 rfl (by omega) (by omega) dX11_told_53 ?_
        have hb_53 := hg ((8 * rr) + 1)
        refine z_icmp_ge (tgt := 71) C dX11_told_54 (by decide) (by omega) (fun c_54 => ?_) (fun c_54 => ?_)
        ·
          refine lv_bipush (v := iI (-4)) C.1 C.2.1 dX11_told_71 (by decide +kernel) ?_
          rw [hQ]
          have hP9 : ∃ z : Int, (some (Value.int (iI (-4)))) = some (.int (iI z)) ∧ (¬ ((0 ≤ rr ∧ rr ≤ 3) ∧ (0 ≤ w ∧ w ≤ 7)) → z = -1) ∧ ((0 ≤ rr ∧ rr ≤ 3) ∧ 0 ≤ w ∧ w < 2 → z = g (8 * rr + w)) ∧ ((0 ≤ rr ∧ rr ≤ 3) ∧ 2 ≤ w ∧ w ≤ 7 → (w - 2 < g (8 * rr + 1) → z = g (8 * rr + w)) ∧ (¬ (w - 2 < g (8 * rr + 1)) → z = -4)) := ⟨_, rfl, (fun q9 => by omega), (fun q9 => by first | omega | rfl), (fun q9 => by first | omega | exact ⟨fun q8 => by first | omega | rfl, fun q8 => by first | omega | rfl⟩)⟩
          exact z_iretR C hr hlocks hP9 dX11_told_73
        ·
          refine lv_aload_n C.1 C.2.1 dX11_told_57 rfl (lv_at hl 0 rfl) ?_
          refine z_get C hK hW hin11 (v := .ref a3) 0 rfl rfl 3 (by decide) (C.2.2.2.2 (.fieldLink RX11 13 "TellingRowsModel" "law" "[I") (List.mem_of_getElem? (i := 2) rfl)) (fun _ h9 => h9) rfl dX11_told_58 ?_
          refine lv_bipush (v := iI 8) C.1 C.2.1 dX11_told_61 (by decide +kernel) ?_
          refine lv_iload_n C.1 C.2.1 dX11_told_63 rfl (lv_at hl 1 rfl) ?_
          refine z_imul C dX11_told_64 ?_
          refine lv_iload_n C.1 C.2.1 dX11_told_65 rfl (lv_at hl 2 rfl) ?_
          refine z_iadd C dX11_told_66 ?_
          refine z_iald C hK hW 1 rfl (by omega) (by omega) dX11_told_67 ?_
          have hb_67 := hg ((8 * rr) + w)
          refine lv_goto (tgt := 73) C.1 C.2.1 dX11_told_68 (by decide) ?_
          rw [hQ]
          have hP9 : ∃ z : Int, (some (Value.int (iI (g ((8 * rr) + w))))) = some (.int (iI z)) ∧ (¬ ((0 ≤ rr ∧ rr ≤ 3) ∧ (0 ≤ w ∧ w ≤ 7)) → z = -1) ∧ ((0 ≤ rr ∧ rr ≤ 3) ∧ 0 ≤ w ∧ w < 2 → z = g (8 * rr + w)) ∧ ((0 ≤ rr ∧ rr ≤ 3) ∧ 2 ≤ w ∧ w ≤ 7 → (w - 2 < g (8 * rr + 1) → z = g (8 * rr + w)) ∧ (¬ (w - 2 < g (8 * rr + 1)) → z = -4)) := ⟨_, rfl, (fun q9 => by omega), (fun q9 => by first | omega | rfl), (fun q9 => by first | omega | exact ⟨fun q8 => by first | omega | rfl, fun q8 => by first | omega | rfl⟩)⟩
          exact z_iretR C hr hlocks hP9 dX11_told_73
      ·
        refine lv_aload_n C.1 C.2.1 dX11_told_26 rfl (lv_at hl 0 rfl) ?_
        refine z_get C hK hW hin11 (v := .ref a3) 0 rfl rfl 3 (by decide) (C.2.2.2.2 (.fieldLink RX11 13 "TellingRowsModel" "law" "[I") (List.mem_of_getElem? (i := 2) rfl)) (fun _ h9 => h9) rfl dX11_told_27 ?_
        refine lv_bipush (v := iI 8) C.1 C.2.1 dX11_told_30 (by decide +kernel) ?_
        refine lv_iload_n C.1 C.2.1 dX11_told_32 rfl (lv_at hl 1 rfl) ?_
        refine z_imul C dX11_told_33 ?_
        refine lv_iload_n C.1 C.2.1 dX11_told_34 rfl (lv_at hl 2 rfl) ?_
        refine z_iadd C dX11_told_35 ?_
        refine z_iald C hK hW 1 rfl (by omega) (by omega) dX11_told_36 ?_
        have hb_36 := hg ((8 * rr) + w)
        refine lv_goto (tgt := 73) C.1 C.2.1 dX11_told_37 (by decide) ?_
        rw [hQ]
        have hP9 : ∃ z : Int, (some (Value.int (iI (g ((8 * rr) + w))))) = some (.int (iI z)) ∧ (¬ ((0 ≤ rr ∧ rr ≤ 3) ∧ (0 ≤ w ∧ w ≤ 7)) → z = -1) ∧ ((0 ≤ rr ∧ rr ≤ 3) ∧ 0 ≤ w ∧ w < 2 → z = g (8 * rr + w)) ∧ ((0 ≤ rr ∧ rr ≤ 3) ∧ 2 ≤ w ∧ w ≤ 7 → (w - 2 < g (8 * rr + 1) → z = g (8 * rr + w)) ∧ (¬ (w - 2 < g (8 * rr + 1)) → z = -4)) := ⟨_, rfl, (fun q9 => by omega), (fun q9 => by first | omega | rfl), (fun q9 => by first | omega | exact ⟨fun q8 => by first | omega | rfl, fun q8 => by first | omega | rfl⟩)⟩
        exact z_iretR C hr hlocks hP9 dX11_told_73
    ·
      refine lv_iconst (v := iI (-1)) C.1 C.2.1 dX11_told_19 rfl ?_
      rw [hQ]
      have hP9 : ∃ z : Int, (some (Value.int (iI (-1)))) = some (.int (iI z)) ∧ (¬ ((0 ≤ rr ∧ rr ≤ 3) ∧ (0 ≤ w ∧ w ≤ 7)) → z = -1) ∧ ((0 ≤ rr ∧ rr ≤ 3) ∧ 0 ≤ w ∧ w < 2 → z = g (8 * rr + w)) ∧ ((0 ≤ rr ∧ rr ≤ 3) ∧ 2 ≤ w ∧ w ≤ 7 → (w - 2 < g (8 * rr + 1) → z = g (8 * rr + w)) ∧ (¬ (w - 2 < g (8 * rr + 1)) → z = -4)) := ⟨_, rfl, (fun q9 => by omega), (fun q9 => by first | omega | rfl), (fun q9 => by first | omega | exact ⟨fun q8 => by first | omega | rfl, fun q8 => by first | omega | rfl⟩)⟩
      exact z_iretR C hr hlocks hP9 dX11_told_20
set_option maxHeartbeats 4000000 in
set_option maxRecDepth 100000 in
/-- begins -/
theorem c_X11_begins (l : Launch) (G : GG) (x : Nat) (ln : Int) (a1 : Nat) (pl : Int) (a3 : Nat) (a4 : Nat) (ri : Int) (ld : Int) (mn : Int) (a8 : Nat) (a9 : Nat) (nn : Int) (a11 : Nat) (fn : Int) (a13 : Nat) (lm : Int) (a15 : Nat) (a16 : Nat) (a17 : Nat) (a18 : Nat) (a19 : Nat) (a20 : Nat) (f : Int → Int) (g : Int → Int) (hn : 0 ≤ fn ∧ fn ≤ 40) (hf : BD f) (hg : BD g) : MQc l yX11_begins wsX11_begins 0 G [.ref x] [(x, .inr (9, [.int (iI ln), .ref a1, .int (iI pl), .ref a3, .ref a4, .int (iI ri), .int (iI ld), .int (iI mn), .ref a8, .ref a9, .int (iI nn), .ref a11, .int (iI fn), .ref a13, .int (iI lm), .ref a15, .ref a16, .ref a17, .ref a18, .ref a19, .ref a20])), (a13, .inl (G.2.1 0, 40, .inl (iA f))), (a15, .inl (G.2.1 0, 5000, .inl (iA g)))] (fun r (u : (Int → Int)) => r = none ∧ (∀ j, 0 ≤ j → j < fn → u j = f j) ∧ (BD u)) (fun u => [(x, .inr (9, [.int (iI ln), .ref a1, .int (iI pl), .ref a3, .ref a4, .int (iI ri), .int (iI ld), .int (iI mn), .ref a8, .ref a9, .int (iI nn), .ref a11, .int (iI fn), .ref a13, .int (iI fn), .ref a15, .ref a16, .ref a17, .ref a18, .ref a19, .ref a20])), (a13, .inl (G.2.1 0, 40, .inl (iA f))), (a15, .inl (G.2.1 0, 5000, .inl (iA u)))]) := by
  refine MQc.start (own := RX11) (by decide) rfl rfl (Nat.le_of_ble_eq_true rfl) ?_
  intro p9 e9 s9 m9 args below meth c9 A Q C hK hW hA hr hlocks hQ ls hl
  have hl : lv_has ls 2 [(0, .ref x)] := hl
  have hin11 : ∀ w ∈ wsX110, w ∈ wsX11_begins := by decide +kernel
  refine lv_aload_n C.1 C.2.1 dX11_begins_0 rfl (lv_at hl 0 rfl) ?_
  refine lv_aload_n C.1 C.2.1 dX11_begins_1 rfl (lv_at hl 0 rfl) ?_
  refine z_get C hK hW hin11 (v := .int (iI fn)) 0 rfl rfl 12 (by decide) (C.2.2.2.2 (.fieldLink RX11 141 "TellingRowsModel" "figures" "I") (List.mem_of_getElem? (i := 1) rfl)) (fun _ h9 => h9) rfl dX11_begins_2 ?_
  refine z_put C hK hW hin11 tyX11 tyX11_ok nmX11 0 rfl rfl 14 (by decide) (C.2.2.2.2 (.fieldLink RX11 144 "TellingRowsModel" "lineMany" "I") (List.mem_of_getElem? (i := 2) rfl)) (fun _ h9 => h9) rfl rfl rfl (Nat.le_of_ble_eq_true rfl) dX11_begins_5 (fun H locs hW => ?_)
  have hW : Wd G A s9.heap [(x, .inr (9, [.int (iI ln), .ref a1, .int (iI pl), .ref a3, .ref a4, .int (iI ri), .int (iI ld), .int (iI mn), .ref a8, .ref a9, .int (iI nn), .ref a11, .int (iI fn), .ref a13, .int (iI fn), .ref a15, .ref a16, .ref a17, .ref a18, .ref a19, .ref a20])), (a13, .inl (G.2.1 0, 40, .inl (iA f))), (a15, .inl (G.2.1 0, 5000, .inl (iA g)))] H locs := hW
  refine lv_iconst (v := iI 0) C.1 C.2.1 dX11_begins_8 rfl ?_
  refine lv_istore_n (lv' := [(1, .int (iI 0)), (0, .ref x)]) C.1 C.2.1 dX11_begins_9 rfl hl (by decide) rfl (fun ls hl => ?_)
  have cut_10 : ∀ (n9 : Nat) (i : Int) (g1 : Int → Int), (0 ≤ i ∧ i ≤ fn) → (BD g1) → (∀ j, 0 ≤ j → j < i → g1 j = f j) → (fn - i < (n9 : Int)) → ∀ (H : Heap) (locs : List Loc) (ls : Array Slot), Wd G A s9.heap [(x, .inr (9, [.int (iI ln), .ref a1, .int (iI pl), .ref a3, .ref a4, .int (iI ri), .int (iI ld), .int (iI mn), .ref a8, .ref a9, .int (iI nn), .ref a11, .int (iI fn), .ref a13, .int (iI fn), .ref a15, .ref a16, .ref a17, .ref a18, .ref a19, .ref a20])), (a13, .inl (G.2.1 0, 40, .inl (iA f))), (a15, .inl (G.2.1 0, 5000, .inl (iA g1)))] H locs → lv_has ls 2 [(1, .int (iI i)), (0, .ref x)] → W p9 l e9 (rmL 0) s9 m9 args below meth c9 H locs 0 0 Q (F0 m9 10 ls []) := by
    intro n9
    induction n9 with
    | zero => intro i g1 hi hg1 he hmu; intros; exfalso; omega
    | succ n9 ih_10 =>
      intro i g1 hi hg1 he hmu H locs ls hW hl
      refine lv_iload_n C.1 C.2.1 dX11_begins_10 rfl (lv_at hl 0 rfl) ?_
      refine lv_aload_n C.1 C.2.1 dX11_begins_11 rfl (lv_at hl 1 rfl) ?_
      refine z_get C hK hW hin11 (v := .int (iI fn)) 0 rfl rfl 12 (by decide) (C.2.2.2.2 (.fieldLink RX11 141 "TellingRowsModel" "figures" "I") (List.mem_of_getElem? (i := 1) rfl)) (fun _ h9 => h9) rfl dX11_begins_12 ?_
      refine z_icmp_ge (tgt := 36) C dX11_begins_15 (by decide) (by omega) (fun c_15 => ?_) (fun c_15 => ?_)
      ·
        rw [hQ]
        have hP9 : (none : Option Value) = none ∧ (∀ j, 0 ≤ j → j < fn → g1 j = f j) ∧ (BD g1) := ⟨rfl, (fun j j0 j1 => he j j0 (by omega)), hg1⟩
        exact z_vret C hr hlocks hW g1 rfl hP9 dX11_begins_36
      ·
        refine lv_aload_n C.1 C.2.1 dX11_begins_18 rfl (lv_at hl 1 rfl) ?_
        refine z_get C hK hW hin11 (v := .ref a15) 0 rfl rfl 15 (by decide) (C.2.2.2.2 (.fieldLink RX11 37 "TellingRowsModel" "line" "[I") (List.mem_of_getElem? (i := 3) rfl)) (fun _ h9 => h9) rfl dX11_begins_19 ?_
        refine lv_iload_n C.1 C.2.1 dX11_begins_22 rfl (lv_at hl 0 rfl) ?_
        refine lv_aload_n C.1 C.2.1 dX11_begins_23 rfl (lv_at hl 1 rfl) ?_
        refine z_get C hK hW hin11 (v := .ref a13) 0 rfl rfl 13 (by decide) (C.2.2.2.2 (.fieldLink RX11 34 "TellingRowsModel" "figure" "[I") (List.mem_of_getElem? (i := 4) rfl)) (fun _ h9 => h9) rfl dX11_begins_24 ?_
        refine lv_iload_n C.1 C.2.1 dX11_begins_27 rfl (lv_at hl 0 rfl) ?_
        refine z_iald C hK hW 1 rfl (by omega) (by omega) dX11_begins_28 ?_
        have hb_28 := hf i
        refine z_iast C hK hW 2 rfl (by omega) (by omega) dX11_begins_29 (fun H locs hW => ?_)
        have hbd_29 : BD (up g1 i (f i)) := BD.up hg1 (by omega)
        have hW : Wd G A s9.heap [(x, .inr (9, [.int (iI ln), .ref a1, .int (iI pl), .ref a3, .ref a4, .int (iI ri), .int (iI ld), .int (iI mn), .ref a8, .ref a9, .int (iI nn), .ref a11, .int (iI fn), .ref a13, .int (iI fn), .ref a15, .ref a16, .ref a17, .ref a18, .ref a19, .ref a20])), (a13, .inl (G.2.1 0, 40, .inl (iA f))), (a15, .inl (G.2.1 0, 5000, .inl (iA (up g1 i (f i)))))] H locs := hW
        refine lv_iinc (v := iI (i + 1)) (lv' := [(1, .int (iI (i + 1))), (0, .ref x)]) C.1 C.2.1 dX11_begins_30 hl (k := 0) rfl (iI_add _ _) (by decide) rfl (fun ls hl => ?_)
        refine lv_goto (tgt := 10) C.1 C.2.1 dX11_begins_33 (by decide) ?_
        exact ih_10 (i + 1) (up g1 i (f i)) (by first | omega | assumption | (intros; first | rfl | omega | assumption | (and_intros <;> first | rfl | omega | assumption))) hbd_29 (up_pre he rfl) (by omega) _ _ _ hW (lv_sub hl [0, 1] rfl)
  exact cut_10 (((fn - 0) + 1 : Int)).toNat 0 g (by first | omega | assumption | (intros; first | rfl | omega | assumption | (and_intros <;> first | rfl | omega | assumption))) hg (fun j j0 j1 => by omega) (by omega) _ _ _ hW (lv_sub hl [0, 1] rfl)
set_option maxHeartbeats 4000000 in
set_option maxRecDepth 100000 in
/-- areLike -/
theorem c_X11_areLike (l : Launch) (G : GG) (x : Nat) (ln : Int) (a1 : Nat) (pl : Int) (a3 : Nat) (a4 : Nat) (ri : Int) (ld : Int) (mn : Int) (a8 : Nat) (a9 : Nat) (nn : Int) (a11 : Nat) (fn : Int) (a13 : Nat) (lm : Int) (a15 : Nat) (a16 : Nat) (a17 : Nat) (a18 : Nat) (a19 : Nat) (a20 : Nat) (m : Int → Int) (g : Int → Int) (u : Int) (s : Int) (hm : BD m) (hg : BD g) (hu : 0 ≤ u ∧ u ≤ 60) (hs : 0 ≤ s ∧ s ≤ 60) (hmu : 0 ≤ m u ∧ m u ≤ 40) : MRc l yX11_areLike wsX11_areLike 0 G [.ref x, .int (iI u), .int (iI s)] [(x, .inr (9, [.int (iI ln), .ref a1, .int (iI pl), .ref a3, .ref a4, .int (iI ri), .int (iI ld), .int (iI mn), .ref a8, .ref a9, .int (iI nn), .ref a11, .int (iI fn), .ref a13, .int (iI lm), .ref a15, .ref a16, .ref a17, .ref a18, .ref a19, .ref a20])), (a17, .inl (G.2.1 0, 62, .inl (iA m))), (a18, .inl (G.2.1 0, 2480, .inl (iA g)))] (fun r => ∃ z : Int, r = some (.int (iI z)) ∧ ((z = 1 ∧ (m u = m s ∧ ∀ j, 0 ≤ j → j < m u → g (40 * u + j) = g (40 * s + j))) ∨ (z = 0 ∧ ¬ (m u = m s ∧ ∀ j, 0 ≤ j → j < m u → g (40 * u + j) = g (40 * s + j))))) := by
  refine MRc.start (own := RX11) (by decide) rfl rfl (Nat.le_of_ble_eq_true rfl) ?_
  intro p9 e9 s9 m9 args below meth c9 A Q C hK hW hA hr hlocks hQ ls hl
  have hl : lv_has ls 5 [(0, .ref x), (1, .int (iI u)), (2, .int (iI s))] := hl
  have hin11 : ∀ w ∈ wsX110, w ∈ wsX11_areLike := by decide +kernel
  have cut_24 : ∀ (n9 : Nat) (b : Int) (k : Int), (0 ≤ k ∧ k ≤ m u) → ((b = 1 ∧ m u = m s ∧ ∀ j, 0 ≤ j → j < k → g (40 * u + j) = g (40 * s + j)) ∨ (b = 0 ∧ ¬ (m u = m s ∧ ∀ j, 0 ≤ j → j < m u → g (40 * u + j) = g (40 * s + j)))) → (m u - k < (n9 : Int)) → ∀ (ls : Array Slot), lv_has ls 5 [(0, .ref x), (1, .int (iI u)), (2, .int (iI s)), (3, .int (iI b)), (4, .int (iI k))] → W p9 l e9 (rmL 0) s9 m9 args below meth c9 s9.heap [] 0 0 Q (F0 m9 24 ls []) := by
    intro n9
    induction n9 with
    | zero => intro b k hk hb hmu; intros; exfalso; omega
    | succ n9 ih_24 =>
      intro b k hk hb hmu ls hl
      have hb01 : b = 1 ∨ b = 0 := hb.elim (fun q => Or.inl q.1) (fun q => Or.inr q.1)
      refine lv_iload_n C.1 C.2.1 dX11_areLike_24 rfl (lv_at hl 3 rfl) ?_
      refine z_if_eq (tgt := 78) C dX11_areLike_25 (by decide) (by omega) (fun c_25 => ?_) (fun c_25 => ?_)
      ·
        refine lv_iload_n C.1 C.2.1 dX11_areLike_78 rfl (lv_at hl 3 rfl) ?_
        rw [hQ]
        have hP9 : ∃ z : Int, (some (Value.int (iI b))) = some (.int (iI z)) ∧ ((z = 1 ∧ (m u = m s ∧ ∀ j, 0 ≤ j → j < m u → g (40 * u + j) = g (40 * s + j))) ∨ (z = 0 ∧ ¬ (m u = m s ∧ ∀ j, 0 ≤ j → j < m u → g (40 * u + j) = g (40 * s + j)))) := ⟨_, rfl, (by first | exact Or.inl ⟨by omega, (hb.elim (fun q => q.2) (fun q => absurd q.1 c_25)).1, fun j j0 j1 => (hb.elim (fun q => q.2) (fun q => absurd q.1 c_25)).2 j j0 (by omega)⟩ | exact Or.inr ⟨by omega, (hb.elim (fun q => absurd q.1 (by omega)) (fun q => q.2))⟩)⟩
        exact z_zretR C hr (by rcases hb01 with q | q <;> (rw [q]; rfl)) hlocks hP9 dX11_areLike_79
      ·
        refine lv_iload C.1 C.2.1 dX11_areLike_28 (lv_at hl 4 rfl) ?_
        refine lv_aload_n C.1 C.2.1 dX11_areLike_30 rfl (lv_at hl 0 rfl) ?_
        refine z_get C hK hW hin11 (v := .ref a17) 0 rfl rfl 17 (by decide) (C.2.2.2.2 (.fieldLink RX11 43 "TellingRowsModel" "stepMany" "[I") (List.mem_of_getElem? (i := 1) rfl)) (fun _ h9 => h9) rfl dX11_areLike_31 ?_
        refine lv_iload_n C.1 C.2.1 dX11_areLike_34 rfl (lv_at hl 1 rfl) ?_
        refine z_iald C hK hW 1 rfl (by omega) (by omega) dX11_areLike_35 ?_
        have hb_35 := hm u
        refine z_icmp_ge (tgt := 78) C dX11_areLike_36 (by decide) (by omega) (fun c_36 => ?_) (fun c_36 => ?_)
        ·
          refine lv_iload_n C.1 C.2.1 dX11_areLike_78 rfl (lv_at hl 3 rfl) ?_
          rw [hQ]
          have hP9 : ∃ z : Int, (some (Value.int (iI b))) = some (.int (iI z)) ∧ ((z = 1 ∧ (m u = m s ∧ ∀ j, 0 ≤ j → j < m u → g (40 * u + j) = g (40 * s + j))) ∨ (z = 0 ∧ ¬ (m u = m s ∧ ∀ j, 0 ≤ j → j < m u → g (40 * u + j) = g (40 * s + j)))) := ⟨_, rfl, (by first | exact Or.inl ⟨by omega, (hb.elim (fun q => q.2) (fun q => absurd q.1 c_25)).1, fun j j0 j1 => (hb.elim (fun q => q.2) (fun q => absurd q.1 c_25)).2 j j0 (by omega)⟩ | exact Or.inr ⟨by omega, (hb.elim (fun q => absurd q.1 (by omega)) (fun q => q.2))⟩)⟩
          exact z_zretR C hr (by rcases hb01 with q | q <;> (rw [q]; rfl)) hlocks hP9 dX11_areLike_79
        ·
          refine lv_aload_n C.1 C.2.1 dX11_areLike_39 rfl (lv_at hl 0 rfl) ?_
          refine z_get C hK hW hin11 (v := .ref a18) 0 rfl rfl 18 (by decide) (C.2.2.2.2 (.fieldLink RX11 46 "TellingRowsModel" "step" "[I") (List.mem_of_getElem? (i := 2) rfl)) (fun _ h9 => h9) rfl dX11_areLike_40 ?_
          refine lv_bipush (v := iI 40) C.1 C.2.1 dX11_areLike_43 (by decide +kernel) ?_
          refine lv_iload_n C.1 C.2.1 dX11_areLike_45 rfl (lv_at hl 1 rfl) ?_
          refine z_imul C dX11_areLike_46 ?_
          refine lv_iload C.1 C.2.1 dX11_areLike_47 (lv_at hl 4 rfl) ?_
          refine z_iadd C dX11_areLike_49 ?_
          refine z_iald C hK hW 2 rfl (by omega) (by omega) dX11_areLike_50 ?_
          have hb_50 := hg ((40 * u) + k)
          refine lv_aload_n C.1 C.2.1 dX11_areLike_51 rfl (lv_at hl 0 rfl) ?_
          refine z_get C hK hW hin11 (v := .ref a18) 0 rfl rfl 18 (by decide) (C.2.2.2.2 (.fieldLink RX11 46 "TellingRowsModel" "step" "[I") (List.mem_of_getElem? (i := 2) rfl)) (fun _ h9 => h9) rfl dX11_areLike_52 ?_
          refine lv_bipush (v := iI 40) C.1 C.2.1 dX11_areLike_55 (by decide +kernel) ?_
          refine lv_iload_n C.1 C.2.1 dX11_areLike_57 rfl (lv_at hl 2 rfl) ?_
          refine z_imul C dX11_areLike_58 ?_
          refine lv_iload C.1 C.2.1 dX11_areLike_59 (lv_at hl 4 rfl) ?_
          refine z_iadd C dX11_areLike_61 ?_
          refine z_iald C hK hW 2 rfl (by omega) (by omega) dX11_areLike_62 ?_
          have hb_62 := hg ((40 * s) + k)
          refine z_icmp_ne (tgt := 70) C dX11_areLike_63 (by decide) (by omega) (fun c_63 => ?_) (fun c_63 => ?_)
          ·
            refine lv_iconst (v := iI 0) C.1 C.2.1 dX11_areLike_70 rfl ?_
            refine lv_istore_n (lv' := [(3, .int (iI 0)), (0, .ref x), (1, .int (iI u)), (2, .int (iI s)), (4, .int (iI k))]) C.1 C.2.1 dX11_areLike_71 rfl hl (by decide) rfl (fun ls hl => ?_)
            refine lv_iinc (v := iI (k + 1)) (lv' := [(4, .int (iI (k + 1))), (3, .int (iI 0)), (0, .ref x), (1, .int (iI u)), (2, .int (iI s))]) C.1 C.2.1 dX11_areLike_72 hl (k := 4) rfl (iI_add _ _) (by decide) rfl (fun ls hl => ?_)
            refine lv_goto (tgt := 24) C.1 C.2.1 dX11_areLike_75 (by decide) ?_
            exact ih_24 0 (k + 1) (by first | omega | assumption | (intros; first | rfl | omega | assumption | (and_intros <;> first | rfl | omega | assumption))) (by have hbb := hb.elim (fun q => q.2) (fun q => absurd q.1 c_25); first | exact Or.inl ⟨rfl, hbb.1, fun j j0 j1 => if q : j = k then (by rw [q]; exact c_63) else hbb.2 j j0 (by omega)⟩ | exact Or.inr ⟨rfl, fun q => c_63 (q.2 k (by omega) (by omega))⟩) (by omega) _ (lv_sub hl [2, 3, 4, 1, 0] rfl)
          ·
            refine lv_iconst (v := iI 1) C.1 C.2.1 dX11_areLike_66 rfl ?_
            refine lv_goto (tgt := 71) C.1 C.2.1 dX11_areLike_67 (by decide) ?_
            refine lv_istore_n (lv' := [(3, .int (iI 1)), (0, .ref x), (1, .int (iI u)), (2, .int (iI s)), (4, .int (iI k))]) C.1 C.2.1 dX11_areLike_71 rfl hl (by decide) rfl (fun ls hl => ?_)
            refine lv_iinc (v := iI (k + 1)) (lv' := [(4, .int (iI (k + 1))), (3, .int (iI 1)), (0, .ref x), (1, .int (iI u)), (2, .int (iI s))]) C.1 C.2.1 dX11_areLike_72 hl (k := 4) rfl (iI_add _ _) (by decide) rfl (fun ls hl => ?_)
            refine lv_goto (tgt := 24) C.1 C.2.1 dX11_areLike_75 (by decide) ?_
            exact ih_24 1 (k + 1) (by first | omega | assumption | (intros; first | rfl | omega | assumption | (and_intros <;> first | rfl | omega | assumption))) (by have hbb := hb.elim (fun q => q.2) (fun q => absurd q.1 c_25); first | exact Or.inl ⟨rfl, hbb.1, fun j j0 j1 => if q : j = k then (by rw [q]; exact c_63) else hbb.2 j j0 (by omega)⟩ | exact Or.inr ⟨rfl, fun q => c_63 (q.2 k (by omega) (by omega))⟩) (by omega) _ (lv_sub hl [2, 3, 4, 1, 0] rfl)
  refine lv_aload_n C.1 C.2.1 dX11_areLike_0 rfl (lv_at hl 0 rfl) ?_
  refine z_get C hK hW hin11 (v := .ref a17) 0 rfl rfl 17 (by decide) (C.2.2.2.2 (.fieldLink RX11 43 "TellingRowsModel" "stepMany" "[I") (List.mem_of_getElem? (i := 1) rfl)) (fun _ h9 => h9) rfl dX11_areLike_1 ?_
  refine lv_iload_n C.1 C.2.1 dX11_areLike_4 rfl (lv_at hl 1 rfl) ?_
  refine z_iald C hK hW 1 rfl (by omega) (by omega) dX11_areLike_5 ?_
  have hb_5 := hm u
  refine lv_aload_n C.1 C.2.1 dX11_areLike_6 rfl (lv_at hl 0 rfl) ?_
  refine z_get C hK hW hin11 (v := .ref a17) 0 rfl rfl 17 (by decide) (C.2.2.2.2 (.fieldLink RX11 43 "TellingRowsModel" "stepMany" "[I") (List.mem_of_getElem? (i := 1) rfl)) (fun _ h9 => h9) rfl dX11_areLike_7 ?_
  refine lv_iload_n C.1 C.2.1 dX11_areLike_10 rfl (lv_at hl 2 rfl) ?_
  refine z_iald C hK hW 1 rfl (by omega) (by omega) dX11_areLike_11 ?_
  have hb_11 := hm s
  refine z_icmp_ne (tgt := 19) C dX11_areLike_12 (by decide) (by omega) (fun c_12 => ?_) (fun c_12 => ?_)
  ·
    refine lv_iconst (v := iI 0) C.1 C.2.1 dX11_areLike_19 rfl ?_
    refine lv_istore_n (lv' := [(3, .int (iI 0)), (0, .ref x), (1, .int (iI u)), (2, .int (iI s))]) C.1 C.2.1 dX11_areLike_20 rfl hl (by decide) rfl (fun ls hl => ?_)
    refine lv_iconst (v := iI 0) C.1 C.2.1 dX11_areLike_21 rfl ?_
    refine lv_istore (lv' := [(4, .int (iI 0)), (3, .int (iI 0)), (0, .ref x), (1, .int (iI u)), (2, .int (iI s))]) C.1 C.2.1 dX11_areLike_22 hl (by decide) rfl (fun ls hl => ?_)
    exact cut_24 (((m u - 0) + 1 : Int)).toNat 0 0 (by first | omega | assumption | (intros; first | rfl | omega | assumption | (and_intros <;> first | rfl | omega | assumption))) (by first | exact Or.inl ⟨rfl, by omega, fun j j0 j1 => by omega⟩ | exact Or.inr ⟨rfl, fun q => by omega⟩) (by omega) _ (lv_sub hl [2, 3, 4, 1, 0] rfl)
  ·
    refine lv_iconst (v := iI 1) C.1 C.2.1 dX11_areLike_15 rfl ?_
    refine lv_goto (tgt := 20) C.1 C.2.1 dX11_areLike_16 (by decide) ?_
    refine lv_istore_n (lv' := [(3, .int (iI 1)), (0, .ref x), (1, .int (iI u)), (2, .int (iI s))]) C.1 C.2.1 dX11_areLike_20 rfl hl (by decide) rfl (fun ls hl => ?_)
    refine lv_iconst (v := iI 0) C.1 C.2.1 dX11_areLike_21 rfl ?_
    refine lv_istore (lv' := [(4, .int (iI 0)), (3, .int (iI 1)), (0, .ref x), (1, .int (iI u)), (2, .int (iI s))]) C.1 C.2.1 dX11_areLike_22 hl (by decide) rfl (fun ls hl => ?_)
    exact cut_24 (((m u - 0) + 1 : Int)).toNat 1 0 (by first | omega | assumption | (intros; first | rfl | omega | assumption | (and_intros <;> first | rfl | omega | assumption))) (by first | exact Or.inl ⟨rfl, by omega, fun j j0 j1 => by omega⟩ | exact Or.inr ⟨rfl, fun q => by omega⟩) (by omega) _ (lv_sub hl [2, 3, 4, 1, 0] rfl)
set_option maxHeartbeats 4000000 in
set_option maxRecDepth 100000 in
/-- isTeller -/
theorem c_X11_isTeller (l : Launch) (G : GG) (x : Nat) (ln : Int) (a1 : Nat) (pl : Int) (a3 : Nat) (a4 : Nat) (ri : Int) (ld : Int) (mn : Int) (a8 : Nat) (a9 : Nat) (nn : Int) (a11 : Nat) (fn : Int) (a13 : Nat) (lm : Int) (a15 : Nat) (a16 : Nat) (a17 : Nat) (a18 : Nat) (a19 : Nat) (a20 : Nat) (d : Int → Int) (b : Int) (hb : 2 ≤ b ∧ b ≤ 10) (hd : BD d) : MRc l yX11_isTeller wsX11_isTeller 0 G [.ref x, .int (iI b)] [(x, .inr (9, [.int (iI ln), .ref a1, .int (iI pl), .ref a3, .ref a4, .int (iI ri), .int (iI ld), .int (iI mn), .ref a8, .ref a9, .int (iI nn), .ref a11, .int (iI fn), .ref a13, .int (iI lm), .ref a15, .ref a16, .ref a17, .ref a18, .ref a19, .ref a20])), (a19, .inl (G.2.1 0, 11, .inl (iA d)))] (fun r => ∃ z : Int, r = some (.int (iI z)) ∧ ((z = 1 ∧ TellR d b) ∨ (z = 0 ∧ ¬ TellR d b))) := by
  refine MRc.start (own := RX11) (by decide) rfl rfl (Nat.le_of_ble_eq_true rfl) ?_
  intro p9 e9 s9 m9 args below meth c9 A Q C hK hW hA hr hlocks hQ ls hl
  have hl : lv_has ls 6 [(0, .ref x), (1, .int (iI b))] := hl
  have hin11 : ∀ w ∈ wsX110, w ∈ wsX11_isTeller := by decide +kernel
  refine lv_iconst (v := iI 1) C.1 C.2.1 dX11_isTeller_0 rfl ?_
  refine lv_istore_n (lv' := [(2, .int (iI 1)), (0, .ref x), (1, .int (iI b))]) C.1 C.2.1 dX11_isTeller_1 rfl hl (by decide) rfl (fun ls hl => ?_)
  refine lv_iconst (v := iI 0) C.1 C.2.1 dX11_isTeller_2 rfl ?_
  refine lv_istore_n (lv' := [(3, .int (iI 0)), (2, .int (iI 1)), (0, .ref x), (1, .int (iI b))]) C.1 C.2.1 dX11_isTeller_3 rfl hl (by decide) rfl (fun ls hl => ?_)
  have cut_4 : ∀ (n9 : Nat) (o : Int) (j : Int), (0 ≤ j ∧ j ≤ b) → ((o = 1 ∧ ∀ y, 0 ≤ y → y < j → oc d y b = d y) ∨ (o = 0 ∧ ¬ TellR d b)) → (b - j < (n9 : Int)) → ∀ (ls : Array Slot), lv_has ls 6 [(3, .int (iI j)), (2, .int (iI o)), (0, .ref x), (1, .int (iI b))] → W p9 l e9 (rmL 0) s9 m9 args below meth c9 s9.heap [] 0 0 Q (F0 m9 4 ls []) := by
    intro n9
    induction n9 with
    | zero => intro o j hj ho hmu; intros; exfalso; omega
    | succ n9 ih_4 =>
      intro o j hj ho hmu ls hl
      have ho01 : o = 1 ∨ o = 0 := ho.elim (fun q => Or.inl q.1) (fun q => Or.inr q.1)
      refine lv_iload_n C.1 C.2.1 dX11_isTeller_4 rfl (lv_at hl 0 rfl) ?_
      refine lv_iload_n C.1 C.2.1 dX11_isTeller_5 rfl (lv_at hl 3 rfl) ?_
      refine z_icmp_ge (tgt := 75) C dX11_isTeller_6 (by decide) (by omega) (fun c_6 => ?_) (fun c_6 => ?_)
      ·
        refine lv_iload_n C.1 C.2.1 dX11_isTeller_75 rfl (lv_at hl 1 rfl) ?_
        rw [hQ]
        have hP9 : ∃ z : Int, (some (Value.int (iI o))) = some (.int (iI z)) ∧ ((z = 1 ∧ TellR d b) ∨ (z = 0 ∧ ¬ TellR d b)) := ⟨_, rfl, (ho.elim (fun q => Or.inl ⟨q.1, fun y y0 y1 => q.2 y y0 (by omega)⟩) (fun q => Or.inr q))⟩
        exact z_zretR C hr (by rcases ho01 with q | q <;> (rw [q]; rfl)) hlocks hP9 dX11_isTeller_76
      ·
        refine lv_iload_n C.1 C.2.1 dX11_isTeller_9 rfl (lv_at hl 1 rfl) ?_
        refine z_if_eq (tgt := 75) C dX11_isTeller_10 (by decide) (by omega) (fun c_10 => ?_) (fun c_10 => ?_)
        ·
          refine lv_iload_n C.1 C.2.1 dX11_isTeller_75 rfl (lv_at hl 1 rfl) ?_
          rw [hQ]
          have hP9 : ∃ z : Int, (some (Value.int (iI o))) = some (.int (iI z)) ∧ ((z = 1 ∧ TellR d b) ∨ (z = 0 ∧ ¬ TellR d b)) := ⟨_, rfl, (ho.elim (fun q => Or.inl ⟨q.1, fun y y0 y1 => q.2 y y0 (by omega)⟩) (fun q => Or.inr q))⟩
          exact z_zretR C hr (by rcases ho01 with q | q <;> (rw [q]; rfl)) hlocks hP9 dX11_isTeller_76
        ·
          refine lv_iconst (v := iI 0) C.1 C.2.1 dX11_isTeller_13 rfl ?_
          refine lv_istore (lv' := [(4, .int (iI 0)), (3, .int (iI j)), (2, .int (iI o)), (0, .ref x), (1, .int (iI b))]) C.1 C.2.1 dX11_isTeller_14 hl (by decide) rfl (fun ls hl => ?_)
          refine lv_iconst (v := iI 0) C.1 C.2.1 dX11_isTeller_16 rfl ?_
          refine lv_istore (lv' := [(5, .int (iI 0)), (4, .int (iI 0)), (3, .int (iI j)), (2, .int (iI o)), (0, .ref x), (1, .int (iI b))]) C.1 C.2.1 dX11_isTeller_17 hl (by decide) rfl (fun ls hl => ?_)
          have cut_19 : ∀ (n9 : Nat) (k : Int) (i : Int), (0 ≤ i ∧ i ≤ b) → (k = oc d j i) → (b - i < (n9 : Int)) → ∀ (ls : Array Slot), lv_has ls 6 [(5, .int (iI i)), (4, .int (iI k)), (3, .int (iI j)), (2, .int (iI o)), (0, .ref x), (1, .int (iI b))] → W p9 l e9 (rmL 0) s9 m9 args below meth c9 s9.heap [] 0 0 Q (F0 m9 19 ls []) := by
            intro n9
            induction n9 with
            | zero => intro k i hi hk hmu; intros; exfalso; omega
            | succ n9 ih_19 =>
              intro k i hi hk hmu ls hl
              have hkb := oc_b (g := d) (v := j) hi.1
              refine lv_iload C.1 C.2.1 dX11_isTeller_19 (lv_at hl 0 rfl) ?_
              refine lv_iload_n C.1 C.2.1 dX11_isTeller_21 rfl (lv_at hl 5 rfl) ?_
              refine z_icmp_ge (tgt := 52) C dX11_isTeller_22 (by decide) (by omega) (fun c_22 => ?_) (fun c_22 => ?_)
              ·
                refine lv_iload C.1 C.2.1 dX11_isTeller_52 (lv_at hl 1 rfl) ?_
                refine lv_aload_n C.1 C.2.1 dX11_isTeller_54 rfl (lv_at hl 4 rfl) ?_
                refine z_get C hK hW hin11 (v := .ref a19) 0 rfl rfl 19 (by decide) (C.2.2.2.2 (.fieldLink RX11 49 "TellingRowsModel" "digit" "[I") (List.mem_of_getElem? (i := 1) rfl)) (fun _ h9 => h9) rfl dX11_isTeller_55 ?_
                refine lv_iload_n C.1 C.2.1 dX11_isTeller_58 rfl (lv_at hl 2 rfl) ?_
                refine z_iald C hK hW 1 rfl (by omega) (by omega) dX11_isTeller_59 ?_
                have hb_59 := hd j
                refine z_icmp_ne (tgt := 67) C dX11_isTeller_60 (by decide) (by omega) (fun c_60 => ?_) (fun c_60 => ?_)
                ·
                  refine lv_iconst (v := iI 0) C.1 C.2.1 dX11_isTeller_67 rfl ?_
                  refine lv_istore_n (lv' := [(2, .int (iI 0)), (5, .int (iI i)), (4, .int (iI k)), (3, .int (iI j)), (0, .ref x), (1, .int (iI b))]) C.1 C.2.1 dX11_isTeller_68 rfl hl (by decide) rfl (fun ls hl => ?_)
                  refine lv_iinc (v := iI (j + 1)) (lv' := [(3, .int (iI (j + 1))), (2, .int (iI 0)), (5, .int (iI i)), (4, .int (iI k)), (0, .ref x), (1, .int (iI b))]) C.1 C.2.1 dX11_isTeller_69 hl (k := 3) rfl (iI_add _ _) (by decide) rfl (fun ls hl => ?_)
                  refine lv_goto (tgt := 4) C.1 C.2.1 dX11_isTeller_72 (by decide) ?_
                  exact ih_4 0 (j + 1) (by first | omega | assumption | (intros; first | rfl | omega | assumption | (and_intros <;> first | rfl | omega | assumption))) (by have hoo := ho.elim (fun q => q.2) (fun q => absurd q.1 c_10); have hi9 : i = b := (by omega); rw [hi9] at hk; first | exact Or.inl ⟨rfl, fun y y0 y1 => if q : y = j then (by rw [q, ← hk]; exact c_60) else hoo y y0 (by omega)⟩ | exact Or.inr ⟨rfl, fun q => c_60 (by rw [hk]; exact q j (by omega) (by omega))⟩) (by omega) _ (lv_sub hl [0, 1, 4, 5] rfl)
                ·
                  refine lv_iconst (v := iI 1) C.1 C.2.1 dX11_isTeller_63 rfl ?_
                  refine lv_goto (tgt := 68) C.1 C.2.1 dX11_isTeller_64 (by decide) ?_
                  refine lv_istore_n (lv' := [(2, .int (iI 1)), (5, .int (iI i)), (4, .int (iI k)), (3, .int (iI j)), (0, .ref x), (1, .int (iI b))]) C.1 C.2.1 dX11_isTeller_68 rfl hl (by decide) rfl (fun ls hl => ?_)
                  refine lv_iinc (v := iI (j + 1)) (lv' := [(3, .int (iI (j + 1))), (2, .int (iI 1)), (5, .int (iI i)), (4, .int (iI k)), (0, .ref x), (1, .int (iI b))]) C.1 C.2.1 dX11_isTeller_69 hl (k := 3) rfl (iI_add _ _) (by decide) rfl (fun ls hl => ?_)
                  refine lv_goto (tgt := 4) C.1 C.2.1 dX11_isTeller_72 (by decide) ?_
                  exact ih_4 1 (j + 1) (by first | omega | assumption | (intros; first | rfl | omega | assumption | (and_intros <;> first | rfl | omega | assumption))) (by have hoo := ho.elim (fun q => q.2) (fun q => absurd q.1 c_10); have hi9 : i = b := (by omega); rw [hi9] at hk; first | exact Or.inl ⟨rfl, fun y y0 y1 => if q : y = j then (by rw [q, ← hk]; exact c_60) else hoo y y0 (by omega)⟩ | exact Or.inr ⟨rfl, fun q => c_60 (by rw [hk]; exact q j (by omega) (by omega))⟩) (by omega) _ (lv_sub hl [0, 1, 4, 5] rfl)
              ·
                refine lv_iload C.1 C.2.1 dX11_isTeller_25 (lv_at hl 1 rfl) ?_
                refine lv_aload_n C.1 C.2.1 dX11_isTeller_27 rfl (lv_at hl 4 rfl) ?_
                refine z_get C hK hW hin11 (v := .ref a19) 0 rfl rfl 19 (by decide) (C.2.2.2.2 (.fieldLink RX11 49 "TellingRowsModel" "digit" "[I") (List.mem_of_getElem? (i := 1) rfl)) (fun _ h9 => h9) rfl dX11_isTeller_28 ?_
                refine lv_iload C.1 C.2.1 dX11_isTeller_31 (lv_at hl 0 rfl) ?_
                refine z_iald C hK hW 1 rfl (by omega) (by omega) dX11_isTeller_33 ?_
                have hb_33 := hd i
                refine lv_iload_n C.1 C.2.1 dX11_isTeller_34 rfl (lv_at hl 2 rfl) ?_
                refine z_icmp_ne (tgt := 42) C dX11_isTeller_35 (by decide) (by omega) (fun c_35 => ?_) (fun c_35 => ?_)
                ·
                  refine lv_iconst (v := iI 0) C.1 C.2.1 dX11_isTeller_42 rfl ?_
                  refine z_iadd C dX11_isTeller_43 ?_
                  refine lv_istore (lv' := [(4, .int (iI (k + 0))), (5, .int (iI i)), (3, .int (iI j)), (2, .int (iI o)), (0, .ref x), (1, .int (iI b))]) C.1 C.2.1 dX11_isTeller_44 hl (by decide) rfl (fun ls hl => ?_)
                  refine lv_iinc (v := iI (i + 1)) (lv' := [(5, .int (iI (i + 1))), (4, .int (iI (k + 0))), (3, .int (iI j)), (2, .int (iI o)), (0, .ref x), (1, .int (iI b))]) C.1 C.2.1 dX11_isTeller_46 hl (k := 1) rfl (iI_add _ _) (by decide) rfl (fun ls hl => ?_)
                  refine lv_goto (tgt := 19) C.1 C.2.1 dX11_isTeller_49 (by decide) ?_
                  exact ih_19 (k + 0) (i + 1) (by first | omega | assumption | (intros; first | rfl | omega | assumption | (and_intros <;> first | rfl | omega | assumption))) (by rw [oc_s (by omega)]; split <;> omega) (by omega) _ (lv_sub hl [0, 1, 2, 3, 4, 5] rfl)
                ·
                  refine lv_iconst (v := iI 1) C.1 C.2.1 dX11_isTeller_38 rfl ?_
                  refine lv_goto (tgt := 43) C.1 C.2.1 dX11_isTeller_39 (by decide) ?_
                  refine z_iadd C dX11_isTeller_43 ?_
                  refine lv_istore (lv' := [(4, .int (iI (k + 1))), (5, .int (iI i)), (3, .int (iI j)), (2, .int (iI o)), (0, .ref x), (1, .int (iI b))]) C.1 C.2.1 dX11_isTeller_44 hl (by decide) rfl (fun ls hl => ?_)
                  refine lv_iinc (v := iI (i + 1)) (lv' := [(5, .int (iI (i + 1))), (4, .int (iI (k + 1))), (3, .int (iI j)), (2, .int (iI o)), (0, .ref x), (1, .int (iI b))]) C.1 C.2.1 dX11_isTeller_46 hl (k := 1) rfl (iI_add _ _) (by decide) rfl (fun ls hl => ?_)
                  refine lv_goto (tgt := 19) C.1 C.2.1 dX11_isTeller_49 (by decide) ?_
                  exact ih_19 (k + 1) (i + 1) (by first | omega | assumption | (intros; first | rfl | omega | assumption | (and_intros <;> first | rfl | omega | assumption))) (by rw [oc_s (by omega)]; split <;> omega) (by omega) _ (lv_sub hl [0, 1, 2, 3, 4, 5] rfl)
          exact cut_19 (((b - 0) + 1 : Int)).toNat 0 0 (by first | omega | assumption | (intros; first | rfl | omega | assumption | (and_intros <;> first | rfl | omega | assumption))) (by rw [oc_0 (by omega)]) (by omega) _ (lv_sub hl [0, 1, 2, 3, 4, 5] rfl)
  exact cut_4 (((b - 0) + 1 : Int)).toNat 1 0 (by first | omega | assumption | (intros; first | rfl | omega | assumption | (and_intros <;> first | rfl | omega | assumption))) (Or.inl ⟨rfl, fun y y0 y1 => by omega⟩) (by omega) _ (lv_sub hl [0, 1, 2, 3] rfl)
set_option maxHeartbeats 4000000 in
set_option maxRecDepth 100000 in
/-- code -/
theorem c_X11_code (l : Launch) (G : GG) (x : Nat) (ln : Int) (a1 : Nat) (pl : Int) (a3 : Nat) (a4 : Nat) (ri : Int) (ld : Int) (mn : Int) (a8 : Nat) (a9 : Nat) (nn : Int) (a11 : Nat) (fn : Int) (a13 : Nat) (lm : Int) (a15 : Nat) (a16 : Nat) (a17 : Nat) (a18 : Nat) (a19 : Nat) (a20 : Nat) (d : Int → Int) (b : Int) (hb : 2 ≤ b ∧ b ≤ 10) (hd : BD d) : MRc l yX11_code wsX11_code 0 G [.ref x, .int (iI b)] [(x, .inr (9, [.int (iI ln), .ref a1, .int (iI pl), .ref a3, .ref a4, .int (iI ri), .int (iI ld), .int (iI mn), .ref a8, .ref a9, .int (iI nn), .ref a11, .int (iI fn), .ref a13, .int (iI lm), .ref a15, .ref a16, .ref a17, .ref a18, .ref a19, .ref a20])), (a19, .inl (G.2.1 0, 11, .inl (iA d)))] (fun r => ∃ z : Int, r = some (.long (lI z)) ∧ (z = cd d b)) := by
  refine MRc.start (own := RX11) (by decide) rfl rfl (Nat.le_of_ble_eq_true rfl) ?_
  intro p9 e9 s9 m9 args below meth c9 A Q C hK hW hA hr hlocks hQ ls hl
  have hl : lv_has ls 5 [(0, .ref x), (1, .int (iI b))] := hl
  have hin11 : ∀ w ∈ wsX110, w ∈ wsX11_code := by decide +kernel
  refine lv_lconst (v := lI 0) C.1 C.2.1 dX11_code_0 rfl ?_
  refine lv_lstore_n (lv' := [(2, .long (lI 0)), (0, .ref x), (1, .int (iI b))]) C.1 C.2.1 dX11_code_1 rfl hl (by decide) rfl (fun ls hl => ?_)
  refine lv_iconst (v := iI 0) C.1 C.2.1 dX11_code_2 rfl ?_
  refine lv_istore (lv' := [(4, .int (iI 0)), (2, .long (lI 0)), (0, .ref x), (1, .int (iI b))]) C.1 C.2.1 dX11_code_3 hl (by decide) rfl (fun ls hl => ?_)
  have cut_5 : ∀ (n9 : Nat) (i : Int) (v : Int), (0 ≤ i ∧ i ≤ b) → (v = cd d i) → (b - i < (n9 : Int)) → ∀ (ls : Array Slot), lv_has ls 5 [(4, .int (iI i)), (2, .long (lI v)), (0, .ref x), (1, .int (iI b))] → W p9 l e9 (rmL 0) s9 m9 args below meth c9 s9.heap [] 0 0 Q (F0 m9 5 ls []) := by
    intro n9
    induction n9 with
    | zero => intro i v hi hv hmu; intros; exfalso; omega
    | succ n9 ih_5 =>
      intro i v hi hv hmu ls hl
      refine lv_iload C.1 C.2.1 dX11_code_5 (lv_at hl 0 rfl) ?_
      refine lv_iload_n C.1 C.2.1 dX11_code_7 rfl (lv_at hl 3 rfl) ?_
      refine z_icmp_ge (tgt := 32) C dX11_code_8 (by decide) (by omega) (fun c_8 => ?_) (fun c_8 => ?_)
      ·
        refine lv_lload_n C.1 C.2.1 dX11_code_32 rfl (lv_at hl 1 rfl) ?_
        rw [hQ]
        have hP9 : ∃ z : Int, (some (Value.long (lI v))) = some (.long (lI z)) ∧ (z = cd d b) := ⟨_, rfl, (by rw [hv]; congr 1; omega)⟩
        exact z_lretR C hr hlocks hP9 dX11_code_33
      ·
        refine z_ldc2 (z := 10) C (C.2.2.2.2 (.constantLong RX11 163 (10)) (List.mem_of_getElem? (i := 1) rfl)) (by decide +kernel) dX11_code_11 ?_
        refine lv_lload_n C.1 C.2.1 dX11_code_14 rfl (lv_at hl 1 rfl) ?_
        refine z_lmul C dX11_code_15 ?_
        refine lv_aload_n C.1 C.2.1 dX11_code_16 rfl (lv_at hl 2 rfl) ?_
        refine z_get C hK hW hin11 (v := .ref a19) 0 rfl rfl 19 (by decide) (C.2.2.2.2 (.fieldLink RX11 49 "TellingRowsModel" "digit" "[I") (List.mem_of_getElem? (i := 2) rfl)) (fun _ h9 => h9) rfl dX11_code_17 ?_
        refine lv_iload C.1 C.2.1 dX11_code_20 (lv_at hl 0 rfl) ?_
        refine z_iald C hK hW 1 rfl (by omega) (by omega) dX11_code_22 ?_
        have hb_22 := hd i
        refine z_i2l C dX11_code_23 (by omega) ?_
        refine z_ladd C dX11_code_24 ?_
        refine lv_lstore_n (lv' := [(2, .long (lI ((10 * v) + (d i)))), (4, .int (iI i)), (0, .ref x), (1, .int (iI b))]) C.1 C.2.1 dX11_code_25 rfl hl (by decide) rfl (fun ls hl => ?_)
        refine lv_iinc (v := iI (i + 1)) (lv' := [(4, .int (iI (i + 1))), (2, .long (lI ((10 * v) + (d i)))), (0, .ref x), (1, .int (iI b))]) C.1 C.2.1 dX11_code_26 hl (k := 1) rfl (iI_add _ _) (by decide) rfl (fun ls hl => ?_)
        refine lv_goto (tgt := 5) C.1 C.2.1 dX11_code_29 (by decide) ?_
        exact ih_5 (i + 1) ((10 * v) + (d i)) (by first | omega | assumption | (intros; first | rfl | omega | assumption | (and_intros <;> first | rfl | omega | assumption))) (by rw [cd_s hi.1, ← hv]) (by omega) _ (lv_sub hl [0, 1, 2, 3] rfl)
  exact cut_5 (((b - 0) + 1 : Int)).toNat 0 0 (by first | omega | assumption | (intros; first | rfl | omega | assumption | (and_intros <;> first | rfl | omega | assumption))) rfl (by omega) _ (lv_sub hl [0, 1, 2, 3] rfl)
