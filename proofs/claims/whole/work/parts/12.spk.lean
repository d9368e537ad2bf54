set_option maxHeartbeats 4000000 in
set_option maxRecDepth 100000 in
/-- Speaker.say -/
theorem c_X8_say (l : Launch) (G : GG) (h : Nat) (a : Nat) (N : Nat) (n : Int) (f : Int → Int) (h2 : Nat) (a2 : Nat) (m0 : Int) (g0 : Int → Int) (hN : N ≤ 2147483647) (hn : 0 ≤ n ∧ n ≤ (N : Int)) (hf : BD f) (hg0 : BD g0) : MQc l yX8_say wsX8_say 1 G [.ref h, .ref h2] [(h, .inr (5, [.ref a, .int (iI n)])), (a, .inl (G.2.1 0, N, .inl (iA f))), (h2, .inr (5, [.ref a2, .int (iI m0)])), (a2, .inl (G.2.1 0, 5000, .inl (iA g0)))] (fun r (u : Int × (Int → Int)) => ∃ z : Int, r = some (.int (iI z)) ∧ ((z = 1 ∧ SayR f n u.2 u.1) ∨ (z = 0 ∧ SayB f n)) ∧ (BD u.2) ∧ (0 ≤ u.1 ∧ u.1 ≤ 5000)) (fun u => [(h, .inr (5, [.ref a, .int (iI n)])), (a, .inl (G.2.1 0, N, .inl (iA f))), (h2, .inr (5, [.ref a2, .int (iI u.1)])), (a2, .inl (G.2.1 0, 5000, .inl (iA u.2)))]) := by
  refine MQc.start (own := RX8) (by decide) rfl rfl (Nat.le_of_ble_eq_true rfl) ?_
  intro p9 e9 s9 m9 args below meth c9 A Q C hK hW hA hr hlocks hQ ls hl
  have hl : lv_has ls 4 [(0, .ref h), (1, .ref h2)] := hl
  have hin6 : ∀ w ∈ wsX60, w ∈ wsX8_say := by decide +kernel
  refine lv_aload_n C.1 C.2.1 dX8_say_0 rfl (lv_at hl 1 rfl) ?_
  refine z_call (va_runV (As := []) (rest := []) C (c_X6_clear l G h2 a2 5000 m0 g0  s9.heap.size) (cwV 0 C.2.2.2.2 gX8_say_X6_clear rfl rfl rfl (by decide +kernel) ⟨Nat.le_of_ble_eq_true rfl, Nat.le_of_ble_eq_true rfl⟩) (z_preV hK hW hA [2, 3] rfl (by decide) (ci := 5) (q0 := 2) rfl rfl) rfl rfl hl.1 rfl (lv_room (Nat.le_of_ble_eq_true rfl)) dX8_say_1 ⟨Nat.zero_le _, Nat.zero_le _⟩) hW hA [2, 3] rfl (by decide) (fun _ => rfl) (fun r u H locs hp hW => ?_)
  have hp : ∃ z : Int, r = some (.int (iI z)) ∧ (z = m0) := hp
  obtain ⟨z_1, rfl, hz_1_0⟩ := hp
  have hW : Wd G A s9.heap [(h, .inr (5, [.ref a, .int (iI n)])), (a, .inl (G.2.1 0, N, .inl (iA f))), (h2, .inr (5, [.ref a2, .int (iI 0)])), (a2, .inl (G.2.1 0, 5000, .inl (iA g0)))] H locs := hW
  refine lv_pop C.1 C.2.1 dX8_say_4 rfl ?_
  refine lv_iconst (v := iI 0) C.1 C.2.1 dX8_say_5 rfl ?_
  refine lv_istore_n (lv' := [(2, .int (iI 0)), (0, .ref h), (1, .ref h2)]) C.1 C.2.1 dX8_say_6 rfl hl (by decide) rfl (fun ls hl => ?_)
  refine lv_iconst (v := iI 0) C.1 C.2.1 dX8_say_7 rfl ?_
  refine lv_istore_n (lv' := [(3, .int (iI 0)), (2, .int (iI 0)), (0, .ref h), (1, .ref h2)]) C.1 C.2.1 dX8_say_8 rfl hl (by decide) rfl (fun ls hl => ?_)
  have cut_9 : ∀ (n9 : Nat) (run : Int) (i : Int) (m : Int) (g : Int → Int), (0 ≤ i ∧ i ≤ n) → (SayC f n i run g m) → (BD g) → (n - i < (n9 : Int)) → ∀ (H : Heap) (locs : List Loc) (ls : Array Slot), Wd G A s9.heap [(h, .inr (5, [.ref a, .int (iI n)])), (a, .inl (G.2.1 0, N, .inl (iA f))), (h2, .inr (5, [.ref a2, .int (iI m)])), (a2, .inl (G.2.1 0, 5000, .inl (iA g)))] H locs → lv_has ls 4 [(3, .int (iI i)), (2, .int (iI run)), (0, .ref h), (1, .ref h2)] → W p9 l e9 (rmL 1) s9 m9 args below meth c9 H locs 0 0 Q (F0 m9 9 ls []) := by
    intro n9
    induction n9 with
    | zero => intro run i m g hi hI hg hmu; intros; exfalso; omega
    | succ n9 ih_9 =>
      intro run i m g hi hI hg hmu H locs ls hW hl
      have hM := SayC_m hI
      have hR := SayC_run hI
      refine lv_iload_n C.1 C.2.1 dX8_say_9 rfl (lv_at hl 0 rfl) ?_
      refine lv_aload_n C.1 C.2.1 dX8_say_10 rfl (lv_at hl 2 rfl) ?_
      refine z_callR (va_runV (As := []) (rest := [.int (iI i)]) C (c_X6_size l G h a N n f  H.size) (cwV 0 C.2.2.2.2 gX8_say_X6_size rfl rfl rfl (by decide +kernel) ⟨Nat.le_of_ble_eq_true rfl, Nat.le_of_ble_eq_true rfl⟩) (z_preV hK hW hA [0, 1] rfl (by decide) (ci := 5) (q0 := 0) rfl rfl) rfl rfl hl.1 rfl (lv_room (Nat.le_of_ble_eq_true rfl)) dX8_say_11 ⟨Nat.zero_le _, Nat.zero_le _⟩) (fun r hp => ?_)
      have hp : ∃ z : Int, r = some (.int (iI z)) ∧ (z = n) := hp
      obtain ⟨z_11, rfl, hz_11_0⟩ := hp
      refine z_icmp_ge (tgt := 84) C dX8_say_14 (by decide) (by omega) (fun c_14 => ?_) (fun c_14 => ?_)
      ·
        refine lv_iconst (v := iI 1) C.1 C.2.1 dX8_say_84 rfl ?_
        rw [hQ]
        have hP9 : ∃ z : Int, (some (Value.int (iI 1))) = some (.int (iI z)) ∧ ((z = 1 ∧ SayR f n g m) ∨ (z = 0 ∧ SayB f n)) ∧ (BD g) ∧ (0 ≤ m ∧ m ≤ 5000) := ⟨_, rfl, (Or.inl ⟨rfl, SayC_e hI (by omega) (by omega)⟩), hg, (by first | omega | assumption | (intros; first | rfl | omega | assumption | (and_intros <;> first | rfl | omega | assumption)))⟩
        exact z_zret C hr rfl hlocks hW (m, g) rfl hP9 dX8_say_85
      ·
        refine lv_iinc (v := iI (run + 1)) (lv' := [(2, .int (iI (run + 1))), (3, .int (iI i)), (0, .ref h), (1, .ref h2)]) C.1 C.2.1 dX8_say_17 hl (k := 1) rfl (iI_add _ _) (by decide) rfl (fun ls hl => ?_)
        refine lv_iload_n C.1 C.2.1 dX8_say_20 rfl (lv_at hl 1 rfl) ?_
        refine lv_iconst (v := iI 1) C.1 C.2.1 dX8_say_21 rfl ?_
        refine z_iadd C dX8_say_22 ?_
        refine lv_aload_n C.1 C.2.1 dX8_say_23 rfl (lv_at hl 2 rfl) ?_
        refine z_callR (va_runV (As := []) (rest := [.int (iI (i + 1))]) C (c_X6_size l G h a N n f  H.size) (cwV 0 C.2.2.2.2 gX8_say_X6_size rfl rfl rfl (by decide +kernel) ⟨Nat.le_of_ble_eq_true rfl, Nat.le_of_ble_eq_true rfl⟩) (z_preV hK hW hA [0, 1] rfl (by decide) (ci := 5) (q0 := 0) rfl rfl) rfl rfl hl.1 rfl (lv_room (Nat.le_of_ble_eq_true rfl)) dX8_say_24 ⟨Nat.zero_le _, Nat.zero_le _⟩) (fun r hp => ?_)
        have hp : ∃ z : Int, r = some (.int (iI z)) ∧ (z = n) := hp
        obtain ⟨z_24, rfl, hz_24_0⟩ := hp
        refine z_icmp_ge (tgt := 48) C dX8_say_27 (by decide) (by omega) (fun c_27 => ?_) (fun c_27 => ?_)
        ·
          refine lv_iload_n C.1 C.2.1 dX8_say_48 rfl (lv_at hl 0 rfl) ?_
          refine lv_bipush (v := iI 9) C.1 C.2.1 dX8_say_49 (by decide +kernel) ?_
          refine z_icmp_gt (tgt := 74) C dX8_say_51 (by decide) (by omega) (fun c_51 => ?_) (fun c_51 => ?_)
          ·
            refine lv_iconst (v := iI 0) C.1 C.2.1 dX8_say_74 rfl ?_
            rw [hQ]
            have hP9 : ∃ z : Int, (some (Value.int (iI 0))) = some (.int (iI z)) ∧ ((z = 1 ∧ SayR f n g m) ∨ (z = 0 ∧ SayB f n)) ∧ (BD g) ∧ (0 ≤ m ∧ m ≤ 5000) := ⟨_, rfl, (Or.inr ⟨rfl, SayC_b hI (by omega) (fun q9 => by first | omega | (have h1 := hz_34_0 (by omega); have h2 := hz_39_0 (by omega); omega)) (by first | exact Or.inl (by omega) | exact Or.inr (by omega))⟩), hg, (by first | omega | assumption | (intros; first | rfl | omega | assumption | (and_intros <;> first | rfl | omega | assumption)))⟩
            exact z_zret C hr rfl hlocks hW (m, g) rfl hP9 dX8_say_75
          ·
            refine lv_aload_n C.1 C.2.1 dX8_say_54 rfl (lv_at hl 3 rfl) ?_
            refine lv_iload_n C.1 C.2.1 dX8_say_55 rfl (lv_at hl 0 rfl) ?_
            refine z_call (va_runV (As := [.int (iI (run + 1))]) (rest := []) C (c_X6_add l G h2 a2 5000 m g (run + 1) (by first | omega | assumption | (intros; first | rfl | omega | assumption | (and_intros <;> first | rfl | omega | assumption))) (by first | omega | assumption | (intros; first | rfl | omega | assumption | (and_intros <;> first | rfl | omega | assumption))) hg (by first | omega | assumption | (intros; first | rfl | omega | assumption | (and_intros <;> first | rfl | omega | assumption))) H.size) (cwV 1 C.2.2.2.2 gX8_say_X6_add rfl rfl rfl (by decide +kernel) ⟨Nat.le_of_ble_eq_true rfl, Nat.le_of_ble_eq_true rfl⟩) (z_preV hK hW hA [2, 3] rfl (by decide) (ci := 5) (q0 := 2) rfl rfl) rfl rfl hl.1 rfl (lv_room (Nat.le_of_ble_eq_true rfl)) dX8_say_56 ⟨Nat.zero_le _, Nat.zero_le _⟩) hW hA [2, 3] rfl (by decide) (fun _ => rfl) (fun r u H locs hp hW => ?_)
            obtain ⟨n2_56, f2_56⟩ := u
            have hp : ∃ z : Int, r = some (.int (iI z)) ∧ ((m < (5000 : Int) → z = 1 ∧ n2_56 = m + 1 ∧ f2_56 = up g m (run + 1))) ∧ ((¬ m < (5000 : Int) → z = 0 ∧ n2_56 = m ∧ f2_56 = g)) ∧ (BD f2_56) := hp
            obtain ⟨z_56, rfl, hz_56_0, hz_56_1, hz_56_2⟩ := hp
            have hW : Wd G A s9.heap [(h, .inr (5, [.ref a, .int (iI n)])), (a, .inl (G.2.1 0, N, .inl (iA f))), (h2, .inr (5, [.ref a2, .int (iI n2_56)])), (a2, .inl (G.2.1 0, 5000, .inl (iA f2_56)))] H locs := hW
            have hs56 : (m < 5000 → z_56 = 1 ∧ n2_56 = m + 1) ∧ (¬ m < 5000 → z_56 = 0 ∧ n2_56 = m) := ⟨fun q9 => ⟨(hz_56_0 q9).1, (hz_56_0 q9).2.1⟩, fun q9 => ⟨(hz_56_1 q9).1, (hz_56_1 q9).2.1⟩⟩
            refine z_if_eq (tgt := 74) C dX8_say_59 (by decide) (by omega) (fun c_59 => ?_) (fun c_59 => ?_)
            ·
              refine lv_iconst (v := iI 0) C.1 C.2.1 dX8_say_74 rfl ?_
              rw [hQ]
              have hP9 : ∃ z : Int, (some (Value.int (iI 0))) = some (.int (iI z)) ∧ ((z = 1 ∧ SayR f n f2_56 n2_56) ∨ (z = 0 ∧ SayB f n)) ∧ (BD f2_56) ∧ (0 ≤ n2_56 ∧ n2_56 ≤ 5000) := ⟨_, rfl, (Or.inr ⟨rfl, SayC_b hI (by omega) (fun q9 => by first | omega | (have h1 := hz_34_0 (by omega); have h2 := hz_39_0 (by omega); omega)) (by first | exact Or.inl (by omega) | exact Or.inr (by omega))⟩), hz_56_2, (by first | omega | assumption | (intros; first | rfl | omega | assumption | (and_intros <;> first | rfl | omega | assumption)))⟩
              exact z_zret C hr rfl hlocks hW (n2_56, f2_56) rfl hP9 dX8_say_75
            ·
              refine lv_aload_n C.1 C.2.1 dX8_say_62 rfl (lv_at hl 3 rfl) ?_
              refine lv_aload_n C.1 C.2.1 dX8_say_63 rfl (lv_at hl 2 rfl) ?_
              refine lv_iload_n C.1 C.2.1 dX8_say_64 rfl (lv_at hl 1 rfl) ?_
              refine z_callR (va_runV (As := [.int (iI i)]) (rest := [.ref h2]) C (c_X6_get l G h a N n f i hN hn hf (by first | omega | assumption | (intros; first | rfl | omega | assumption | (and_intros <;> first | rfl | omega | assumption))) H.size) (cwV 1 C.2.2.2.2 gX8_say_X6_get rfl rfl rfl (by decide +kernel) ⟨Nat.le_of_ble_eq_true rfl, Nat.le_of_ble_eq_true rfl⟩) (z_preV hK hW hA [0, 1] rfl (by decide) (ci := 5) (q0 := 0) rfl rfl) rfl rfl hl.1 rfl (lv_room (Nat.le_of_ble_eq_true rfl)) dX8_say_65 ⟨Nat.zero_le _, Nat.zero_le _⟩) (fun r hp => ?_)
              have hp : ∃ z : Int, r = some (.int (iI z)) ∧ ((0 ≤ i ∧ i < n → z = f i)) ∧ ((¬ (0 ≤ i ∧ i < n) → z = -4)) ∧ (-2147483648 ≤ z ∧ z ≤ 2147483647) := hp
              obtain ⟨z_65, rfl, hz_65_0, hz_65_1, hz_65_2⟩ := hp
              refine z_call (va_runV (As := [.int (iI z_65)]) (rest := []) C (c_X6_add l G h2 a2 5000 n2_56 f2_56 z_65 (by first | omega | assumption | (intros; first | rfl | omega | assumption | (and_intros <;> first | rfl | omega | assumption))) (by first | omega | assumption | (intros; first | rfl | omega | assumption | (and_intros <;> first | rfl | omega | assumption))) hz_56_2 hz_65_2 H.size) (cwV 1 C.2.2.2.2 gX8_say_X6_add rfl rfl rfl (by decide +kernel) ⟨Nat.le_of_ble_eq_true rfl, Nat.le_of_ble_eq_true rfl⟩) (z_preV hK hW hA [2, 3] rfl (by decide) (ci := 5) (q0 := 2) rfl rfl) rfl rfl hl.1 rfl (lv_room (Nat.le_of_ble_eq_true rfl)) dX8_say_68 ⟨Nat.zero_le _, Nat.zero_le _⟩) hW hA [2, 3] rfl (by decide) (fun _ => rfl) (fun r u H locs hp hW => ?_)
              obtain ⟨n2_68, f2_68⟩ := u
              have hp : ∃ z : Int, r = some (.int (iI z)) ∧ ((n2_56 < (5000 : Int) → z = 1 ∧ n2_68 = n2_56 + 1 ∧ f2_68 = up f2_56 n2_56 z_65)) ∧ ((¬ n2_56 < (5000 : Int) → z = 0 ∧ n2_68 = n2_56 ∧ f2_68 = f2_56)) ∧ (BD f2_68) := hp
              obtain ⟨z_68, rfl, hz_68_0, hz_68_1, hz_68_2⟩ := hp
              have hW : Wd G A s9.heap [(h, .inr (5, [.ref a, .int (iI n)])), (a, .inl (G.2.1 0, N, .inl (iA f))), (h2, .inr (5, [.ref a2, .int (iI n2_68)])), (a2, .inl (G.2.1 0, 5000, .inl (iA f2_68)))] H locs := hW
              have hs68 : (n2_56 < 5000 → z_68 = 1 ∧ n2_68 = n2_56 + 1) ∧ (¬ n2_56 < 5000 → z_68 = 0 ∧ n2_68 = n2_56) := ⟨fun q9 => ⟨(hz_68_0 q9).1, (hz_68_0 q9).2.1⟩, fun q9 => ⟨(hz_68_1 q9).1, (hz_68_1 q9).2.1⟩⟩
              refine z_if_ne (tgt := 76) C dX8_say_71 (by decide) (by omega) (fun c_71 => ?_) (fun c_71 => ?_)
              ·
                refine lv_iconst (v := iI 0) C.1 C.2.1 dX8_say_76 rfl ?_
                refine lv_istore_n (lv' := [(2, .int (iI 0)), (3, .int (iI i)), (0, .ref h), (1, .ref h2)]) C.1 C.2.1 dX8_say_77 rfl hl (by decide) rfl (fun ls hl => ?_)
                refine lv_iinc (v := iI (i + 1)) (lv' := [(3, .int (iI (i + 1))), (2, .int (iI 0)), (0, .ref h), (1, .ref h2)]) C.1 C.2.1 dX8_say_78 hl (k := 1) rfl (iI_add _ _) (by decide) rfl (fun ls hl => ?_)
                refine lv_goto (tgt := 9) C.1 C.2.1 dX8_say_81 (by decide) ?_
                exact ih_9 0 (i + 1) n2_68 f2_68 (by first | omega | assumption | (intros; first | rfl | omega | assumption | (and_intros <;> first | rfl | omega | assumption))) (by first | exact SayC_c hI (by omega) (by have h1 := hz_34_0 (by omega); have h2 := hz_39_0 (by omega); omega) | (obtain ⟨_, e1, e2⟩ := hz_56_0 (by omega); obtain ⟨_, e3, e4⟩ := hz_68_0 (by omega); have e5 := hz_65_0 (by omega); rw [e4, e3, e2, e1, e5, show m + 1 + 1 = m + 2 by omega]; exact SayC_n hI (by omega) (fun q9 => by first | omega | (have h1 := hz_34_0 (by omega); have h2 := hz_39_0 (by omega); omega)) (by omega) (by omega))) hz_68_2 (by omega) _ _ _ hW (lv_sub hl [0, 1, 2, 3] rfl)
              ·
                exfalso; omega
        ·
          refine lv_aload_n C.1 C.2.1 dX8_say_30 rfl (lv_at hl 2 rfl) ?_
          refine lv_iload_n C.1 C.2.1 dX8_say_31 rfl (lv_at hl 1 rfl) ?_
          refine lv_iconst (v := iI 1) C.1 C.2.1 dX8_say_32 rfl ?_
          refine z_iadd C dX8_say_33 ?_
          refine z_callR (va_runV (As := [.int (iI (i + 1))]) (rest := []) C (c_X6_get l G h a N n f (i + 1) hN hn hf (by first | omega | assumption | (intros; first | rfl | omega | assumption | (and_intros <;> first | rfl | omega | assumption))) H.size) (cwV 1 C.2.2.2.2 gX8_say_X6_get rfl rfl rfl (by decide +kernel) ⟨Nat.le_of_ble_eq_true rfl, Nat.le_of_ble_eq_true rfl⟩) (z_preV hK hW hA [0, 1] rfl (by decide) (ci := 5) (q0 := 0) rfl rfl) rfl rfl hl.1 rfl (lv_room (Nat.le_of_ble_eq_true rfl)) dX8_say_34 ⟨Nat.zero_le _, Nat.zero_le _⟩) (fun r hp => ?_)
          have hp : ∃ z : Int, r = some (.int (iI z)) ∧ ((0 ≤ (i + 1) ∧ (i + 1) < n → z = f (i + 1))) ∧ ((¬ (0 ≤ (i + 1) ∧ (i + 1) < n) → z = -4)) ∧ (-2147483648 ≤ z ∧ z ≤ 2147483647) := hp
          obtain ⟨z_34, rfl, hz_34_0, hz_34_1, hz_34_2⟩ := hp
          refine lv_aload_n C.1 C.2.1 dX8_say_37 rfl (lv_at hl 2 rfl) ?_
          refine lv_iload_n C.1 C.2.1 dX8_say_38 rfl (lv_at hl 1 rfl) ?_
          refine z_callR (va_runV (As := [.int (iI i)]) (rest := [.int (iI z_34)]) C (c_X6_get l G h a N n f i hN hn hf (by first | omega | assumption | (intros; first | rfl | omega | assumption | (and_intros <;> first | rfl | omega | assumption))) H.size) (cwV 1 C.2.2.2.2 gX8_say_X6_get rfl rfl rfl (by decide +kernel) ⟨Nat.le_of_ble_eq_true rfl, Nat.le_of_ble_eq_true rfl⟩) (z_preV hK hW hA [0, 1] rfl (by decide) (ci := 5) (q0 := 0) rfl rfl) rfl rfl hl.1 rfl (lv_room (Nat.le_of_ble_eq_true rfl)) dX8_say_39 ⟨Nat.zero_le _, Nat.zero_le _⟩) (fun r hp => ?_)
          have hp : ∃ z : Int, r = some (.int (iI z)) ∧ ((0 ≤ i ∧ i < n → z = f i)) ∧ ((¬ (0 ≤ i ∧ i < n) → z = -4)) ∧ (-2147483648 ≤ z ∧ z ≤ 2147483647) := hp
          obtain ⟨z_39, rfl, hz_39_0, hz_39_1, hz_39_2⟩ := hp
          refine z_icmp_ne (tgt := 48) C dX8_say_42 (by decide) (by omega) (fun c_42 => ?_) (fun c_42 => ?_)
          ·
            refine lv_iload_n C.1 C.2.1 dX8_say_48 rfl (lv_at hl 0 rfl) ?_
            refine lv_bipush (v := iI 9) C.1 C.2.1 dX8_say_49 (by decide +kernel) ?_
            refine z_icmp_gt (tgt := 74) C dX8_say_51 (by decide) (by omega) (fun c_51 => ?_) (fun c_51 => ?_)
            ·
              refine lv_iconst (v := iI 0) C.1 C.2.1 dX8_say_74 rfl ?_
              rw [hQ]
              have hP9 : ∃ z : Int, (some (Value.int (iI 0))) = some (.int (iI z)) ∧ ((z = 1 ∧ SayR f n g m) ∨ (z = 0 ∧ SayB f n)) ∧ (BD g) ∧ (0 ≤ m ∧ m ≤ 5000) := ⟨_, rfl, (Or.inr ⟨rfl, SayC_b hI (by omega) (fun q9 => by first | omega | (have h1 := hz_34_0 (by omega); have h2 := hz_39_0 (by omega); omega)) (by first | exact Or.inl (by omega) | exact Or.inr (by omega))⟩), hg, (by first | omega | assumption | (intros; first | rfl | omega | assumption | (and_intros <;> first | rfl | omega | assumption)))⟩
              exact z_zret C hr rfl hlocks hW (m, g) rfl hP9 dX8_say_75
            ·
              refine lv_aload_n C.1 C.2.1 dX8_say_54 rfl (lv_at hl 3 rfl) ?_
              refine lv_iload_n C.1 C.2.1 dX8_say_55 rfl (lv_at hl 0 rfl) ?_
              refine z_call (va_runV (As := [.int (iI (run + 1))]) (rest := []) C (c_X6_add l G h2 a2 5000 m g (run + 1) (by first | omega | assumption | (intros; first | rfl | omega | assumption | (and_intros <;> first | rfl | omega | assumption))) (by first | omega | assumption | (intros; first | rfl | omega | assumption | (and_intros <;> first | rfl | omega | assumption))) hg (by first | omega | assumption | (intros; first | rfl | omega | assumption | (and_intros <;> first | rfl | omega | assumption))) H.size) (cwV 1 C.2.2.2.2 gX8_say_X6_add rfl rfl rfl (by decide +kernel) ⟨Nat.le_of_ble_eq_true rfl, Nat.le_of_ble_eq_true rfl⟩) (z_preV hK hW hA [2, 3] rfl (by decide) (ci := 5) (q0 := 2) rfl rfl) rfl rfl hl.1 rfl (lv_room (Nat.le_of_ble_eq_true rfl)) dX8_say_56 ⟨Nat.zero_le _, Nat.zero_le _⟩) hW hA [2, 3] rfl (by decide) (fun _ => rfl) (fun r u H locs hp hW => ?_)
              obtain ⟨n2_56, f2_56⟩ := u
              have hp : ∃ z : Int, r = some (.int (iI z)) ∧ ((m < (5000 : Int) → z = 1 ∧ n2_56 = m + 1 ∧ f2_56 = up g m (run + 1))) ∧ ((¬ m < (5000 : Int) → z = 0 ∧ n2_56 = m ∧ f2_56 = g)) ∧ (BD f2_56) := hp
              obtain ⟨z_56, rfl, hz_56_0, hz_56_1, hz_56_2⟩ := hp
              have hW : Wd G A s9.heap [(h, .inr (5, [.ref a, .int (iI n)])), (a, .inl (G.2.1 0, N, .inl (iA f))), (h2, .inr (5, [.ref a2, .int (iI n2_56)])), (a2, .inl (G.2.1 0, 5000, .inl (iA f2_56)))] H locs := hW
              have hs56 : (m < 5000 → z_56 = 1 ∧ n2_56 = m + 1) ∧ (¬ m < 5000 → z_56 = 0 ∧ n2_56 = m) := ⟨fun q9 => ⟨(hz_56_0 q9).1, (hz_56_0 q9).2.1⟩, fun q9 => ⟨(hz_56_1 q9).1, (hz_56_1 q9).2.1⟩⟩
              refine z_if_eq (tgt := 74) C dX8_say_59 (by decide) (by omega) (fun c_59 => ?_) (fun c_59 => ?_)
              ·
                refine lv_iconst (v := iI 0) C.1 C.2.1 dX8_say_74 rfl ?_
                rw [hQ]
                have hP9 : ∃ z : Int, (some (Value.int (iI 0))) = some (.int (iI z)) ∧ ((z = 1 ∧ SayR f n f2_56 n2_56) ∨ (z = 0 ∧ SayB f n)) ∧ (BD f2_56) ∧ (0 ≤ n2_56 ∧ n2_56 ≤ 5000) := ⟨_, rfl, (Or.inr ⟨rfl, SayC_b hI (by omega) (fun q9 => by first | omega | (have h1 := hz_34_0 (by omega); have h2 := hz_39_0 (by omega); omega)) (by first | exact Or.inl (by omega) | exact Or.inr (by omega))⟩), hz_56_2, (by first | omega | assumption | (intros; first | rfl | omega | assumption | (and_intros <;> first | rfl | omega | assumption)))⟩
                exact z_zret C hr rfl hlocks hW (n2_56, f2_56) rfl hP9 dX8_say_75
              ·
                refine lv_aload_n C.1 C.2.1 dX8_say_62 rfl (lv_at hl 3 rfl) ?_
                refine lv_aload_n C.1 C.2.1 dX8_say_63 rfl (lv_at hl 2 rfl) ?_
                refine lv_iload_n C.1 C.2.1 dX8_say_64 rfl (lv_at hl 1 rfl) ?_
                refine z_callR (va_runV (As := [.int (iI i)]) (rest := [.ref h2]) C (c_X6_get l G h a N n f i hN hn hf (by first | omega | assumption | (intros; first | rfl | omega | assumption | (and_intros <;> first | rfl | omega | assumption))) H.size) (cwV 1 C.2.2.2.2 gX8_say_X6_get rfl rfl rfl (by decide +kernel) ⟨Nat.le_of_ble_eq_true rfl, Nat.le_of_ble_eq_true rfl⟩) (z_preV hK hW hA [0, 1] rfl (by decide) (ci := 5) (q0 := 0) rfl rfl) rfl rfl hl.1 rfl (lv_room (Nat.le_of_ble_eq_true rfl)) dX8_say_65 ⟨Nat.zero_le _, Nat.zero_le _⟩) (fun r hp => ?_)
                have hp : ∃ z : Int, r = some (.int (iI z)) ∧ ((0 ≤ i ∧ i < n → z = f i)) ∧ ((¬ (0 ≤ i ∧ i < n) → z = -4)) ∧ (-2147483648 ≤ z ∧ z ≤ 2147483647) := hp
                obtain ⟨z_65, rfl, hz_65_0, hz_65_1, hz_65_2⟩ := hp
                refine z_call (va_runV (As := [.int (iI z_65)]) (rest := []) C (c_X6_add l G h2 a2 5000 n2_56 f2_56 z_65 (by first | omega | assumption | (intros; first | rfl | omega | assumption | (and_intros <;> first | rfl | omega | assumption))) (by first | omega | assumption | (intros; first | rfl | omega | assumption | (and_intros <;> first | rfl | omega | assumption))) hz_56_2 hz_65_2 H.size) (cwV 1 C.2.2.2.2 gX8_say_X6_add rfl rfl rfl (by decide +kernel) ⟨Nat.le_of_ble_eq_true rfl, Nat.le_of_ble_eq_true rfl⟩) (z_preV hK hW hA [2, 3] rfl (by decide) (ci := 5) (q0 := 2) rfl rfl) rfl rfl hl.1 rfl (lv_room (Nat.le_of_ble_eq_true rfl)) dX8_say_68 ⟨Nat.zero_le _, Nat.zero_le _⟩) hW hA [2, 3] rfl (by decide) (fun _ => rfl) (fun r u H locs hp hW => ?_)
                obtain ⟨n2_68, f2_68⟩ := u
                have hp : ∃ z : Int, r = some (.int (iI z)) ∧ ((n2_56 < (5000 : Int) → z = 1 ∧ n2_68 = n2_56 + 1 ∧ f2_68 = up f2_56 n2_56 z_65)) ∧ ((¬ n2_56 < (5000 : Int) → z = 0 ∧ n2_68 = n2_56 ∧ f2_68 = f2_56)) ∧ (BD f2_68) := hp
                obtain ⟨z_68, rfl, hz_68_0, hz_68_1, hz_68_2⟩ := hp
                have hW : Wd G A s9.heap [(h, .inr (5, [.ref a, .int (iI n)])), (a, .inl (G.2.1 0, N, .inl (iA f))), (h2, .inr (5, [.ref a2, .int (iI n2_68)])), (a2, .inl (G.2.1 0, 5000, .inl (iA f2_68)))] H locs := hW
                have hs68 : (n2_56 < 5000 → z_68 = 1 ∧ n2_68 = n2_56 + 1) ∧ (¬ n2_56 < 5000 → z_68 = 0 ∧ n2_68 = n2_56) := ⟨fun q9 => ⟨(hz_68_0 q9).1, (hz_68_0 q9).2.1⟩, fun q9 => ⟨(hz_68_1 q9).1, (hz_68_1 q9).2.1⟩⟩
                refine z_if_ne (tgt := 76) C dX8_say_71 (by decide) (by omega) (fun c_71 => ?_) (fun c_71 => ?_)
                ·
                  refine lv_iconst (v := iI 0) C.1 C.2.1 dX8_say_76 rfl ?_
                  refine lv_istore_n (lv' := [(2, .int (iI 0)), (3, .int (iI i)), (0, .ref h), (1, .ref h2)]) C.1 C.2.1 dX8_say_77 rfl hl (by decide) rfl (fun ls hl => ?_)
                  refine lv_iinc (v := iI (i + 1)) (lv' := [(3, .int (iI (i + 1))), (2, .int (iI 0)), (0, .ref h), (1, .ref h2)]) C.1 C.2.1 dX8_say_78 hl (k := 1) rfl (iI_add _ _) (by decide) rfl (fun ls hl => ?_)
                  refine lv_goto (tgt := 9) C.1 C.2.1 dX8_say_81 (by decide) ?_
                  exact ih_9 0 (i + 1) n2_68 f2_68 (by first | omega | assumption | (intros; first | rfl | omega | assumption | (and_intros <;> first | rfl | omega | assumption))) (by first | exact SayC_c hI (by omega) (by have h1 := hz_34_0 (by omega); have h2 := hz_39_0 (by omega); omega) | (obtain ⟨_, e1, e2⟩ := hz_56_0 (by omega); obtain ⟨_, e3, e4⟩ := hz_68_0 (by omega); have e5 := hz_65_0 (by omega); rw [e4, e3, e2, e1, e5, show m + 1 + 1 = m + 2 by omega]; exact SayC_n hI (by omega) (fun q9 => by first | omega | (have h1 := hz_34_0 (by omega); have h2 := hz_39_0 (by omega); omega)) (by omega) (by omega))) hz_68_2 (by omega) _ _ _ hW (lv_sub hl [0, 1, 2, 3] rfl)
                ·
                  exfalso; omega
          ·
            refine lv_goto (tgt := 78) C.1 C.2.1 dX8_say_45 (by decide) ?_
            refine lv_iinc (v := iI (i + 1)) (lv' := [(3, .int (iI (i + 1))), (2, .int (iI (run + 1))), (0, .ref h), (1, .ref h2)]) C.1 C.2.1 dX8_say_78 hl (k := 1) rfl (iI_add _ _) (by decide) rfl (fun ls hl => ?_)
            refine lv_goto (tgt := 9) C.1 C.2.1 dX8_say_81 (by decide) ?_
            exact ih_9 (run + 1) (i + 1) m g (by first | omega | assumption | (intros; first | rfl | omega | assumption | (and_intros <;> first | rfl | omega | assumption))) (by first | exact SayC_c hI (by omega) (by have h1 := hz_34_0 (by omega); have h2 := hz_39_0 (by omega); omega) | (obtain ⟨_, e1, e2⟩ := hz_56_0 (by omega); obtain ⟨_, e3, e4⟩ := hz_68_0 (by omega); have e5 := hz_65_0 (by omega); rw [e4, e3, e2, e1, e5, show m + 1 + 1 = m + 2 by omega]; exact SayC_n hI (by omega) (fun q9 => by first | omega | (have h1 := hz_34_0 (by omega); have h2 := hz_39_0 (by omega); omega)) (by omega) (by omega))) hg (by omega) _ _ _ hW (lv_sub hl [0, 1, 2, 3] rfl)
  exact cut_9 (((n - 0) + 1 : Int)).toNat 0 0 0 g0 (by first | omega | assumption | (intros; first | rfl | omega | assumption | (and_intros <;> first | rfl | omega | assumption))) (SayC_0 (by omega)) hg0 (by omega) _ _ _ hW (lv_sub hl [0, 1, 2, 3] rfl)
set_option maxHeartbeats 4000000 in
set_option maxRecDepth 100000 in
/-- Speaker.tally -/
theorem c_X8_tally (l : Launch) (G : GG) (h : Nat) (a : Nat) (N : Nat) (n : Int) (f : Int → Int) (h2 : Nat) (a2 : Nat) (N2 : Nat) (m0 : Int) (g0 : Int → Int) (hN : N ≤ 2147483647) (hn : 0 ≤ n ∧ n ≤ (N : Int)) (hf : BD f) (hN2 : 18 ≤ N2 ∧ N2 ≤ 2147483647) (hg0 : BD g0) : MQc l yX8_tally wsX8_tally 1 G [.ref h, .ref h2] [(h, .inr (5, [.ref a, .int (iI n)])), (a, .inl (G.2.1 0, N, .inl (iA f))), (h2, .inr (5, [.ref a2, .int (iI m0)])), (a2, .inl (G.2.1 0, N2, .inl (iA g0)))] (fun r (u : Int × (Int → Int)) => ∃ z : Int, r = some (.int (iI z)) ∧ ((z = 1 ∧ TalR f n u.2 u.1) ∨ (z = 0 ∧ TalB f n)) ∧ (BD u.2) ∧ (0 ≤ u.1 ∧ u.1 ≤ 18)) (fun u => [(h, .inr (5, [.ref a, .int (iI n)])), (a, .inl (G.2.1 0, N, .inl (iA f))), (h2, .inr (5, [.ref a2, .int (iI u.1)])), (a2, .inl (G.2.1 0, N2, .inl (iA u.2)))]) := by
  refine MQc.start (own := RX8) (by decide) rfl rfl (Nat.le_of_ble_eq_true rfl) ?_
  intro p9 e9 s9 m9 args below meth c9 A Q C hK hW hA hr hlocks hQ ls hl
  have hl : lv_has ls 5 [(0, .ref h), (1, .ref h2)] := hl
  have hin6 : ∀ w ∈ wsX60, w ∈ wsX8_tally := by decide +kernel
  refine lv_aload_n C.1 C.2.1 dX8_tally_0 rfl (lv_at hl 1 rfl) ?_
  refine z_call (va_runV (As := []) (rest := []) C (c_X6_clear l G h2 a2 N2 m0 g0  s9.heap.size) (cwV 0 C.2.2.2.2 gX8_tally_X6_clear rfl rfl rfl (by decide +kernel) ⟨Nat.le_of_ble_eq_true rfl, Nat.le_of_ble_eq_true rfl⟩) (z_preV hK hW hA [2, 3] rfl (by decide) (ci := 5) (q0 := 2) rfl rfl) rfl rfl hl.1 rfl (lv_room (Nat.le_of_ble_eq_true rfl)) dX8_tally_1 ⟨Nat.zero_le _, Nat.zero_le _⟩) hW hA [2, 3] rfl (by decide) (fun _ => rfl) (fun r u H locs hp hW => ?_)
  have hp : ∃ z : Int, r = some (.int (iI z)) ∧ (z = m0) := hp
  obtain ⟨z_1, rfl, hz_1_0⟩ := hp
  have hW : Wd G A s9.heap [(h, .inr (5, [.ref a, .int (iI n)])), (a, .inl (G.2.1 0, N, .inl (iA f))), (h2, .inr (5, [.ref a2, .int (iI 0)])), (a2, .inl (G.2.1 0, N2, .inl (iA g0)))] H locs := hW
  refine lv_pop C.1 C.2.1 dX8_tally_4 rfl ?_
  refine lv_iconst (v := iI 1) C.1 C.2.1 dX8_tally_5 rfl ?_
  refine lv_istore_n (lv' := [(2, .int (iI 1)), (0, .ref h), (1, .ref h2)]) C.1 C.2.1 dX8_tally_6 rfl hl (by decide) rfl (fun ls hl => ?_)
  have cut_7 : ∀ (n9 : Nat) (fg : Int) (m : Int) (g : Int → Int), (1 ≤ fg ∧ fg ≤ 10) → (TalS f n (fg - 1) g m) → (BD g) → (10 - fg < (n9 : Int)) → ∀ (H : Heap) (locs : List Loc) (ls : Array Slot), Wd G A s9.heap [(h, .inr (5, [.ref a, .int (iI n)])), (a, .inl (G.2.1 0, N, .inl (iA f))), (h2, .inr (5, [.ref a2, .int (iI m)])), (a2, .inl (G.2.1 0, N2, .inl (iA g)))] H locs → lv_has ls 5 [(2, .int (iI fg)), (0, .ref h), (1, .ref h2)] → W p9 l e9 (rmL 1) s9 m9 args below meth c9 H locs 0 0 Q (F0 m9 7 ls []) := by
    intro n9
    induction n9 with
    | zero => intro fg m g hi hI hg hmu; intros; exfalso; omega
    | succ n9 ih_7 =>
      intro fg m g hi hI hg hmu H locs ls hW hl
      have hM := TalS_m hI (by omega)
      refine lv_iload_n C.1 C.2.1 dX8_tally_7 rfl (lv_at hl 0 rfl) ?_
      refine lv_bipush (v := iI 9) C.1 C.2.1 dX8_tally_8 (by decide +kernel) ?_
      refine z_icmp_gt (tgt := 80) C dX8_tally_10 (by decide) (by omega) (fun c_10 => ?_) (fun c_10 => ?_)
      ·
        refine lv_iconst (v := iI 1) C.1 C.2.1 dX8_tally_80 rfl ?_
        rw [hQ]
        have hP9 : ∃ z : Int, (some (Value.int (iI 1))) = some (.int (iI z)) ∧ ((z = 1 ∧ TalR f n g m) ∨ (z = 0 ∧ TalB f n)) ∧ (BD g) ∧ (0 ≤ m ∧ m ≤ 18) := ⟨_, rfl, (Or.inl ⟨rfl, by rw [show fg - 1 = 9 by omega] at hI; exact hI⟩), hg, (by first | omega | assumption | (intros; first | rfl | omega | assumption | (and_intros <;> first | rfl | omega | assumption)))⟩
        exact z_zret C hr rfl hlocks hW (m, g) rfl hP9 dX8_tally_81
      ·
        refine lv_iconst (v := iI 0) C.1 C.2.1 dX8_tally_13 rfl ?_
        refine lv_istore_n (lv' := [(3, .int (iI 0)), (2, .int (iI fg)), (0, .ref h), (1, .ref h2)]) C.1 C.2.1 dX8_tally_14 rfl hl (by decide) rfl (fun ls hl => ?_)
        refine lv_iconst (v := iI 0) C.1 C.2.1 dX8_tally_15 rfl ?_
        refine lv_istore (lv' := [(4, .int (iI 0)), (3, .int (iI 0)), (2, .int (iI fg)), (0, .ref h), (1, .ref h2)]) C.1 C.2.1 dX8_tally_16 hl (by decide) rfl (fun ls hl => ?_)
        have cut_18 : ∀ (n9 : Nat) (k : Int) (i : Int), (0 ≤ i ∧ i ≤ n) → (k = oc f fg i) → (n - i < (n9 : Int)) → ∀ (H : Heap) (locs : List Loc) (ls : Array Slot), Wd G A s9.heap [(h, .inr (5, [.ref a, .int (iI n)])), (a, .inl (G.2.1 0, N, .inl (iA f))), (h2, .inr (5, [.ref a2, .int (iI m)])), (a2, .inl (G.2.1 0, N2, .inl (iA g)))] H locs → lv_has ls 5 [(4, .int (iI i)), (3, .int (iI k)), (2, .int (iI fg)), (0, .ref h), (1, .ref h2)] → W p9 l e9 (rmL 1) s9 m9 args below meth c9 H locs 0 0 Q (F0 m9 18 ls []) := by
          intro n9
          induction n9 with
          | zero => intro k i hi2 hk hmu; intros; exfalso; omega
          | succ n9 ih_18 =>
            intro k i hi2 hk hmu H locs ls hW hl
            have hkb := oc_b (g := f) (v := fg) hi2.1
            refine lv_iload C.1 C.2.1 dX8_tally_18 (lv_at hl 0 rfl) ?_
            refine lv_aload_n C.1 C.2.1 dX8_tally_20 rfl (lv_at hl 3 rfl) ?_
            refine z_callR (va_runV (As := []) (rest := [.int (iI i)]) C (c_X6_size l G h a N n f  H.size) (cwV 0 C.2.2.2.2 gX8_tally_X6_size rfl rfl rfl (by decide +kernel) ⟨Nat.le_of_ble_eq_true rfl, Nat.le_of_ble_eq_true rfl⟩) (z_preV hK hW hA [0, 1] rfl (by decide) (ci := 5) (q0 := 0) rfl rfl) rfl rfl hl.1 rfl (lv_room (Nat.le_of_ble_eq_true rfl)) dX8_tally_21 ⟨Nat.zero_le _, Nat.zero_le _⟩) (fun r hp => ?_)
            have hp : ∃ z : Int, r = some (.int (iI z)) ∧ (z = n) := hp
            obtain ⟨z_21, rfl, hz_21_0⟩ := hp
            refine z_icmp_ge (tgt := 46) C dX8_tally_24 (by decide) (by omega) (fun c_24 => ?_) (fun c_24 => ?_)
            ·
              refine lv_iload_n C.1 C.2.1 dX8_tally_46 rfl (lv_at hl 1 rfl) ?_
              refine lv_bipush (v := iI 9) C.1 C.2.1 dX8_tally_47 (by decide +kernel) ?_
              refine z_icmp_gt (tgt := 72) C dX8_tally_49 (by decide) (by omega) (fun c_49 => ?_) (fun c_49 => ?_)
              ·
                refine lv_iconst (v := iI 0) C.1 C.2.1 dX8_tally_72 rfl ?_
                rw [hQ]
                have hP9 : ∃ z : Int, (some (Value.int (iI 0))) = some (.int (iI z)) ∧ ((z = 1 ∧ TalR f n g m) ∨ (z = 0 ∧ TalB f n)) ∧ (BD g) ∧ (0 ≤ m ∧ m ≤ 18) := ⟨_, rfl, (Or.inr ⟨rfl, fg - 1, by omega, by omega, by rw [show fg - 1 + 1 = fg by omega, show n = i by omega]; omega⟩), hg, (by first | omega | assumption | (intros; first | rfl | omega | assumption | (and_intros <;> first | rfl | omega | assumption)))⟩
                exact z_zret C hr rfl hlocks hW (m, g) rfl hP9 dX8_tally_73
              ·
                refine lv_iload_n C.1 C.2.1 dX8_tally_52 rfl (lv_at hl 1 rfl) ?_
                refine z_if_le (tgt := 74) C dX8_tally_53 (by decide) (by omega) (fun c_53 => ?_) (fun c_53 => ?_)
                ·
                  refine lv_iinc (v := iI (fg + 1)) (lv' := [(2, .int (iI (fg + 1))), (4, .int (iI i)), (3, .int (iI k)), (0, .ref h), (1, .ref h2)]) C.1 C.2.1 dX8_tally_74 hl (k := 2) rfl (iI_add _ _) (by decide) rfl (fun ls hl => ?_)
                  refine lv_goto (tgt := 7) C.1 C.2.1 dX8_tally_77 (by decide) ?_
                  exact ih_7 (fg + 1) m g (by first | omega | assumption | (intros; first | rfl | omega | assumption | (and_intros <;> first | rfl | omega | assumption))) (by first | (have h9 := TalS_z hI (by omega) (by rw [show fg - 1 + 1 = fg by omega, show n = i by omega, ← hk]; omega); rw [show fg + 1 - 1 = fg - 1 + 1 by omega]; exact h9) | (obtain ⟨_, e1, e2⟩ := hz_58_0 (by omega); obtain ⟨_, e3, e4⟩ := hz_66_0 (by omega); have h9 := TalS_s hI (c := k) (by omega) (by rw [hk, show fg - 1 + 1 = fg by omega]; congr 1; omega) (by omega) (by omega); rw [show fg - 1 + 1 = fg by omega] at h9; rw [e4, e3, e2, e1, show m + 1 + 1 = m + 2 by omega, show fg + 1 - 1 = fg by omega]; exact h9)) hg (by omega) _ _ _ hW (lv_sub hl [0, 3, 4] rfl)
                ·
                  refine lv_aload_n C.1 C.2.1 dX8_tally_56 rfl (lv_at hl 4 rfl) ?_
                  refine lv_iload_n C.1 C.2.1 dX8_tally_57 rfl (lv_at hl 1 rfl) ?_
                  refine z_call (va_runV (As := [.int (iI k)]) (rest := []) C (c_X6_add l G h2 a2 N2 m g k (by first | omega | assumption | (intros; first | rfl | omega | assumption | (and_intros <;> first | rfl | omega | assumption))) (by first | omega | assumption | (intros; first | rfl | omega | assumption | (and_intros <;> first | rfl | omega | assumption))) hg (by first | omega | assumption | (intros; first | rfl | omega | assumption | (and_intros <;> first | rfl | omega | assumption))) H.size) (cwV 1 C.2.2.2.2 gX8_tally_X6_add rfl rfl rfl (by decide +kernel) ⟨Nat.le_of_ble_eq_true rfl, Nat.le_of_ble_eq_true rfl⟩) (z_preV hK hW hA [2, 3] rfl (by decide) (ci := 5) (q0 := 2) rfl rfl) rfl rfl hl.1 rfl (lv_room (Nat.le_of_ble_eq_true rfl)) dX8_tally_58 ⟨Nat.zero_le _, Nat.zero_le _⟩) hW hA [2, 3] rfl (by decide) (fun _ => rfl) (fun r u H locs hp hW => ?_)
                  obtain ⟨n2_58, f2_58⟩ := u
                  have hp : ∃ z : Int, r = some (.int (iI z)) ∧ ((m < (N2 : Int) → z = 1 ∧ n2_58 = m + 1 ∧ f2_58 = up g m k)) ∧ ((¬ m < (N2 : Int) → z = 0 ∧ n2_58 = m ∧ f2_58 = g)) ∧ (BD f2_58) := hp
                  obtain ⟨z_58, rfl, hz_58_0, hz_58_1, hz_58_2⟩ := hp
                  have hW : Wd G A s9.heap [(h, .inr (5, [.ref a, .int (iI n)])), (a, .inl (G.2.1 0, N, .inl (iA f))), (h2, .inr (5, [.ref a2, .int (iI n2_58)])), (a2, .inl (G.2.1 0, N2, .inl (iA f2_58)))] H locs := hW
                  have hs58 : (m < (N2 : Int) → z_58 = 1 ∧ n2_58 = m + 1) ∧ (¬ m < (N2 : Int) → z_58 = 0 ∧ n2_58 = m) := ⟨fun q9 => ⟨(hz_58_0 q9).1, (hz_58_0 q9).2.1⟩, fun q9 => ⟨(hz_58_1 q9).1, (hz_58_1 q9).2.1⟩⟩
                  refine z_if_eq (tgt := 72) C dX8_tally_61 (by decide) (by omega) (fun c_61 => ?_) (fun c_61 => ?_)
                  ·
                    exfalso; omega
                  ·
                    refine lv_aload_n C.1 C.2.1 dX8_tally_64 rfl (lv_at hl 4 rfl) ?_
                    refine lv_iload_n C.1 C.2.1 dX8_tally_65 rfl (lv_at hl 2 rfl) ?_
                    refine z_call (va_runV (As := [.int (iI fg)]) (rest := []) C (c_X6_add l G h2 a2 N2 n2_58 f2_58 fg (by first | omega | assumption | (intros; first | rfl | omega | assumption | (and_intros <;> first | rfl | omega | assumption))) (by first | omega | assumption | (intros; first | rfl | omega | assumption | (and_intros <;> first | rfl | omega | assumption))) hz_58_2 (by first | omega | assumption | (intros; first | rfl | omega | assumption | (and_intros <;> first | rfl | omega | assumption))) H.size) (cwV 1 C.2.2.2.2 gX8_tally_X6_add rfl rfl rfl (by decide +kernel) ⟨Nat.le_of_ble_eq_true rfl, Nat.le_of_ble_eq_true rfl⟩) (z_preV hK hW hA [2, 3] rfl (by decide) (ci := 5) (q0 := 2) rfl rfl) rfl rfl hl.1 rfl (lv_room (Nat.le_of_ble_eq_true rfl)) dX8_tally_66 ⟨Nat.zero_le _, Nat.zero_le _⟩) hW hA [2, 3] rfl (by decide) (fun _ => rfl) (fun r u H locs hp hW => ?_)
                    obtain ⟨n2_66, f2_66⟩ := u
                    have hp : ∃ z : Int, r = some (.int (iI z)) ∧ ((n2_58 < (N2 : Int) → z = 1 ∧ n2_66 = n2_58 + 1 ∧ f2_66 = up f2_58 n2_58 fg)) ∧ ((¬ n2_58 < (N2 : Int) → z = 0 ∧ n2_66 = n2_58 ∧ f2_66 = f2_58)) ∧ (BD f2_66) := hp
                    obtain ⟨z_66, rfl, hz_66_0, hz_66_1, hz_66_2⟩ := hp
                    have hW : Wd G A s9.heap [(h, .inr (5, [.ref a, .int (iI n)])), (a, .inl (G.2.1 0, N, .inl (iA f))), (h2, .inr (5, [.ref a2, .int (iI n2_66)])), (a2, .inl (G.2.1 0, N2, .inl (iA f2_66)))] H locs := hW
                    have hs66 : (n2_58 < (N2 : Int) → z_66 = 1 ∧ n2_66 = n2_58 + 1) ∧ (¬ n2_58 < (N2 : Int) → z_66 = 0 ∧ n2_66 = n2_58) := ⟨fun q9 => ⟨(hz_66_0 q9).1, (hz_66_0 q9).2.1⟩, fun q9 => ⟨(hz_66_1 q9).1, (hz_66_1 q9).2.1⟩⟩
                    refine z_if_ne (tgt := 74) C dX8_tally_69 (by decide) (by omega) (fun c_69 => ?_) (fun c_69 => ?_)
                    ·
                      refine lv_iinc (v := iI (fg + 1)) (lv' := [(2, .int (iI (fg + 1))), (4, .int (iI i)), (3, .int (iI k)), (0, .ref h), (1, .ref h2)]) C.1 C.2.1 dX8_tally_74 hl (k := 2) rfl (iI_add _ _) (by decide) rfl (fun ls hl => ?_)
                      refine lv_goto (tgt := 7) C.1 C.2.1 dX8_tally_77 (by decide) ?_
                      exact ih_7 (fg + 1) n2_66 f2_66 (by first | omega | assumption | (intros; first | rfl | omega | assumption | (and_intros <;> first | rfl | omega | assumption))) (by first | (have h9 := TalS_z hI (by omega) (by rw [show fg - 1 + 1 = fg by omega, show n = i by omega, ← hk]; omega); rw [show fg + 1 - 1 = fg - 1 + 1 by omega]; exact h9) | (obtain ⟨_, e1, e2⟩ := hz_58_0 (by omega); obtain ⟨_, e3, e4⟩ := hz_66_0 (by omega); have h9 := TalS_s hI (c := k) (by omega) (by rw [hk, show fg - 1 + 1 = fg by omega]; congr 1; omega) (by omega) (by omega); rw [show fg - 1 + 1 = fg by omega] at h9; rw [e4, e3, e2, e1, show m + 1 + 1 = m + 2 by omega, show fg + 1 - 1 = fg by omega]; exact h9)) hz_66_2 (by omega) _ _ _ hW (lv_sub hl [0, 3, 4] rfl)
                    ·
                      exfalso; omega
            ·
              refine lv_aload_n C.1 C.2.1 dX8_tally_27 rfl (lv_at hl 3 rfl) ?_
              refine lv_iload C.1 C.2.1 dX8_tally_28 (lv_at hl 0 rfl) ?_
              refine z_callR (va_runV (As := [.int (iI i)]) (rest := []) C (c_X6_get l G h a N n f i hN hn hf (by first | omega | assumption | (intros; first | rfl | omega | assumption | (and_intros <;> first | rfl | omega | assumption))) H.size) (cwV 1 C.2.2.2.2 gX8_tally_X6_get rfl rfl rfl (by decide +kernel) ⟨Nat.le_of_ble_eq_true rfl, Nat.le_of_ble_eq_true rfl⟩) (z_preV hK hW hA [0, 1] rfl (by decide) (ci := 5) (q0 := 0) rfl rfl) rfl rfl hl.1 rfl (lv_room (Nat.le_of_ble_eq_true rfl)) dX8_tally_30 ⟨Nat.zero_le _, Nat.zero_le _⟩) (fun r hp => ?_)
              have hp : ∃ z : Int, r = some (.int (iI z)) ∧ ((0 ≤ i ∧ i < n → z = f i)) ∧ ((¬ (0 ≤ i ∧ i < n) → z = -4)) ∧ (-2147483648 ≤ z ∧ z ≤ 2147483647) := hp
              obtain ⟨z_30, rfl, hz_30_0, hz_30_1, hz_30_2⟩ := hp
              refine lv_iload_n C.1 C.2.1 dX8_tally_33 rfl (lv_at hl 2 rfl) ?_
              refine z_icmp_ne (tgt := 40) C dX8_tally_34 (by decide) (by omega) (fun c_34 => ?_) (fun c_34 => ?_)
              ·
                refine lv_iinc (v := iI (i + 1)) (lv' := [(4, .int (iI (i + 1))), (3, .int (iI k)), (2, .int (iI fg)), (0, .ref h), (1, .ref h2)]) C.1 C.2.1 dX8_tally_40 hl (k := 0) rfl (iI_add _ _) (by decide) rfl (fun ls hl => ?_)
                refine lv_goto (tgt := 18) C.1 C.2.1 dX8_tally_43 (by decide) ?_
                exact ih_18 k (i + 1) (by first | omega | assumption | (intros; first | rfl | omega | assumption | (and_intros <;> first | rfl | omega | assumption))) (by have h1 := hz_30_0 (by omega); rw [oc_s (by omega)]; split <;> omega) (by omega) _ _ _ hW (lv_sub hl [0, 1, 2, 3, 4] rfl)
              ·
                refine lv_iinc (v := iI (k + 1)) (lv' := [(3, .int (iI (k + 1))), (4, .int (iI i)), (2, .int (iI fg)), (0, .ref h), (1, .ref h2)]) C.1 C.2.1 dX8_tally_37 hl (k := 1) rfl (iI_add _ _) (by decide) rfl (fun ls hl => ?_)
                refine lv_iinc (v := iI (i + 1)) (lv' := [(4, .int (iI (i + 1))), (3, .int (iI (k + 1))), (2, .int (iI fg)), (0, .ref h), (1, .ref h2)]) C.1 C.2.1 dX8_tally_40 hl (k := 1) rfl (iI_add _ _) (by decide) rfl (fun ls hl => ?_)
                refine lv_goto (tgt := 18) C.1 C.2.1 dX8_tally_43 (by decide) ?_
                exact ih_18 (k + 1) (i + 1) (by first | omega | assumption | (intros; first | rfl | omega | assumption | (and_intros <;> first | rfl | omega | assumption))) (by have h1 := hz_30_0 (by omega); rw [oc_s (by omega)]; split <;> omega) (by omega) _ _ _ hW (lv_sub hl [0, 1, 2, 3, 4] rfl)
        exact cut_18 (((n - 0) + 1 : Int)).toNat 0 0 (by first | omega | assumption | (intros; first | rfl | omega | assumption | (and_intros <;> first | rfl | omega | assumption))) (by rw [oc_0 (by omega)]) (by omega) _ _ _ hW (lv_sub hl [0, 1, 2, 3, 4] rfl)
  exact cut_7 (((10 - 1) + 1 : Int)).toNat 1 0 g0 (by first | omega | assumption | (intros; first | rfl | omega | assumption | (and_intros <;> first | rfl | omega | assumption))) TalS_0 hg0 (by omega) _ _ _ hW (lv_sub hl [0, 1, 2] rfl)
set_option maxHeartbeats 4000000 in
set_option maxRecDepth 100000 in
/-- Speaker.unsay -/
theorem c_X8_unsay (l : Launch) (G : GG) (h : Nat) (a : Nat) (N : Nat) (n : Int) (f : Int → Int) (h2 : Nat) (a2 : Nat) (m0 : Int) (g0 : Int → Int) (hN : N ≤ 2147483647) (hn : 0 ≤ n ∧ n ≤ (N : Int)) (hf : BD f) (hF : FIG f n) (hg0 : BD g0) : MQc l yX8_unsay wsX8_unsay 1 G [.ref h, .ref h2] [(h, .inr (5, [.ref a, .int (iI n)])), (a, .inl (G.2.1 0, N, .inl (iA f))), (h2, .inr (5, [.ref a2, .int (iI m0)])), (a2, .inl (G.2.1 0, 5000, .inl (iA g0)))] (fun r (u : Int × (Int → Int)) => ∃ z : Int, r = some (.int (iI z)) ∧ ((z = 1 ∧ UnR f n u.2 u.1) ∨ (z = 0 ∧ UnB f n)) ∧ (BD u.2) ∧ (0 ≤ u.1 ∧ u.1 ≤ 5000)) (fun u => [(h, .inr (5, [.ref a, .int (iI n)])), (a, .inl (G.2.1 0, N, .inl (iA f))), (h2, .inr (5, [.ref a2, .int (iI u.1)])), (a2, .inl (G.2.1 0, 5000, .inl (iA u.2)))]) := by
  refine MQc.start (own := RX8) (by decide) rfl rfl (Nat.le_of_ble_eq_true rfl) ?_
  intro p9 e9 s9 m9 args below meth c9 A Q C hK hW hA hr hlocks hQ ls hl
  have hl : lv_has ls 5 [(0, .ref h), (1, .ref h2)] := hl
  have hin6 : ∀ w ∈ wsX60, w ∈ wsX8_unsay := by decide +kernel
  refine lv_aload_n C.1 C.2.1 dX8_unsay_0 rfl (lv_at hl 1 rfl) ?_
  refine z_call (va_runV (As := []) (rest := []) C (c_X6_clear l G h2 a2 5000 m0 g0  s9.heap.size) (cwV 0 C.2.2.2.2 gX8_unsay_X6_clear rfl rfl rfl (by decide +kernel) ⟨Nat.le_of_ble_eq_true rfl, Nat.le_of_ble_eq_true rfl⟩) (z_preV hK hW hA [2, 3] rfl (by decide) (ci := 5) (q0 := 2) rfl rfl) rfl rfl hl.1 rfl (lv_room (Nat.le_of_ble_eq_true rfl)) dX8_unsay_1 ⟨Nat.zero_le _, Nat.zero_le _⟩) hW hA [2, 3] rfl (by decide) (fun _ => rfl) (fun r u H locs hp hW => ?_)
  have hp : ∃ z : Int, r = some (.int (iI z)) ∧ (z = m0) := hp
  obtain ⟨z_1, rfl, hz_1_0⟩ := hp
  have hW : Wd G A s9.heap [(h, .inr (5, [.ref a, .int (iI n)])), (a, .inl (G.2.1 0, N, .inl (iA f))), (h2, .inr (5, [.ref a2, .int (iI 0)])), (a2, .inl (G.2.1 0, 5000, .inl (iA g0)))] H locs := hW
  refine lv_pop C.1 C.2.1 dX8_unsay_4 rfl ?_
  refine lv_aload_n C.1 C.2.1 dX8_unsay_5 rfl (lv_at hl 0 rfl) ?_
  refine z_callR (va_runV (As := []) (rest := []) C (c_X6_size l G h a N n f  H.size) (cwV 0 C.2.2.2.2 gX8_unsay_X6_size rfl rfl rfl (by decide +kernel) ⟨Nat.le_of_ble_eq_true rfl, Nat.le_of_ble_eq_true rfl⟩) (z_preV hK hW hA [0, 1] rfl (by decide) (ci := 5) (q0 := 0) rfl rfl) rfl rfl hl.1 rfl (lv_room (Nat.le_of_ble_eq_true rfl)) dX8_unsay_6 ⟨Nat.zero_le _, Nat.zero_le _⟩) (fun r hp => ?_)
  have hp : ∃ z : Int, r = some (.int (iI z)) ∧ (z = n) := hp
  obtain ⟨z_6, rfl, hz_6_0⟩ := hp
  refine lv_iconst (v := iI 2) C.1 C.2.1 dX8_unsay_9 rfl ?_
  refine z_irem C dX8_unsay_10 (by omega) ?_
  refine z_if_eq (tgt := 16) C dX8_unsay_11 (by decide) (by omega) (fun c_11 => ?_) (fun c_11 => ?_)
  ·
    refine lv_iconst (v := iI 0) C.1 C.2.1 dX8_unsay_16 rfl ?_
    refine lv_istore_n (lv' := [(2, .int (iI 0)), (0, .ref h), (1, .ref h2)]) C.1 C.2.1 dX8_unsay_17 rfl hl (by decide) rfl (fun ls hl => ?_)
    have cut_18 : ∀ (n9 : Nat) (p : Int) (m : Int) (g : Int → Int), (0 ≤ p ∧ p ≤ n ∧ p % 2 = 0) → (UnS f n (p / 2) g m) → (BD g) → (n - p < (n9 : Int)) → ∀ (H : Heap) (locs : List Loc) (ls : Array Slot), Wd G A s9.heap [(h, .inr (5, [.ref a, .int (iI n)])), (a, .inl (G.2.1 0, N, .inl (iA f))), (h2, .inr (5, [.ref a2, .int (iI m)])), (a2, .inl (G.2.1 0, 5000, .inl (iA g)))] H locs → lv_has ls 5 [(2, .int (iI p)), (0, .ref h), (1, .ref h2)] → W p9 l e9 (rmL 1) s9 m9 args below meth c9 H locs 0 0 Q (F0 m9 18 ls []) := by
      intro n9
      induction n9 with
      | zero => intro p m g hp hI hg hmu; intros; exfalso; omega
      | succ n9 ih_18 =>
        intro p m g hp hI hg hmu H locs ls hW hl
        obtain ⟨i, hpi⟩ : ∃ i, p = 2 * i := ⟨p / 2, by omega⟩
        have hU : UnS f n i g m := by rw [show i = p / 2 by omega]; exact hI
        have hm0 : 0 ≤ m ∧ m ≤ 5000 := by obtain ⟨b1, b2, b3, b4, -⟩ := hU; have := off_mono hF (i := 0) (k := i) (by omega) b1 b2; rw [off_0] at this; omega
        refine lv_iload_n C.1 C.2.1 dX8_unsay_18 rfl (lv_at hl 0 rfl) ?_
        refine lv_aload_n C.1 C.2.1 dX8_unsay_19 rfl (lv_at hl 1 rfl) ?_
        refine z_callR (va_runV (As := []) (rest := [.int (iI p)]) C (c_X6_size l G h a N n f  H.size) (cwV 0 C.2.2.2.2 gX8_unsay_X6_size rfl rfl rfl (by decide +kernel) ⟨Nat.le_of_ble_eq_true rfl, Nat.le_of_ble_eq_true rfl⟩) (z_preV hK hW hA [0, 1] rfl (by decide) (ci := 5) (q0 := 0) rfl rfl) rfl rfl hl.1 rfl (lv_room (Nat.le_of_ble_eq_true rfl)) dX8_unsay_20 ⟨Nat.zero_le _, Nat.zero_le _⟩) (fun r hp => ?_)
        have hp : ∃ z : Int, r = some (.int (iI z)) ∧ (z = n) := hp
        obtain ⟨z_20, rfl, hz_20_0⟩ := hp
        refine z_icmp_ge (tgt := 86) C dX8_unsay_23 (by decide) (by omega) (fun c_23 => ?_) (fun c_23 => ?_)
        ·
          refine lv_iconst (v := iI 1) C.1 C.2.1 dX8_unsay_86 rfl ?_
          rw [hQ]
          have hP9 : ∃ z : Int, (some (Value.int (iI 1))) = some (.int (iI z)) ∧ ((z = 1 ∧ UnR f n g m) ∨ (z = 0 ∧ UnB f n)) ∧ (BD g) ∧ (0 ≤ m ∧ m ≤ 5000) := ⟨_, rfl, (Or.inl ⟨rfl, i, by omega, hU⟩), hg, (by first | omega | assumption | (intros; first | rfl | omega | assumption | (and_intros <;> first | rfl | omega | assumption)))⟩
          exact z_zret C hr rfl hlocks hW (m, g) rfl hP9 dX8_unsay_87
        ·
          refine lv_aload_n C.1 C.2.1 dX8_unsay_26 rfl (lv_at hl 1 rfl) ?_
          refine lv_iload_n C.1 C.2.1 dX8_unsay_27 rfl (lv_at hl 0 rfl) ?_
          refine lv_iconst (v := iI 1) C.1 C.2.1 dX8_unsay_28 rfl ?_
          refine z_iadd C dX8_unsay_29 ?_
          refine z_callR (va_runV (As := [.int (iI (p + 1))]) (rest := []) C (c_X6_get l G h a N n f (p + 1) hN hn hf (by first | omega | assumption | (intros; first | rfl | omega | assumption | (and_intros <;> first | rfl | omega | assumption))) H.size) (cwV 1 C.2.2.2.2 gX8_unsay_X6_get rfl rfl rfl (by decide +kernel) ⟨Nat.le_of_ble_eq_true rfl, Nat.le_of_ble_eq_true rfl⟩) (z_preV hK hW hA [0, 1] rfl (by decide) (ci := 5) (q0 := 0) rfl rfl) rfl rfl hl.1 rfl (lv_room (Nat.le_of_ble_eq_true rfl)) dX8_unsay_30 ⟨Nat.zero_le _, Nat.zero_le _⟩) (fun r hp => ?_)
          have hp : ∃ z : Int, r = some (.int (iI z)) ∧ ((0 ≤ (p + 1) ∧ (p + 1) < n → z = f (p + 1))) ∧ ((¬ (0 ≤ (p + 1) ∧ (p + 1) < n) → z = -4)) ∧ (-2147483648 ≤ z ∧ z ≤ 2147483647) := hp
          obtain ⟨z_30, rfl, hz_30_0, hz_30_1, hz_30_2⟩ := hp
          refine lv_istore_n (lv' := [(3, .int (iI z_30)), (2, .int (iI p)), (0, .ref h), (1, .ref h2)]) C.1 C.2.1 dX8_unsay_33 rfl hl (by decide) rfl (fun ls hl => ?_)
          have cut_54 : ∀ (n9 : Nat) (k : Int) (m1 : Int) (g1 : Int → Int), (1 ≤ i → f (2 * i + 1) ≠ f (2 * i - 1)) → (0 ≤ k ∧ k ≤ f p) → (m1 = m + k ∧ m1 ≤ 5000) → (BD g1) → (∀ j, j < m → g1 j = g j) → (∀ j, 0 ≤ j → j < k → g1 (m + j) = f (2 * i + 1)) → (f p - k < (n9 : Int)) → ∀ (H : Heap) (locs : List Loc) (ls : Array Slot), Wd G A s9.heap [(h, .inr (5, [.ref a, .int (iI n)])), (a, .inl (G.2.1 0, N, .inl (iA f))), (h2, .inr (5, [.ref a2, .int (iI m1)])), (a2, .inl (G.2.1 0, 5000, .inl (iA g1)))] H locs → lv_has ls 5 [(3, .int (iI z_30)), (2, .int (iI p)), (0, .ref h), (1, .ref h2), (4, .int (iI k))] → W p9 l e9 (rmL 1) s9 m9 args below meth c9 H locs 0 0 Q (F0 m9 54 ls []) := by
            intro n9
            induction n9 with
            | zero => intro k m1 g1 hne hk hm1 hg1 hold hnew hmu; intros; exfalso; omega
            | succ n9 ih_54 =>
              intro k m1 g1 hne hk hm1 hg1 hold hnew hmu H locs ls hW hl
              have hFp := hF p (by omega) (by omega)
              refine lv_iload C.1 C.2.1 dX8_unsay_54 (lv_at hl 4 rfl) ?_
              refine lv_aload_n C.1 C.2.1 dX8_unsay_56 rfl (lv_at hl 2 rfl) ?_
              refine lv_iload_n C.1 C.2.1 dX8_unsay_57 rfl (lv_at hl 1 rfl) ?_
              refine z_callR (va_runV (As := [.int (iI p)]) (rest := [.int (iI k)]) C (c_X6_get l G h a N n f p hN hn hf (by first | omega | assumption | (intros; first | rfl | omega | assumption | (and_intros <;> first | rfl | omega | assumption))) H.size) (cwV 1 C.2.2.2.2 gX8_unsay_X6_get rfl rfl rfl (by decide +kernel) ⟨Nat.le_of_ble_eq_true rfl, Nat.le_of_ble_eq_true rfl⟩) (z_preV hK hW hA [0, 1] rfl (by decide) (ci := 5) (q0 := 0) rfl rfl) rfl rfl hl.1 rfl (lv_room (Nat.le_of_ble_eq_true rfl)) dX8_unsay_58 ⟨Nat.zero_le _, Nat.zero_le _⟩) (fun r hp => ?_)
              have hp : ∃ z : Int, r = some (.int (iI z)) ∧ ((0 ≤ p ∧ p < n → z = f p)) ∧ ((¬ (0 ≤ p ∧ p < n) → z = -4)) ∧ (-2147483648 ≤ z ∧ z ≤ 2147483647) := hp
              obtain ⟨z_58, rfl, hz_58_0, hz_58_1, hz_58_2⟩ := hp
              refine z_icmp_ge (tgt := 80) C dX8_unsay_61 (by decide) (by omega) (fun c_61 => ?_) (fun c_61 => ?_)
              ·
                refine lv_iinc (v := iI (p + 2)) (lv' := [(2, .int (iI (p + 2))), (3, .int (iI z_30)), (0, .ref h), (1, .ref h2), (4, .int (iI k))]) C.1 C.2.1 dX8_unsay_80 hl (k := 1) rfl (iI_add _ _) (by decide) rfl (fun ls hl => ?_)
                refine lv_goto (tgt := 18) C.1 C.2.1 dX8_unsay_83 (by decide) ?_
                exact ih_18 (p + 2) m1 g1 (by first | omega | assumption | (intros; first | rfl | omega | assumption | (and_intros <;> first | rfl | omega | assumption))) (by have h1 := hz_58_0 (by omega); rw [show (p + 2) / 2 = i + 1 by omega, show m1 = m + f (2 * i) by rw [show 2 * i = p by omega]; omega]; exact UnS_s hU hF (by omega) rfl (by rw [show 2 * i = p by omega]; omega) hne hold (fun j j0 j1 => hnew j j0 (by rw [show 2 * i = p by omega] at j1; omega))) hg1 (by omega) _ _ _ hW (lv_sub hl [0, 2, 3] rfl)
              ·
                refine lv_aload_n C.1 C.2.1 dX8_unsay_64 rfl (lv_at hl 3 rfl) ?_
                refine lv_iload_n C.1 C.2.1 dX8_unsay_65 rfl (lv_at hl 0 rfl) ?_
                refine z_call (va_runV (As := [.int (iI z_30)]) (rest := []) C (c_X6_add l G h2 a2 5000 m1 g1 z_30 (by first | omega | assumption | (intros; first | rfl | omega | assumption | (and_intros <;> first | rfl | omega | assumption))) (by first | omega | assumption | (intros; first | rfl | omega | assumption | (and_intros <;> first | rfl | omega | assumption))) hg1 hz_30_2 H.size) (cwV 1 C.2.2.2.2 gX8_unsay_X6_add rfl rfl rfl (by decide +kernel) ⟨Nat.le_of_ble_eq_true rfl, Nat.le_of_ble_eq_true rfl⟩) (z_preV hK hW hA [2, 3] rfl (by decide) (ci := 5) (q0 := 2) rfl rfl) rfl rfl hl.1 rfl (lv_room (Nat.le_of_ble_eq_true rfl)) dX8_unsay_66 ⟨Nat.zero_le _, Nat.zero_le _⟩) hW hA [2, 3] rfl (by decide) (fun _ => rfl) (fun r u H locs hp hW => ?_)
                obtain ⟨n2_66, f2_66⟩ := u
                have hp : ∃ z : Int, r = some (.int (iI z)) ∧ ((m1 < (5000 : Int) → z = 1 ∧ n2_66 = m1 + 1 ∧ f2_66 = up g1 m1 z_30)) ∧ ((¬ m1 < (5000 : Int) → z = 0 ∧ n2_66 = m1 ∧ f2_66 = g1)) ∧ (BD f2_66) := hp
                obtain ⟨z_66, rfl, hz_66_0, hz_66_1, hz_66_2⟩ := hp
                have hW : Wd G A s9.heap [(h, .inr (5, [.ref a, .int (iI n)])), (a, .inl (G.2.1 0, N, .inl (iA f))), (h2, .inr (5, [.ref a2, .int (iI n2_66)])), (a2, .inl (G.2.1 0, 5000, .inl (iA f2_66)))] H locs := hW
                have hs66 : (m1 < 5000 → z_66 = 1 ∧ n2_66 = m1 + 1) ∧ (¬ m1 < 5000 → z_66 = 0 ∧ n2_66 = m1) := ⟨fun q9 => ⟨(hz_66_0 q9).1, (hz_66_0 q9).2.1⟩, fun q9 => ⟨(hz_66_1 q9).1, (hz_66_1 q9).2.1⟩⟩
                refine z_if_ne (tgt := 74) C dX8_unsay_69 (by decide) (by omega) (fun c_69 => ?_) (fun c_69 => ?_)
                ·
                  refine lv_iinc (v := iI (k + 1)) (lv' := [(4, .int (iI (k + 1))), (3, .int (iI z_30)), (2, .int (iI p)), (0, .ref h), (1, .ref h2)]) C.1 C.2.1 dX8_unsay_74 hl (k := 4) rfl (iI_add _ _) (by decide) rfl (fun ls hl => ?_)
                  refine lv_goto (tgt := 54) C.1 C.2.1 dX8_unsay_77 (by decide) ?_
                  exact ih_54 (k + 1) n2_66 f2_66 hne (by first | (have hFp := hF p (by omega) (by omega); omega) | (have h1 := hz_58_0 (by omega); omega)) (by first | omega | assumption | (intros; first | rfl | omega | assumption | (and_intros <;> first | rfl | omega | assumption))) hz_66_2 (by obtain ⟨_, e1, e2⟩ := hz_66_0 (by omega); intro j j1; rw [e2, up_n _ _ (by omega)]; exact hold j j1) (by obtain ⟨_, e1, e2⟩ := hz_66_0 (by omega); intro j j0 j1; have h1 := hz_30_0 (by omega); rw [e2]; exact if h5 : m + j = m1 then (by rw [h5, up_s, h1, show 2 * i + 1 = p + 1 by omega]) else (by rw [up_n _ _ h5]; exact hnew j j0 (by omega))) (by omega) _ _ _ hW (lv_sub hl [1, 2, 3, 4, 0] rfl)
                ·
                  refine lv_iconst (v := iI 0) C.1 C.2.1 dX8_unsay_72 rfl ?_
                  rw [hQ]
                  have hP9 : ∃ z : Int, (some (Value.int (iI 0))) = some (.int (iI z)) ∧ ((z = 1 ∧ UnR f n f2_66 n2_66) ∨ (z = 0 ∧ UnB f n)) ∧ (BD f2_66) ∧ (0 ≤ n2_66 ∧ n2_66 ≤ 5000) := ⟨_, rfl, (Or.inr ⟨rfl, Or.inr (Or.inr ⟨n / 2, by omega, by have h1 := hz_58_0 (by omega); have h2 := off_mono hF (i := i + 1) (k := n / 2) (by omega) (by omega) (by omega); rw [off_s (by omega), show 2 * i = p by omega] at h2; have h3 := hU.2.2.1; omega⟩)⟩), hz_66_2, (by first | omega | assumption | (intros; first | rfl | omega | assumption | (and_intros <;> first | rfl | omega | assumption)))⟩
                  exact z_zret C hr rfl hlocks hW (n2_66, f2_66) rfl hP9 dX8_unsay_73
          refine lv_iload_n C.1 C.2.1 dX8_unsay_34 rfl (lv_at hl 1 rfl) ?_
          refine z_if_le (tgt := 51) C dX8_unsay_35 (by decide) (by omega) (fun c_35 => ?_) (fun c_35 => ?_)
          ·
            refine lv_iconst (v := iI 0) C.1 C.2.1 dX8_unsay_51 rfl ?_
            refine lv_istore (lv' := [(4, .int (iI 0)), (3, .int (iI z_30)), (2, .int (iI p)), (0, .ref h), (1, .ref h2)]) C.1 C.2.1 dX8_unsay_52 hl (by decide) rfl (fun ls hl => ?_)
            exact cut_54 (((f p - 0) + 1 : Int)).toNat 0 m g (fun q9 => by have h1 := hz_30_0 (by omega); first | omega | (have h2 := hz_43_0 (by omega); rw [show 2 * i + 1 = p + 1 by omega, show 2 * i - 1 = p - 1 by omega]; omega)) (by first | (have hFp := hF p (by omega) (by omega); omega) | (have h1 := hz_58_0 (by omega); omega)) (by first | omega | assumption | (intros; first | rfl | omega | assumption | (and_intros <;> first | rfl | omega | assumption))) hg (fun j j1 => rfl) (fun j j0 j1 => by omega) (by omega) _ _ _ hW (lv_sub hl [1, 2, 3, 4, 0] rfl)
          ·
            refine lv_iload_n C.1 C.2.1 dX8_unsay_38 rfl (lv_at hl 0 rfl) ?_
            refine lv_aload_n C.1 C.2.1 dX8_unsay_39 rfl (lv_at hl 2 rfl) ?_
            refine lv_iload_n C.1 C.2.1 dX8_unsay_40 rfl (lv_at hl 1 rfl) ?_
            refine lv_iconst (v := iI 1) C.1 C.2.1 dX8_unsay_41 rfl ?_
            refine z_isub C dX8_unsay_42 ?_
            refine z_callR (va_runV (As := [.int (iI (p - 1))]) (rest := [.int (iI z_30)]) C (c_X6_get l G h a N n f (p - 1) hN hn hf (by first | omega | assumption | (intros; first | rfl | omega | assumption | (and_intros <;> first | rfl | omega | assumption))) H.size) (cwV 1 C.2.2.2.2 gX8_unsay_X6_get rfl rfl rfl (by decide +kernel) ⟨Nat.le_of_ble_eq_true rfl, Nat.le_of_ble_eq_true rfl⟩) (z_preV hK hW hA [0, 1] rfl (by decide) (ci := 5) (q0 := 0) rfl rfl) rfl rfl hl.1 rfl (lv_room (Nat.le_of_ble_eq_true rfl)) dX8_unsay_43 ⟨Nat.zero_le _, Nat.zero_le _⟩) (fun r hp => ?_)
            have hp : ∃ z : Int, r = some (.int (iI z)) ∧ ((0 ≤ (p - 1) ∧ (p - 1) < n → z = f (p - 1))) ∧ ((¬ (0 ≤ (p - 1) ∧ (p - 1) < n) → z = -4)) ∧ (-2147483648 ≤ z ∧ z ≤ 2147483647) := hp
            obtain ⟨z_43, rfl, hz_43_0, hz_43_1, hz_43_2⟩ := hp
            refine z_icmp_ne (tgt := 51) C dX8_unsay_46 (by decide) (by omega) (fun c_46 => ?_) (fun c_46 => ?_)
            ·
              refine lv_iconst (v := iI 0) C.1 C.2.1 dX8_unsay_51 rfl ?_
              refine lv_istore (lv' := [(4, .int (iI 0)), (3, .int (iI z_30)), (2, .int (iI p)), (0, .ref h), (1, .ref h2)]) C.1 C.2.1 dX8_unsay_52 hl (by decide) rfl (fun ls hl => ?_)
              exact cut_54 (((f p - 0) + 1 : Int)).toNat 0 m g (fun q9 => by have h1 := hz_30_0 (by omega); first | omega | (have h2 := hz_43_0 (by omega); rw [show 2 * i + 1 = p + 1 by omega, show 2 * i - 1 = p - 1 by omega]; omega)) (by first | (have hFp := hF p (by omega) (by omega); omega) | (have h1 := hz_58_0 (by omega); omega)) (by first | omega | assumption | (intros; first | rfl | omega | assumption | (and_intros <;> first | rfl | omega | assumption))) hg (fun j j1 => rfl) (fun j j0 j1 => by omega) (by omega) _ _ _ hW (lv_sub hl [1, 2, 3, 4, 0] rfl)
            ·
              refine lv_iconst (v := iI 0) C.1 C.2.1 dX8_unsay_49 rfl ?_
              rw [hQ]
              have hP9 : ∃ z : Int, (some (Value.int (iI 0))) = some (.int (iI z)) ∧ ((z = 1 ∧ UnR f n g m) ∨ (z = 0 ∧ UnB f n)) ∧ (BD g) ∧ (0 ≤ m ∧ m ≤ 5000) := ⟨_, rfl, (Or.inr ⟨rfl, Or.inr (Or.inl ⟨i, by omega, by omega, by have h1 := hz_30_0 (by omega); have h2 := hz_43_0 (by omega); rw [show 2 * i + 1 = p + 1 by omega, show 2 * i - 1 = p - 1 by omega]; omega⟩)⟩), hg, (by first | omega | assumption | (intros; first | rfl | omega | assumption | (and_intros <;> first | rfl | omega | assumption)))⟩
              exact z_zret C hr rfl hlocks hW (m, g) rfl hP9 dX8_unsay_50
    exact cut_18 (((n - 0) + 1 : Int)).toNat 0 0 g0 (by first | omega | assumption | (intros; first | rfl | omega | assumption | (and_intros <;> first | rfl | omega | assumption))) (by exact UnS_0 (by omega)) hg0 (by omega) _ _ _ hW (lv_sub hl [0, 1, 2] rfl)
  ·
    refine lv_iconst (v := iI 0) C.1 C.2.1 dX8_unsay_14 rfl ?_
    rw [hQ]
    have hP9 : ∃ z : Int, (some (Value.int (iI 0))) = some (.int (iI z)) ∧ ((z = 1 ∧ UnR f n g0 (0 : Int)) ∨ (z = 0 ∧ UnB f n)) ∧ (BD g0) ∧ (0 ≤ (0 : Int) ∧ (0 : Int) ≤ 5000) := ⟨_, rfl, (Or.inr ⟨rfl, Or.inl (by omega)⟩), hg0, (by first | omega | assumption | (intros; first | rfl | omega | assumption | (and_intros <;> first | rfl | omega | assumption)))⟩
    exact z_zret C hr rfl hlocks hW (0, g0) rfl hP9 dX8_unsay_15
set_option maxHeartbeats 4000000 in
set_option maxRecDepth 100000 in
/-- Speaker.speak -/
theorem c_X8_speak (l : Launch) (G : GG) (h0 : Nat) (o : Nat) (oa : Nat) (p : Nat) (pa : Nat) (n1 : Int) (f1 : Int → Int) (n2 : Int) (f2 : Int → Int) (h : Nat) (a : Nat) (n : Int) (f : Int → Int) (b : Int) (k : Int) (hn : 0 ≤ n ∧ n ≤ 40) (hf : BD f) (hf1 : BD f1) (hf2 : BD f2) (hn1 : 0 ≤ n1 ∧ n1 ≤ 5000) (hn2 : 0 ≤ n2 ∧ n2 ≤ 5000) (hb : -2147483648 ≤ b ∧ b ≤ 2147483647) (hk : 0 ≤ k ∧ k ≤ 12) : MQc l yX8_speak wsX8_speak 2 G [.ref h0, .ref h, .int (iI b), .int (iI k)] [(h0, .inr (6, [.ref o, .ref p])), (o, .inr (5, [.ref oa, .int (iI n1)])), (oa, .inl (G.2.1 0, 5000, .inl (iA f1))), (p, .inr (5, [.ref pa, .int (iI n2)])), (pa, .inl (G.2.1 0, 5000, .inl (iA f2))), (h, .inr (5, [.ref a, .int (iI n)])), (a, .inl (G.2.1 0, 40, .inl (iA f)))] (fun r (u : Int × (Int → Int) × Int × (Int → Int)) => ((r = some .null ∧ ItB b f n k.toNat) ∨ (r = some (.ref o) ∧ It b f n k.toNat u.2.1 u.1) ∨ (r = some (.ref p) ∧ It b f n k.toNat u.2.2.2 u.2.2.1)) ∧ (BD u.2.1) ∧ (BD u.2.2.2) ∧ (0 ≤ u.1 ∧ u.1 ≤ 5000) ∧ (0 ≤ u.2.2.1 ∧ u.2.2.1 ≤ 5000)) (fun u => [(h0, .inr (6, [.ref o, .ref p])), (o, .inr (5, [.ref oa, .int (iI u.1)])), (oa, .inl (G.2.1 0, 5000, .inl (iA u.2.1))), (p, .inr (5, [.ref pa, .int (iI u.2.2.1)])), (pa, .inl (G.2.1 0, 5000, .inl (iA u.2.2.2))), (h, .inr (5, [.ref a, .int (iI n)])), (a, .inl (G.2.1 0, 40, .inl (iA f)))]) := by
  refine MQc.start (own := RX8) (by decide) rfl rfl (Nat.le_of_ble_eq_true rfl) ?_
  intro p9 e9 s9 m9 args below meth c9 A Q C hK hW hA hr hlocks hQ ls hl
  have hl : lv_has ls 8 [(0, .ref h0), (1, .ref h), (2, .int (iI b)), (3, .int (iI k))] := hl
  have hin6 : ∀ w ∈ wsX60, w ∈ wsX8_speak := by decide +kernel
  have hin8 : ∀ w ∈ wsX80, w ∈ wsX8_speak := by decide +kernel
  refine lv_aload_n C.1 C.2.1 dX8_speak_0 rfl (lv_at hl 0 rfl) ?_
  refine z_get C hK hW hin8 (v := .ref o) 0 rfl rfl 0 (by decide) (C.2.2.2.2 (.fieldLink RX8 14 "TellingRows$Speaker" "one" "LTellingRows$Sequence;") (List.mem_of_getElem? (i := 1) rfl)) (fun _ h9 => h9) rfl dX8_speak_1 ?_
  refine lv_astore (lv' := [(4, .ref o), (0, .ref h0), (1, .ref h), (2, .int (iI b)), (3, .int (iI k))]) C.1 C.2.1 dX8_speak_4 hl (by decide) rfl (fun ls hl => ?_)
  refine lv_aload_n C.1 C.2.1 dX8_speak_6 rfl (lv_at hl 1 rfl) ?_
  refine z_get C hK hW hin8 (v := .ref p) 0 rfl rfl 1 (by decide) (C.2.2.2.2 (.fieldLink RX8 20 "TellingRows$Speaker" "other" "LTellingRows$Sequence;") (List.mem_of_getElem? (i := 2) rfl)) (fun _ h9 => h9) rfl dX8_speak_7 ?_
  refine lv_astore (lv' := [(5, .ref p), (4, .ref o), (0, .ref h0), (1, .ref h), (2, .int (iI b)), (3, .int (iI k))]) C.1 C.2.1 dX8_speak_10 hl (by decide) rfl (fun ls hl => ?_)
  refine lv_aload C.1 C.2.1 dX8_speak_12 (lv_at hl 1 rfl) ?_
  refine lv_aload_n C.1 C.2.1 dX8_speak_14 rfl (lv_at hl 3 rfl) ?_
  refine z_call (va_runV (As := [.ref h]) (rest := []) C (c_X6_copy l G o oa 5000 n1 f1 h a 40 n f (by first | omega | assumption | (intros; first | rfl | omega | assumption | (and_intros <;> first | rfl | omega | assumption))) (by first | omega | assumption | (intros; first | rfl | omega | assumption | (and_intros <;> first | rfl | omega | assumption))) (by first | omega | assumption | (intros; first | rfl | omega | assumption | (and_intros <;> first | rfl | omega | assumption))) hf1 hf s9.heap.size) (cwV 1 C.2.2.2.2 gX8_speak_X6_copy rfl rfl rfl (by decide +kernel) ⟨Nat.le_of_ble_eq_true rfl, Nat.le_of_ble_eq_true rfl⟩) (z_preV hK hW hA [1, 2, 5, 6] rfl (by decide) (ci := 5) (q0 := 1) rfl rfl) rfl rfl hl.1 rfl (lv_room (Nat.le_of_ble_eq_true rfl)) dX8_speak_15 ⟨Nat.zero_le _, Nat.zero_le _⟩) hW hA [1, 2, 5, 6] rfl (by decide) (fun _ => rfl) (fun r u H locs hp hW => ?_)
  obtain ⟨f2_15, rfl⟩ : ∃ q9, q9 = u := ⟨_, rfl⟩
  have hp : r = none ∧ (BD f2_15) ∧ ((∀ j, 0 ≤ j → j < n → f2_15 j = f j)) := hp
  obtain ⟨rfl, hz_15_0, hz_15_1⟩ := hp
  have hW : Wd G A s9.heap [(h0, .inr (6, [.ref o, .ref p])), (o, .inr (5, [.ref oa, .int (iI n)])), (oa, .inl (G.2.1 0, 5000, .inl (iA f2_15))), (p, .inr (5, [.ref pa, .int (iI n2)])), (pa, .inl (G.2.1 0, 5000, .inl (iA f2))), (h, .inr (5, [.ref a, .int (iI n)])), (a, .inl (G.2.1 0, 40, .inl (iA f)))] H locs := hW
  refine lv_iconst (v := iI 0) C.1 C.2.1 dX8_speak_18 rfl ?_
  refine lv_istore (lv' := [(6, .int (iI 0)), (5, .ref p), (4, .ref o), (0, .ref h0), (1, .ref h), (2, .int (iI b)), (3, .int (iI k))]) C.1 C.2.1 dX8_speak_19 hl (by decide) rfl (fun ls hl => ?_)
  have cut_21 : ∀ (n9 : Nat) (t : Int) (x : Nat) (ax : Nat) (nx : Int) (fx : Int → Int) (y : Nat) (ay : Nat) (ny : Int) (fy : Int → Int), ((x = o ∧ ax = oa ∧ y = p ∧ ay = pa) ∨ (x = p ∧ ax = pa ∧ y = o ∧ ay = oa)) → (0 ≤ t ∧ t ≤ k) → (It b f n t.toNat fx nx) → (0 ≤ nx ∧ nx ≤ 5000) → (0 ≤ ny ∧ ny ≤ 5000) → (BD fx) → (BD fy) → (k - t < (n9 : Int)) → ∀ (H : Heap) (locs : List Loc) (ls : Array Slot), Wd G A s9.heap [(h0, .inr (6, [.ref o, .ref p])), (x, .inr (5, [.ref ax, .int (iI nx)])), (ax, .inl (G.2.1 0, 5000, .inl (iA fx))), (y, .inr (5, [.ref ay, .int (iI ny)])), (ay, .inl (G.2.1 0, 5000, .inl (iA fy))), (h, .inr (5, [.ref a, .int (iI n)])), (a, .inl (G.2.1 0, 40, .inl (iA f)))] H locs → lv_has ls 8 [(6, .int (iI t)), (5, .ref y), (4, .ref x), (0, .ref h0), (1, .ref h), (2, .int (iI b)), (3, .int (iI k))] → W p9 l e9 (rmL 2) s9 m9 args below meth c9 H locs 0 0 Q (F0 m9 21 ls []) := by
    intro n9
    induction n9 with
    | zero => intro t x ax nx fx y ay ny fy hxy ht hI hnx hny hfx hfy hmu; intros; exfalso; omega
    | succ n9 ih_21 =>
      intro t x ax nx fx y ay ny fy hxy ht hI hnx hny hfx hfy hmu H locs ls hW hl
      refine lv_iload C.1 C.2.1 dX8_speak_21 (lv_at hl 0 rfl) ?_
      refine lv_iload_n C.1 C.2.1 dX8_speak_23 rfl (lv_at hl 6 rfl) ?_
      refine z_icmp_ge (tgt := 74) C dX8_speak_24 (by decide) (by omega) (fun c_24 => ?_) (fun c_24 => ?_)
      ·
        refine lv_aload C.1 C.2.1 dX8_speak_74 (lv_at hl 2 rfl) ?_
        have hW_99 := hW
        rcases hxy with ⟨e1, e2, e3, e4⟩ | ⟨e1, e2, e3, e4⟩
        ·
          subst e1
          subst e2
          subst e3
          subst e4
          rw [hQ]
          have hP9 : (((some (Value.ref x)) = some .null ∧ ItB b f n k.toNat) ∨ ((some (Value.ref x)) = some (.ref x) ∧ It b f n k.toNat fx nx) ∨ ((some (Value.ref x)) = some (.ref y) ∧ It b f n k.toNat fy ny)) ∧ (BD fx) ∧ (BD fy) ∧ (0 ≤ nx ∧ nx ≤ 5000) ∧ (0 ≤ ny ∧ ny ≤ 5000) := ⟨(by first | exact Or.inr (Or.inl ⟨rfl, by rw [show k.toNat = t.toNat by omega]; exact hI⟩) | exact Or.inr (Or.inr ⟨rfl, by rw [show k.toNat = t.toNat by omega]; exact hI⟩)), hfx, hfy, hnx, hny⟩
          exact z_aret C hr (Or.inl ⟨_, rfl⟩) (Or.inr ⟨_, rfl⟩) hlocks hW_99 (nx, fx, ny, fy) rfl hP9 dX8_speak_76
        ·
          subst e1
          subst e2
          subst e3
          subst e4
          rw [hQ]
          have hP9 : (((some (Value.ref x)) = some .null ∧ ItB b f n k.toNat) ∨ ((some (Value.ref x)) = some (.ref y) ∧ It b f n k.toNat fy ny) ∨ ((some (Value.ref x)) = some (.ref x) ∧ It b f n k.toNat fx nx)) ∧ (BD fy) ∧ (BD fx) ∧ (0 ≤ ny ∧ ny ≤ 5000) ∧ (0 ≤ nx ∧ nx ≤ 5000) := ⟨(by first | exact Or.inr (Or.inl ⟨rfl, by rw [show k.toNat = t.toNat by omega]; exact hI⟩) | exact Or.inr (Or.inr ⟨rfl, by rw [show k.toNat = t.toNat by omega]; exact hI⟩)), hfy, hfx, hny, hnx⟩
          exact z_aret C hr (Or.inl ⟨_, rfl⟩) (Or.inr ⟨_, rfl⟩) hlocks (Wd.sub hW_99 [0, 3, 4, 1, 2, 5, 6] rfl (by decide)) (ny, fy, nx, fx) rfl hP9 dX8_speak_76
      ·
        refine lv_iload_n C.1 C.2.1 dX8_speak_27 rfl (lv_at hl 5 rfl) ?_
        refine z_if_eq (tgt := 44) C dX8_speak_28 (by decide) (by omega) (fun c_28 => ?_) (fun c_28 => ?_)
        ·
          refine lv_aload C.1 C.2.1 dX8_speak_44 (lv_at hl 2 rfl) ?_
          refine lv_aload C.1 C.2.1 dX8_speak_46 (lv_at hl 1 rfl) ?_
          refine z_call (va_runS (As := [.ref x, .ref y]) (rest := []) C (c_X8_say l G x ax 5000 nx fx y ay ny fy (by first | omega | assumption | (intros; first | rfl | omega | assumption | (and_intros <;> first | rfl | omega | assumption))) (by first | omega | assumption | (intros; first | rfl | omega | assumption | (and_intros <;> first | rfl | omega | assumption))) hfx hfy H.size) (va_cwS 2 C.2.2.2.2 gX8_speak_X8_say rfl rfl rfl (by decide +kernel) ⟨Nat.le_of_ble_eq_true rfl, Nat.le_of_ble_eq_true rfl⟩) (z_preS hK hW hA [1, 2, 3, 4] rfl (by decide)) rfl rfl hl.1 rfl (lv_room (Nat.le_of_ble_eq_true rfl)) dX8_speak_48 ⟨Nat.zero_le _, Nat.zero_le _⟩) hW hA [1, 2, 3, 4] rfl (by decide) (fun _ => rfl) (fun r u H locs hp hW => ?_)
          obtain ⟨m2_48, g2_48⟩ := u
          have hp : ∃ z : Int, r = some (.int (iI z)) ∧ ((z = 1 ∧ SayR fx nx g2_48 m2_48) ∨ (z = 0 ∧ SayB fx nx)) ∧ (BD g2_48) ∧ (0 ≤ m2_48 ∧ m2_48 ≤ 5000) := hp
          obtain ⟨z_48, rfl, hz_48_0, hz_48_1, hz_48_2⟩ := hp
          have hW : Wd G A s9.heap [(h0, .inr (6, [.ref o, .ref p])), (x, .inr (5, [.ref ax, .int (iI nx)])), (ax, .inl (G.2.1 0, 5000, .inl (iA fx))), (y, .inr (5, [.ref ay, .int (iI m2_48)])), (ay, .inl (G.2.1 0, 5000, .inl (iA g2_48))), (h, .inr (5, [.ref a, .int (iI n)])), (a, .inl (G.2.1 0, 40, .inl (iA f)))] H locs := hW
          have hd_48 : z_48 ≠ 0 → SayR fx nx g2_48 m2_48 := fun q9 => hz_48_0.elim (fun q => q.2) (fun q => absurd q.1 q9)
          refine z_if_ne (tgt := 56) C dX8_speak_51 (by decide) (by omega) (fun c_51 => ?_) (fun c_51 => ?_)
          ·
            have hd_48 := hd_48 c_51
            refine lv_aload C.1 C.2.1 dX8_speak_56 (lv_at hl 1 rfl) ?_
            refine lv_astore (lv' := [(7, .ref y), (6, .int (iI t)), (5, .ref y), (4, .ref x), (0, .ref h0), (1, .ref h), (2, .int (iI b)), (3, .int (iI k))]) C.1 C.2.1 dX8_speak_58 hl (by decide) rfl (fun ls hl => ?_)
            refine lv_aload C.1 C.2.1 dX8_speak_60 (lv_at hl 3 rfl) ?_
            refine lv_astore (lv' := [(5, .ref x), (7, .ref y), (6, .int (iI t)), (4, .ref x), (0, .ref h0), (1, .ref h), (2, .int (iI b)), (3, .int (iI k))]) C.1 C.2.1 dX8_speak_62 hl (by decide) rfl (fun ls hl => ?_)
            refine lv_aload C.1 C.2.1 dX8_speak_64 (lv_at hl 1 rfl) ?_
            refine lv_astore (lv' := [(4, .ref y), (5, .ref x), (7, .ref y), (6, .int (iI t)), (0, .ref h0), (1, .ref h), (2, .int (iI b)), (3, .int (iI k))]) C.1 C.2.1 dX8_speak_66 hl (by decide) rfl (fun ls hl => ?_)
            refine lv_iinc (v := iI (t + 1)) (lv' := [(6, .int (iI (t + 1))), (4, .ref y), (5, .ref x), (7, .ref y), (0, .ref h0), (1, .ref h), (2, .int (iI b)), (3, .int (iI k))]) C.1 C.2.1 dX8_speak_68 hl (k := 3) rfl (iI_add _ _) (by decide) rfl (fun ls hl => ?_)
            refine lv_goto (tgt := 21) C.1 C.2.1 dX8_speak_71 (by decide) ?_
            exact ih_21 (t + 1) y ay m2_48 g2_48 x ax nx fx (hxy.elim (fun q => Or.inr ⟨q.2.2.1, q.2.2.2, q.1, q.2.1⟩) (fun q => Or.inl ⟨q.2.2.1, q.2.2.2, q.1, q.2.1⟩)) (by first | omega | assumption | (intros; first | rfl | omega | assumption | (and_intros <;> first | rfl | omega | assumption))) (by rw [show (t + 1).toNat = t.toNat + 1 by omega]; first | exact ⟨fx, nx, hI, Or.inl ⟨c_28, hd_35⟩⟩ | exact ⟨fx, nx, hI, Or.inr ⟨c_28, hd_48⟩⟩) hz_48_2 (by omega) hz_48_1 hfx (by omega) _ _ _ (Wd.sub hW [0, 3, 4, 1, 2, 5, 6] rfl (by decide)) (lv_sub hl [0, 2, 1, 4, 5, 6, 7] rfl)
          ·
            refine lv_null C.1 C.2.1 dX8_speak_54 ?_
            have hW_99 := hW
            rcases hxy with ⟨e1, e2, e3, e4⟩ | ⟨e1, e2, e3, e4⟩
            ·
              subst e1
              subst e2
              subst e3
              subst e4
              rw [hQ]
              have hP9 : (((some Value.null) = some .null ∧ ItB b f n k.toNat) ∨ ((some Value.null) = some (.ref x) ∧ It b f n k.toNat fx nx) ∨ ((some Value.null) = some (.ref y) ∧ It b f n k.toNat g2_48 m2_48)) ∧ (BD fx) ∧ (BD g2_48) ∧ (0 ≤ nx ∧ nx ≤ 5000) ∧ (0 ≤ m2_48 ∧ m2_48 ≤ 5000) := ⟨(Or.inl ⟨rfl, t.toNat, fx, nx, by omega, hI, by first | exact Or.inl ⟨c_28, hz_35_0.elim (fun q => absurd c_38 (by omega)) (fun q => q.2)⟩ | exact Or.inr ⟨c_28, hz_48_0.elim (fun q => absurd c_51 (by omega)) (fun q => q.2)⟩⟩), hfx, hz_48_1, hnx, hz_48_2⟩
              exact z_aret C hr (Or.inl ⟨_, rfl⟩) (Or.inl rfl) hlocks hW_99 (nx, fx, m2_48, g2_48) rfl hP9 dX8_speak_55
            ·
              subst e1
              subst e2
              subst e3
              subst e4
              rw [hQ]
              have hP9 : (((some Value.null) = some .null ∧ ItB b f n k.toNat) ∨ ((some Value.null) = some (.ref y) ∧ It b f n k.toNat g2_48 m2_48) ∨ ((some Value.null) = some (.ref x) ∧ It b f n k.toNat fx nx)) ∧ (BD g2_48) ∧ (BD fx) ∧ (0 ≤ m2_48 ∧ m2_48 ≤ 5000) ∧ (0 ≤ nx ∧ nx ≤ 5000) := ⟨(Or.inl ⟨rfl, t.toNat, fx, nx, by omega, hI, by first | exact Or.inl ⟨c_28, hz_35_0.elim (fun q => absurd c_38 (by omega)) (fun q => q.2)⟩ | exact Or.inr ⟨c_28, hz_48_0.elim (fun q => absurd c_51 (by omega)) (fun q => q.2)⟩⟩), hz_48_1, hfx, hz_48_2, hnx⟩
              exact z_aret C hr (Or.inl ⟨_, rfl⟩) (Or.inl rfl) hlocks (Wd.sub hW_99 [0, 3, 4, 1, 2, 5, 6] rfl (by decide)) (m2_48, g2_48, nx, fx) rfl hP9 dX8_speak_55
        ·
          refine lv_aload C.1 C.2.1 dX8_speak_31 (lv_at hl 2 rfl) ?_
          refine lv_aload C.1 C.2.1 dX8_speak_33 (lv_at hl 1 rfl) ?_
          refine z_call (va_runS (As := [.ref x, .ref y]) (rest := []) C (c_X8_tally l G x ax 5000 nx fx y ay 5000 ny fy (by first | omega | assumption | (intros; first | rfl | omega | assumption | (and_intros <;> first | rfl | omega | assumption))) (by first | omega | assumption | (intros; first | rfl | omega | assumption | (and_intros <;> first | rfl | omega | assumption))) hfx (by first | omega | assumption | (intros; first | rfl | omega | assumption | (and_intros <;> first | rfl | omega | assumption))) hfy H.size) (va_cwS 2 C.2.2.2.2 gX8_speak_X8_tally rfl rfl rfl (by decide +kernel) ⟨Nat.le_of_ble_eq_true rfl, Nat.le_of_ble_eq_true rfl⟩) (z_preS hK hW hA [1, 2, 3, 4] rfl (by decide)) rfl rfl hl.1 rfl (lv_room (Nat.le_of_ble_eq_true rfl)) dX8_speak_35 ⟨Nat.zero_le _, Nat.zero_le _⟩) hW hA [1, 2, 3, 4] rfl (by decide) (fun _ => rfl) (fun r u H locs hp hW => ?_)
          obtain ⟨m2_35, g2_35⟩ := u
          have hp : ∃ z : Int, r = some (.int (iI z)) ∧ ((z = 1 ∧ TalR fx nx g2_35 m2_35) ∨ (z = 0 ∧ TalB fx nx)) ∧ (BD g2_35) ∧ (0 ≤ m2_35 ∧ m2_35 ≤ 18) := hp
          obtain ⟨z_35, rfl, hz_35_0, hz_35_1, hz_35_2⟩ := hp
          have hW : Wd G A s9.heap [(h0, .inr (6, [.ref o, .ref p])), (x, .inr (5, [.ref ax, .int (iI nx)])), (ax, .inl (G.2.1 0, 5000, .inl (iA fx))), (y, .inr (5, [.ref ay, .int (iI m2_35)])), (ay, .inl (G.2.1 0, 5000, .inl (iA g2_35))), (h, .inr (5, [.ref a, .int (iI n)])), (a, .inl (G.2.1 0, 40, .inl (iA f)))] H locs := hW
          have hd_35 : z_35 ≠ 0 → TalR fx nx g2_35 m2_35 := fun q9 => hz_35_0.elim (fun q => q.2) (fun q => absurd q.1 q9)
          refine z_if_eq (tgt := 54) C dX8_speak_38 (by decide) (by omega) (fun c_38 => ?_) (fun c_38 => ?_)
          ·
            refine lv_null C.1 C.2.1 dX8_speak_54 ?_
            have hW_99 := hW
            rcases hxy with ⟨e1, e2, e3, e4⟩ | ⟨e1, e2, e3, e4⟩
            ·
              subst e1
              subst e2
              subst e3
              subst e4
              rw [hQ]
              have hP9 : (((some Value.null) = some .null ∧ ItB b f n k.toNat) ∨ ((some Value.null) = some (.ref x) ∧ It b f n k.toNat fx nx) ∨ ((some Value.null) = some (.ref y) ∧ It b f n k.toNat g2_35 m2_35)) ∧ (BD fx) ∧ (BD g2_35) ∧ (0 ≤ nx ∧ nx ≤ 5000) ∧ (0 ≤ m2_35 ∧ m2_35 ≤ 5000) := ⟨(Or.inl ⟨rfl, t.toNat, fx, nx, by omega, hI, by first | exact Or.inl ⟨c_28, hz_35_0.elim (fun q => absurd c_38 (by omega)) (fun q => q.2)⟩ | exact Or.inr ⟨c_28, hz_48_0.elim (fun q => absurd c_51 (by omega)) (fun q => q.2)⟩⟩), hfx, hz_35_1, hnx, (by first | omega | assumption | (intros; first | rfl | omega | assumption | (and_intros <;> first | rfl | omega | assumption)))⟩
              exact z_aret C hr (Or.inl ⟨_, rfl⟩) (Or.inl rfl) hlocks hW_99 (nx, fx, m2_35, g2_35) rfl hP9 dX8_speak_55
            ·
              subst e1
              subst e2
              subst e3
              subst e4
              rw [hQ]
              have hP9 : (((some Value.null) = some .null ∧ ItB b f n k.toNat) ∨ ((some Value.null) = some (.ref y) ∧ It b f n k.toNat g2_35 m2_35) ∨ ((some Value.null) = some (.ref x) ∧ It b f n k.toNat fx nx)) ∧ (BD g2_35) ∧ (BD fx) ∧ (0 ≤ m2_35 ∧ m2_35 ≤ 5000) ∧ (0 ≤ nx ∧ nx ≤ 5000) := ⟨(Or.inl ⟨rfl, t.toNat, fx, nx, by omega, hI, by first | exact Or.inl ⟨c_28, hz_35_0.elim (fun q => absurd c_38 (by omega)) (fun q => q.2)⟩ | exact Or.inr ⟨c_28, hz_48_0.elim (fun q => absurd c_51 (by omega)) (fun q => q.2)⟩⟩), hz_35_1, hfx, (by first | omega | assumption | (intros; first | rfl | omega | assumption | (and_intros <;> first | rfl | omega | assumption))), hnx⟩
              exact z_aret C hr (Or.inl ⟨_, rfl⟩) (Or.inl rfl) hlocks (Wd.sub hW_99 [0, 3, 4, 1, 2, 5, 6] rfl (by decide)) (m2_35, g2_35, nx, fx) rfl hP9 dX8_speak_55
          ·
            have hd_35 := hd_35 c_38
            refine lv_goto (tgt := 56) C.1 C.2.1 dX8_speak_41 (by decide) ?_
            refine lv_aload C.1 C.2.1 dX8_speak_56 (lv_at hl 1 rfl) ?_
            refine lv_astore (lv' := [(7, .ref y), (6, .int (iI t)), (5, .ref y), (4, .ref x), (0, .ref h0), (1, .ref h), (2, .int (iI b)), (3, .int (iI k))]) C.1 C.2.1 dX8_speak_58 hl (by decide) rfl (fun ls hl => ?_)
            refine lv_aload C.1 C.2.1 dX8_speak_60 (lv_at hl 3 rfl) ?_
            refine lv_astore (lv' := [(5, .ref x), (7, .ref y), (6, .int (iI t)), (4, .ref x), (0, .ref h0), (1, .ref h), (2, .int (iI b)), (3, .int (iI k))]) C.1 C.2.1 dX8_speak_62 hl (by decide) rfl (fun ls hl => ?_)
            refine lv_aload C.1 C.2.1 dX8_speak_64 (lv_at hl 1 rfl) ?_
            refine lv_astore (lv' := [(4, .ref y), (5, .ref x), (7, .ref y), (6, .int (iI t)), (0, .ref h0), (1, .ref h), (2, .int (iI b)), (3, .int (iI k))]) C.1 C.2.1 dX8_speak_66 hl (by decide) rfl (fun ls hl => ?_)
            refine lv_iinc (v := iI (t + 1)) (lv' := [(6, .int (iI (t + 1))), (4, .ref y), (5, .ref x), (7, .ref y), (0, .ref h0), (1, .ref h), (2, .int (iI b)), (3, .int (iI k))]) C.1 C.2.1 dX8_speak_68 hl (k := 3) rfl (iI_add _ _) (by decide) rfl (fun ls hl => ?_)
            refine lv_goto (tgt := 21) C.1 C.2.1 dX8_speak_71 (by decide) ?_
            exact ih_21 (t + 1) y ay m2_35 g2_35 x ax nx fx (hxy.elim (fun q => Or.inr ⟨q.2.2.1, q.2.2.2, q.1, q.2.1⟩) (fun q => Or.inl ⟨q.2.2.1, q.2.2.2, q.1, q.2.1⟩)) (by first | omega | assumption | (intros; first | rfl | omega | assumption | (and_intros <;> first | rfl | omega | assumption))) (by rw [show (t + 1).toNat = t.toNat + 1 by omega]; first | exact ⟨fx, nx, hI, Or.inl ⟨c_28, hd_35⟩⟩ | exact ⟨fx, nx, hI, Or.inr ⟨c_28, hd_48⟩⟩) (by first | omega | assumption | (intros; first | rfl | omega | assumption | (and_intros <;> first | rfl | omega | assumption))) (by omega) hz_35_1 hfx (by omega) _ _ _ (Wd.sub hW [0, 3, 4, 1, 2, 5, 6] rfl (by decide)) (lv_sub hl [0, 2, 1, 4, 5, 6, 7] rfl)
  exact cut_21 (((k - 0) + 1 : Int)).toNat 0 o oa n f2_15 p pa n2 f2 (Or.inl ⟨rfl, rfl, rfl, rfl⟩) (by first | omega | assumption | (intros; first | rfl | omega | assumption | (and_intros <;> first | rfl | omega | assumption))) (⟨rfl, hz_15_1⟩) (by first | omega | assumption | (intros; first | rfl | omega | assumption | (and_intros <;> first | rfl | omega | assumption))) (by omega) hz_15_0 hf2 (by omega) _ _ _ hW (lv_sub hl [0, 1, 2, 3, 4, 5, 6] rfl)
set_option maxHeartbeats 4000000 in
set_option maxRecDepth 100000 in
/-- Speaker.takeBack -/
theorem c_X8_takeBack (l : Launch) (G : GG) (h0 : Nat) (o : Nat) (oa : Nat) (p : Nat) (pa : Nat) (n1 : Int) (f1 : Int → Int) (n2 : Int) (f2 : Int → Int) (h : Nat) (a : Nat) (n : Int) (f : Int → Int) (hn : 0 ≤ n ∧ n ≤ 40) (hf : BD f) (hf1 : BD f1) (hf2 : BD f2) (hn1 : 0 ≤ n1 ∧ n1 ≤ 5000) (hn2 : 0 ≤ n2 ∧ n2 ≤ 5000) (hF : FIG f n) : MQc l yX8_takeBack wsX8_takeBack 2 G [.ref h0, .ref h] [(h0, .inr (6, [.ref o, .ref p])), (o, .inr (5, [.ref oa, .int (iI n1)])), (oa, .inl (G.2.1 0, 5000, .inl (iA f1))), (p, .inr (5, [.ref pa, .int (iI n2)])), (pa, .inl (G.2.1 0, 5000, .inl (iA f2))), (h, .inr (5, [.ref a, .int (iI n)])), (a, .inl (G.2.1 0, 40, .inl (iA f)))] (fun r (u : Int × (Int → Int)) => ((r = some .null ∧ UnB f n) ∨ (r = some (.ref o) ∧ UnR f n u.2 u.1)) ∧ (BD u.2) ∧ (0 ≤ u.1 ∧ u.1 ≤ 5000)) (fun u => [(h0, .inr (6, [.ref o, .ref p])), (o, .inr (5, [.ref oa, .int (iI u.1)])), (oa, .inl (G.2.1 0, 5000, .inl (iA u.2))), (p, .inr (5, [.ref pa, .int (iI n2)])), (pa, .inl (G.2.1 0, 5000, .inl (iA f2))), (h, .inr (5, [.ref a, .int (iI n)])), (a, .inl (G.2.1 0, 40, .inl (iA f)))]) := by
  refine MQc.start (own := RX8) (by decide) rfl rfl (Nat.le_of_ble_eq_true rfl) ?_
  intro p9 e9 s9 m9 args below meth c9 A Q C hK hW hA hr hlocks hQ ls hl
  have hl : lv_has ls 2 [(0, .ref h0), (1, .ref h)] := hl
  have hin6 : ∀ w ∈ wsX60, w ∈ wsX8_takeBack := by decide +kernel
  have hin8 : ∀ w ∈ wsX80, w ∈ wsX8_takeBack := by decide +kernel
  refine lv_aload_n C.1 C.2.1 dX8_takeBack_0 rfl (lv_at hl 1 rfl) ?_
  refine lv_aload_n C.1 C.2.1 dX8_takeBack_1 rfl (lv_at hl 0 rfl) ?_
  refine z_get C hK hW hin8 (v := .ref o) 0 rfl rfl 0 (by decide) (C.2.2.2.2 (.fieldLink RX8 14 "TellingRows$Speaker" "one" "LTellingRows$Sequence;") (List.mem_of_getElem? (i := 1) rfl)) (fun _ h9 => h9) rfl dX8_takeBack_2 ?_
  refine z_call (va_runS (As := [.ref h, .ref o]) (rest := []) C (c_X8_unsay l G h a 40 n f o oa n1 f1 (by first | omega | assumption | (intros; first | rfl | omega | assumption | (and_intros <;> first | rfl | omega | assumption))) (by first | omega | assumption | (intros; first | rfl | omega | assumption | (and_intros <;> first | rfl | omega | assumption))) hf hF hf1 s9.heap.size) (va_cwS 2 C.2.2.2.2 gX8_takeBack_X8_unsay rfl rfl rfl (by decide +kernel) ⟨Nat.le_of_ble_eq_true rfl, Nat.le_of_ble_eq_true rfl⟩) (z_preS hK hW hA [5, 6, 1, 2] rfl (by decide)) rfl rfl hl.1 rfl (lv_room (Nat.le_of_ble_eq_true rfl)) dX8_takeBack_5 ⟨Nat.zero_le _, Nat.zero_le _⟩) hW hA [5, 6, 1, 2] rfl (by decide) (fun _ => rfl) (fun r u H locs hp hW => ?_)
  obtain ⟨m2_5, g2_5⟩ := u
  have hp : ∃ z : Int, r = some (.int (iI z)) ∧ ((z = 1 ∧ UnR f n g2_5 m2_5) ∨ (z = 0 ∧ UnB f n)) ∧ (BD g2_5) ∧ (0 ≤ m2_5 ∧ m2_5 ≤ 5000) := hp
  obtain ⟨z_5, rfl, hz_5_0, hz_5_1, hz_5_2⟩ := hp
  have hW : Wd G A s9.heap [(h0, .inr (6, [.ref o, .ref p])), (o, .inr (5, [.ref oa, .int (iI m2_5)])), (oa, .inl (G.2.1 0, 5000, .inl (iA g2_5))), (p, .inr (5, [.ref pa, .int (iI n2)])), (pa, .inl (G.2.1 0, 5000, .inl (iA f2))), (h, .inr (5, [.ref a, .int (iI n)])), (a, .inl (G.2.1 0, 40, .inl (iA f)))] H locs := hW
  refine z_if_eq (tgt := 18) C dX8_takeBack_8 (by decide) (by omega) (fun c_8 => ?_) (fun c_8 => ?_)
  ·
    refine lv_null C.1 C.2.1 dX8_takeBack_18 ?_
    rw [hQ]
    have hP9 : (((some Value.null) = some .null ∧ UnB f n) ∨ ((some Value.null) = some (.ref o) ∧ UnR f n g2_5 m2_5)) ∧ (BD g2_5) ∧ (0 ≤ m2_5 ∧ m2_5 ≤ 5000) := ⟨(by first | exact Or.inr ⟨rfl, hz_5_0.elim (fun q => q.2) (fun q => absurd q.1 c_8)⟩ | exact Or.inl ⟨rfl, hz_5_0.elim (fun q => absurd c_8 (by omega)) (fun q => q.2)⟩), hz_5_1, hz_5_2⟩
    exact z_aret C hr (Or.inl ⟨_, rfl⟩) (Or.inl rfl) hlocks hW (m2_5, g2_5) rfl hP9 dX8_takeBack_19
  ·
    refine lv_aload_n C.1 C.2.1 dX8_takeBack_11 rfl (lv_at hl 0 rfl) ?_
    refine z_get C hK hW hin8 (v := .ref o) 0 rfl rfl 0 (by decide) (C.2.2.2.2 (.fieldLink RX8 14 "TellingRows$Speaker" "one" "LTellingRows$Sequence;") (List.mem_of_getElem? (i := 1) rfl)) (fun _ h9 => h9) rfl dX8_takeBack_12 ?_
    refine lv_goto (tgt := 19) C.1 C.2.1 dX8_takeBack_15 (by decide) ?_
    rw [hQ]
    have hP9 : (((some (Value.ref o)) = some .null ∧ UnB f n) ∨ ((some (Value.ref o)) = some (.ref o) ∧ UnR f n g2_5 m2_5)) ∧ (BD g2_5) ∧ (0 ≤ m2_5 ∧ m2_5 ≤ 5000) := ⟨(by first | exact Or.inr ⟨rfl, hz_5_0.elim (fun q => q.2) (fun q => absurd q.1 c_8)⟩ | exact Or.inl ⟨rfl, hz_5_0.elim (fun q => absurd c_8 (by omega)) (fun q => q.2)⟩), hz_5_1, hz_5_2⟩
    exact z_aret C hr (Or.inl ⟨_, rfl⟩) (Or.inr ⟨_, rfl⟩) hlocks hW (m2_5, g2_5) rfl hP9 dX8_takeBack_19
set_option maxHeartbeats 4000000 in
set_option maxRecDepth 100000 in
/-- Speaker.mostBacks -/
theorem c_X8_mostBacks (l : Launch) (G : GG) (h0 : Nat) (o : Nat) (oa : Nat) (p : Nat) (pa : Nat) (n1 : Int) (f1 : Int → Int) (n2 : Int) (f2 : Int → Int) (h : Nat) (a : Nat) (n : Int) (f : Int → Int) (hn : 0 ≤ n ∧ n ≤ 40) (hf : BD f) (hf1 : BD f1) (hf2 : BD f2) (hn1 : 0 ≤ n1 ∧ n1 ≤ 5000) (hn2 : 0 ≤ n2 ∧ n2 ≤ 5000) (hF : FIG f n) : MQc l yX8_mostBacks wsX8_mostBacks 2 G [.ref h0, .ref h] [(h0, .inr (6, [.ref o, .ref p])), (o, .inr (5, [.ref oa, .int (iI n1)])), (oa, .inl (G.2.1 0, 5000, .inl (iA f1))), (p, .inr (5, [.ref pa, .int (iI n2)])), (pa, .inl (G.2.1 0, 5000, .inl (iA f2))), (h, .inr (5, [.ref a, .int (iI n)])), (a, .inl (G.2.1 0, 40, .inl (iA f)))] (fun r (u : Int × (Int → Int) × Int × (Int → Int)) => ∃ z : Int, r = some (.int (iI z)) ∧ (BackR f n z) ∧ (BD u.2.1) ∧ (BD u.2.2.2) ∧ (0 ≤ u.1 ∧ u.1 ≤ 5000) ∧ (0 ≤ u.2.2.1 ∧ u.2.2.1 ≤ 5000)) (fun u => [(h0, .inr (6, [.ref o, .ref p])), (o, .inr (5, [.ref oa, .int (iI u.1)])), (oa, .inl (G.2.1 0, 5000, .inl (iA u.2.1))), (p, .inr (5, [.ref pa, .int (iI u.2.2.1)])), (pa, .inl (G.2.1 0, 5000, .inl (iA u.2.2.2))), (h, .inr (5, [.ref a, .int (iI n)])), (a, .inl (G.2.1 0, 40, .inl (iA f)))]) := by
  refine MQc.start (own := RX8) (by decide) rfl rfl (Nat.le_of_ble_eq_true rfl) ?_
  intro p9 e9 s9 m9 args below meth c9 A Q C hK hW hA hr hlocks hQ ls hl
  have hl : lv_has ls 6 [(0, .ref h0), (1, .ref h)] := hl
  have hin6 : ∀ w ∈ wsX60, w ∈ wsX8_mostBacks := by decide +kernel
  have hin8 : ∀ w ∈ wsX80, w ∈ wsX8_mostBacks := by decide +kernel
  refine lv_aload_n C.1 C.2.1 dX8_mostBacks_0 rfl (lv_at hl 0 rfl) ?_
  refine z_get C hK hW hin8 (v := .ref o) 0 rfl rfl 0 (by decide) (C.2.2.2.2 (.fieldLink RX8 14 "TellingRows$Speaker" "one" "LTellingRows$Sequence;") (List.mem_of_getElem? (i := 1) rfl)) (fun _ h9 => h9) rfl dX8_mostBacks_1 ?_
  refine lv_astore_n (lv' := [(2, .ref o), (0, .ref h0), (1, .ref h)]) C.1 C.2.1 dX8_mostBacks_4 rfl hl (by decide) rfl (fun ls hl => ?_)
  refine lv_aload_n C.1 C.2.1 dX8_mostBacks_5 rfl (lv_at hl 1 rfl) ?_
  refine z_get C hK hW hin8 (v := .ref p) 0 rfl rfl 1 (by decide) (C.2.2.2.2 (.fieldLink RX8 20 "TellingRows$Speaker" "other" "LTellingRows$Sequence;") (List.mem_of_getElem? (i := 2) rfl)) (fun _ h9 => h9) rfl dX8_mostBacks_6 ?_
  refine lv_astore_n (lv' := [(3, .ref p), (2, .ref o), (0, .ref h0), (1, .ref h)]) C.1 C.2.1 dX8_mostBacks_9 rfl hl (by decide) rfl (fun ls hl => ?_)
  refine lv_aload_n C.1 C.2.1 dX8_mostBacks_10 rfl (lv_at hl 1 rfl) ?_
  refine lv_aload_n C.1 C.2.1 dX8_mostBacks_11 rfl (lv_at hl 3 rfl) ?_
  refine z_call (va_runV (As := [.ref h]) (rest := []) C (c_X6_copy l G o oa 5000 n1 f1 h a 40 n f (by first | omega | assumption | (intros; first | rfl | omega | assumption | (and_intros <;> first | rfl | omega | assumption))) (by first | omega | assumption | (intros; first | rfl | omega | assumption | (and_intros <;> first | rfl | omega | assumption))) (by first | omega | assumption | (intros; first | rfl | omega | assumption | (and_intros <;> first | rfl | omega | assumption))) hf1 hf s9.heap.size) (cwV 1 C.2.2.2.2 gX8_mostBacks_X6_copy rfl rfl rfl (by decide +kernel) ⟨Nat.le_of_ble_eq_true rfl, Nat.le_of_ble_eq_true rfl⟩) (z_preV hK hW hA [1, 2, 5, 6] rfl (by decide) (ci := 5) (q0 := 1) rfl rfl) rfl rfl hl.1 rfl (lv_room (Nat.le_of_ble_eq_true rfl)) dX8_mostBacks_12 ⟨Nat.zero_le _, Nat.zero_le _⟩) hW hA [1, 2, 5, 6] rfl (by decide) (fun _ => rfl) (fun r u H locs hp hW => ?_)
  obtain ⟨f2_12, rfl⟩ : ∃ q9, q9 = u := ⟨_, rfl⟩
  have hp : r = none ∧ (BD f2_12) ∧ ((∀ j, 0 ≤ j → j < n → f2_12 j = f j)) := hp
  obtain ⟨rfl, hz_12_0, hz_12_1⟩ := hp
  have hW : Wd G A s9.heap [(h0, .inr (6, [.ref o, .ref p])), (o, .inr (5, [.ref oa, .int (iI n)])), (oa, .inl (G.2.1 0, 5000, .inl (iA f2_12))), (p, .inr (5, [.ref pa, .int (iI n2)])), (pa, .inl (G.2.1 0, 5000, .inl (iA f2))), (h, .inr (5, [.ref a, .int (iI n)])), (a, .inl (G.2.1 0, 40, .inl (iA f)))] H locs := hW
  refine lv_iconst (v := iI 0) C.1 C.2.1 dX8_mostBacks_15 rfl ?_
  refine lv_istore (lv' := [(4, .int (iI 0)), (3, .ref p), (2, .ref o), (0, .ref h0), (1, .ref h)]) C.1 C.2.1 dX8_mostBacks_16 hl (by decide) rfl (fun ls hl => ?_)
  have cut_18 : ∀ (n9 : Nat) (t : Int) (x : Nat) (ax : Nat) (nx : Int) (fx : Int → Int) (y : Nat) (ay : Nat) (ny : Int) (fy : Int → Int), ((x = o ∧ ax = oa ∧ y = p ∧ ay = pa) ∨ (x = p ∧ ax = pa ∧ y = o ∧ ay = oa)) → (0 ≤ t ∧ t ≤ 20) → (UIt f n t.toNat fx nx) → (FIG fx nx) → (0 ≤ nx ∧ nx ≤ 5000) → (0 ≤ ny ∧ ny ≤ 5000) → (BD fx) → (BD fy) → (20 - t < (n9 : Int)) → ∀ (H : Heap) (locs : List Loc) (ls : Array Slot), Wd G A s9.heap [(h0, .inr (6, [.ref o, .ref p])), (x, .inr (5, [.ref ax, .int (iI nx)])), (ax, .inl (G.2.1 0, 5000, .inl (iA fx))), (y, .inr (5, [.ref ay, .int (iI ny)])), (ay, .inl (G.2.1 0, 5000, .inl (iA fy))), (h, .inr (5, [.ref a, .int (iI n)])), (a, .inl (G.2.1 0, 40, .inl (iA f)))] H locs → lv_has ls 6 [(4, .int (iI t)), (3, .ref y), (2, .ref x), (0, .ref h0), (1, .ref h)] → W p9 l e9 (rmL 2) s9 m9 args below meth c9 H locs 0 0 Q (F0 m9 18 ls []) := by
    intro n9
    induction n9 with
    | zero => intro t x ax nx fx y ay ny fy hxy ht hI hFx hnx hny hfx hfy hmu; intros; exfalso; omega
    | succ n9 ih_18 =>
      intro t x ax nx fx y ay ny fy hxy ht hI hFx hnx hny hfx hfy hmu H locs ls hW hl
      refine lv_iload C.1 C.2.1 dX8_mostBacks_18 (lv_at hl 0 rfl) ?_
      refine lv_bipush (v := iI 20) C.1 C.2.1 dX8_mostBacks_20 (by decide +kernel) ?_
      refine z_icmp_ge (tgt := 47) C dX8_mostBacks_22 (by decide) (by omega) (fun c_22 => ?_) (fun c_22 => ?_)
      ·
        refine lv_iload C.1 C.2.1 dX8_mostBacks_47 (lv_at hl 0 rfl) ?_
        have hW_99 := hW
        rcases hxy with ⟨e1, e2, e3, e4⟩ | ⟨e1, e2, e3, e4⟩
        ·
          subst e1
          subst e2
          subst e3
          subst e4
          rw [hQ]
          have hP9 : ∃ z : Int, (some (Value.int (iI t))) = some (.int (iI z)) ∧ (BackR f n z) ∧ (BD fx) ∧ (BD fy) ∧ (0 ≤ nx ∧ nx ≤ 5000) ∧ (0 ≤ ny ∧ ny ≤ 5000) := ⟨_, rfl, (⟨by omega, by omega, fx, nx, hI, by first | exact Or.inl (by omega) | exact Or.inr (hz_27_0.elim (fun q => absurd c_30 (by omega)) (fun q => q.2))⟩), hfx, hfy, hnx, hny⟩
          exact z_iret C hr hlocks hW_99 (nx, fx, ny, fy) rfl hP9 dX8_mostBacks_49
        ·
          subst e1
          subst e2
          subst e3
          subst e4
          rw [hQ]
          have hP9 : ∃ z : Int, (some (Value.int (iI t))) = some (.int (iI z)) ∧ (BackR f n z) ∧ (BD fy) ∧ (BD fx) ∧ (0 ≤ ny ∧ ny ≤ 5000) ∧ (0 ≤ nx ∧ nx ≤ 5000) := ⟨_, rfl, (⟨by omega, by omega, fx, nx, hI, by first | exact Or.inl (by omega) | exact Or.inr (hz_27_0.elim (fun q => absurd c_30 (by omega)) (fun q => q.2))⟩), hfy, hfx, hny, hnx⟩
          exact z_iret C hr hlocks (Wd.sub hW_99 [0, 3, 4, 1, 2, 5, 6] rfl (by decide)) (ny, fy, nx, fx) rfl hP9 dX8_mostBacks_49
      ·
        refine lv_aload_n C.1 C.2.1 dX8_mostBacks_25 rfl (lv_at hl 2 rfl) ?_
        refine lv_aload_n C.1 C.2.1 dX8_mostBacks_26 rfl (lv_at hl 1 rfl) ?_
        refine z_call (va_runS (As := [.ref x, .ref y]) (rest := []) C (c_X8_unsay l G x ax 5000 nx fx y ay ny fy (by first | omega | assumption | (intros; first | rfl | omega | assumption | (and_intros <;> first | rfl | omega | assumption))) (by first | omega | assumption | (intros; first | rfl | omega | assumption | (and_intros <;> first | rfl | omega | assumption))) hfx hFx hfy H.size) (va_cwS 2 C.2.2.2.2 gX8_mostBacks_X8_unsay rfl rfl rfl (by decide +kernel) ⟨Nat.le_of_ble_eq_true rfl, Nat.le_of_ble_eq_true rfl⟩) (z_preS hK hW hA [1, 2, 3, 4] rfl (by decide)) rfl rfl hl.1 rfl (lv_room (Nat.le_of_ble_eq_true rfl)) dX8_mostBacks_27 ⟨Nat.zero_le _, Nat.zero_le _⟩) hW hA [1, 2, 3, 4] rfl (by decide) (fun _ => rfl) (fun r u H locs hp hW => ?_)
        obtain ⟨m2_27, g2_27⟩ := u
        have hp : ∃ z : Int, r = some (.int (iI z)) ∧ ((z = 1 ∧ UnR fx nx g2_27 m2_27) ∨ (z = 0 ∧ UnB fx nx)) ∧ (BD g2_27) ∧ (0 ≤ m2_27 ∧ m2_27 ≤ 5000) := hp
        obtain ⟨z_27, rfl, hz_27_0, hz_27_1, hz_27_2⟩ := hp
        have hW : Wd G A s9.heap [(h0, .inr (6, [.ref o, .ref p])), (x, .inr (5, [.ref ax, .int (iI nx)])), (ax, .inl (G.2.1 0, 5000, .inl (iA fx))), (y, .inr (5, [.ref ay, .int (iI m2_27)])), (ay, .inl (G.2.1 0, 5000, .inl (iA g2_27))), (h, .inr (5, [.ref a, .int (iI n)])), (a, .inl (G.2.1 0, 40, .inl (iA f)))] H locs := hW
        refine z_if_eq (tgt := 47) C dX8_mostBacks_30 (by decide) (by omega) (fun c_30 => ?_) (fun c_30 => ?_)
        ·
          refine lv_iload C.1 C.2.1 dX8_mostBacks_47 (lv_at hl 0 rfl) ?_
          have hW_99 := hW
          rcases hxy with ⟨e1, e2, e3, e4⟩ | ⟨e1, e2, e3, e4⟩
          ·
            subst e1
            subst e2
            subst e3
            subst e4
            rw [hQ]
            have hP9 : ∃ z : Int, (some (Value.int (iI t))) = some (.int (iI z)) ∧ (BackR f n z) ∧ (BD fx) ∧ (BD g2_27) ∧ (0 ≤ nx ∧ nx ≤ 5000) ∧ (0 ≤ m2_27 ∧ m2_27 ≤ 5000) := ⟨_, rfl, (⟨by omega, by omega, fx, nx, hI, by first | exact Or.inl (by omega) | exact Or.inr (hz_27_0.elim (fun q => absurd c_30 (by omega)) (fun q => q.2))⟩), hfx, hz_27_1, hnx, hz_27_2⟩
            exact z_iret C hr hlocks hW_99 (nx, fx, m2_27, g2_27) rfl hP9 dX8_mostBacks_49
          ·
            subst e1
            subst e2
            subst e3
            subst e4
            rw [hQ]
            have hP9 : ∃ z : Int, (some (Value.int (iI t))) = some (.int (iI z)) ∧ (BackR f n z) ∧ (BD g2_27) ∧ (BD fx) ∧ (0 ≤ m2_27 ∧ m2_27 ≤ 5000) ∧ (0 ≤ nx ∧ nx ≤ 5000) := ⟨_, rfl, (⟨by omega, by omega, fx, nx, hI, by first | exact Or.inl (by omega) | exact Or.inr (hz_27_0.elim (fun q => absurd c_30 (by omega)) (fun q => q.2))⟩), hz_27_1, hfx, hz_27_2, hnx⟩
            exact z_iret C hr hlocks (Wd.sub hW_99 [0, 3, 4, 1, 2, 5, 6] rfl (by decide)) (m2_27, g2_27, nx, fx) rfl hP9 dX8_mostBacks_49
        ·
          have hd_27 := hz_27_0.elim (fun q => q.2) (fun q => absurd q.1 c_30)
          refine lv_aload_n C.1 C.2.1 dX8_mostBacks_33 rfl (lv_at hl 1 rfl) ?_
          refine lv_astore (lv' := [(5, .ref y), (4, .int (iI t)), (3, .ref y), (2, .ref x), (0, .ref h0), (1, .ref h)]) C.1 C.2.1 dX8_mostBacks_34 hl (by decide) rfl (fun ls hl => ?_)
          refine lv_aload_n C.1 C.2.1 dX8_mostBacks_36 rfl (lv_at hl 3 rfl) ?_
          refine lv_astore_n (lv' := [(3, .ref x), (5, .ref y), (4, .int (iI t)), (2, .ref x), (0, .ref h0), (1, .ref h)]) C.1 C.2.1 dX8_mostBacks_37 rfl hl (by decide) rfl (fun ls hl => ?_)
          refine lv_aload C.1 C.2.1 dX8_mostBacks_38 (lv_at hl 1 rfl) ?_
          refine lv_astore_n (lv' := [(2, .ref y), (3, .ref x), (5, .ref y), (4, .int (iI t)), (0, .ref h0), (1, .ref h)]) C.1 C.2.1 dX8_mostBacks_40 rfl hl (by decide) rfl (fun ls hl => ?_)
          refine lv_iinc (v := iI (t + 1)) (lv' := [(4, .int (iI (t + 1))), (2, .ref y), (3, .ref x), (5, .ref y), (0, .ref h0), (1, .ref h)]) C.1 C.2.1 dX8_mostBacks_41 hl (k := 3) rfl (iI_add _ _) (by decide) rfl (fun ls hl => ?_)
          refine lv_goto (tgt := 18) C.1 C.2.1 dX8_mostBacks_44 (by decide) ?_
          exact ih_18 (t + 1) y ay m2_27 g2_27 x ax nx fx (hxy.elim (fun q => Or.inr ⟨q.2.2.1, q.2.2.2, q.1, q.2.1⟩) (fun q => Or.inl ⟨q.2.2.1, q.2.2.2, q.1, q.2.1⟩)) (by first | omega | assumption | (intros; first | rfl | omega | assumption | (and_intros <;> first | rfl | omega | assumption))) (by rw [show (t + 1).toNat = t.toNat + 1 by omega]; exact ⟨fx, nx, hI, hd_27⟩) (UnR_fig hd_27 hFx) hz_27_2 (by omega) hz_27_1 hfx (by omega) _ _ _ (Wd.sub hW [0, 3, 4, 1, 2, 5, 6] rfl (by decide)) (lv_sub hl [0, 2, 1, 4, 5] rfl)
  exact cut_18 (((20 - 0) + 1 : Int)).toNat 0 o oa n f2_12 p pa n2 f2 (Or.inl ⟨rfl, rfl, rfl, rfl⟩) (by first | omega | assumption | (intros; first | rfl | omega | assumption | (and_intros <;> first | rfl | omega | assumption))) (⟨rfl, hz_12_1⟩) (fun j j0 j1 => by rw [hz_12_1 j j0 j1]; exact hF j j0 j1) (by first | omega | assumption | (intros; first | rfl | omega | assumption | (and_intros <;> first | rfl | omega | assumption))) (by omega) hz_12_0 hf2 (by omega) _ _ _ hW (lv_sub hl [0, 1, 2, 3, 4] rfl)
