set_option maxHeartbeats 4000000 in
set_option maxRecDepth 100000 in
/-- Speaker.say -/
theorem c_X8_say (l : Launch) (G : GG) (h : Nat) (a : Nat) (N : Nat) (n : Int) (f : Int → Int) (h2 : Nat) (a2 : Nat) (m0 : Int) (g0 : Int → Int) (hN : N ≤ 2147483647) (hn : 0 ≤ n ∧ n ≤ (N : Int)) (hf : BD f) (hg0 : BD g0) : MQc l yX8_say wsX8_say 1 G [.ref h, .ref h2] [(h, .inr (5, [.ref a, .int (iI n)])), (a, .inl (G.2.1 0, N, .inl (iA f))), (h2, .inr (5, [.ref a2, .int (iI m0)])), (a2, .inl (G.2.1 0, 5000, .inl (iA g0)))] (fun r (u : Int × (Int → Int)) => ∃ z : Int, r = some (.int (iI z)) ∧ ((z = 1 ∧ SayR f n u.2 u.1) ∨ (z = 0 ∧ SayB f n)) ∧ (BD u.2) ∧ (0 ≤ u.1 ∧ u.1 ≤ 5000)) (fun u => [(h, .inr (5, [.ref a, .int (iI n)])), (a, .inl (G.2.1 0, N, .inl (iA f))), (h2, .inr (5, [.ref a2, .int (iI u.1)])), (a2, .inl (G.2.1 0, 5000, .inl (iA u.2)))]) := by
  refine MQc.start (own := RX8) (by decide) rfl rfl (Nat.le_of_ble_eq_true rfl) ?_
  intro p9 e9 s9 m9 args below meth c9 A Q C hK hW hA hr hlocks hQ ls hl
  have hl : lv_has ls 4 [(0, .ref h), (1, .ref h2)] := hl
  have hin6 : ∀ w ∈ wsX60, w ∈ wsX8_say := by decide +kernel
  refine lv_aload_n C.1 C.2.1 dX8_say_0 rfl (lv_at hl 1 rfl) ?_
  refine z_call (va_runV (As := []) (rest := []) C (c_X6_clear l G h2 a2 5000 m0 g0  s9.heap.size) (cwV 0 C.2.2.2.2 gX8_say_X6_clear rfl rfl rfl (by decide +kernel) ⟨Nat.le_of_ble_eq_true rfl, Nat.le_of_ble_eq_true rfl⟩) (z_preV hK hW hA [2, 3] rfl (by decide) (ci := 5) (q0 := 2) rfl rfl) rfl rfl hl.1 rfl (lv_room (Nat.le_of_ble_eq_true rfl)) dX8_say_1 ⟨Nat.zero_le _, Nat.zero_le _⟩) hW hA [2, 3] rfl (by decide) (fun _ => rfl) (fun r u H locs hp hW => ?_)
  have hp : ∃ z : Int, r = some (.int (iI z)) ∧ (z = m0) := hp
  obtain ⟨z_1, rfl, hz_1_0⟩ := hp
  have hW : Wd G A s9.heap [(h, .inr (5, [.ref a, .int (iI n)])), (a, .inl (G.2.1 0, N, .inl (iA f))), (h2, .inr (5, [.ref a2, .int (iI 0)])), (a2, .inl (G.2.1 0, 5000, .inl (iA g0)))] H locs := hW
  refine lv_pop C.1 C.2.1 dX8_say_4 rfl ?_
  refine lv_iconst (v := iI 0) C.1 C.2.1 dX8_say_5 rfl ?_
  refine lv_istore_n (lv' := [(2, .int (iI 0)), (0, .ref h), (1, .ref h2)]) C.1 C.2.1 dX8_say_6 rfl hl (by decide) rfl (fun ls hl => ?_)
  refine lv_iconst (v := iI 0) C.1 C.2.1 dX8_say_7 rfl ?_
  refine lv_istore_n (lv' := [(3, .int (iI 0)), (2, .int (iI 0)), (0, .ref h), (1, .ref h2)]) C.1 C.2.1 dX8_say_8 rfl hl (by decide) rfl (fun ls hl => ?_)
  have cut_9 : ∀ (n9 : Nat) (run : Int) (i : Int) (m : Int) (g : Int → Int), (0 ≤ i ∧ i ≤ n) → (SayC f n i run g m) → (BD g) → (n - i < (n9 : Int)) → ∀ (H : Heap) (locs : List Loc) (ls : Array Slot), Wd G A s9.heap [(h, .inr (5, [.ref a, .int (iI n)])), (a, .inl (G.2.1 0, N, .inl (iA f))), (h2, .inr (5, [.ref a2, .int (iI m)])), (a2, .inl (G.2.1 0, 5000, .inl (iA g)))] H locs → lv_has ls 4 [(3, .int (iI i)), (2, .int (iI run)), (0, .ref h), (1, .ref h2)] → W p9 l e9 (rmL 1) s9 m9 args below meth c9 H locs 0 0 Q (F0 m9 9 ls []) := by
    intro n9
    induction n9 with
    | zero => intro run i m g hi hI hg hmu; intros; exfalso; omega
    | succ n9 ih_9 =>
      intro run i m g hi hI hg hmu H locs ls hW hl
      have hM := SayC_m hI
      have hR := SayC_run hI
      refine lv_iload_n C.1 C.2.1 dX8_say_9 rfl (lv_at hl 0 rfl) ?_
      refine lv_aload_n C.1 C.2.1 dX8_say_10 rfl (lv_at hl 2 rfl) ?_
      refine z_callR (va_runV (As := []) (rest := [.int (iI i)]) C (c_X6_size l G h a N n f  H.size) (cwV 0 C.2.2.2.2 gX8_say_X6_size rfl rfl rfl (by decide +kernel) ⟨Nat.le_of_ble_eq_true rfl, Nat.le_of_ble_eq_true rfl⟩) (z_preV hK hW hA [0, 1] rfl (by decide) (ci := 5) (q0 := 0) rfl rfl) rfl rfl hl.1 rfl (lv_room (Nat.le_of_ble_eq_true rfl)) dX8_say_11 ⟨Nat.zero_le _, Nat.zero_le _⟩) (fun r hp => ?_)
      have hp : ∃ z : Int, r = some (.int (iI z)) ∧ (z = n) := hp
      obtain ⟨z_11, rfl, hz_11_0⟩ := hp
      refine z_icmp_ge (tgt := 84) C dX8_say_14 (by decide) (by omega) (fun c_14 => ?_) (fun c_14 => ?_)
      ·
        refine lv_iconst (v := iI 1) C.1 C.2.1 dX8_say_84 rfl ?_
        rw [hQ]
        exact z_zret C hr rfl hlocks hW (m, g) rfl ⟨_, rfl, (Or.inl ⟨rfl, SayC_e hI (by omega) (by omega)⟩), hg, (by first | omega | assumption | (intros; first | rfl | omega | assumption | (and_intros <;> first | rfl | omega | assumption)))⟩ dX8_say_85
      ·
        refine lv_iinc (v := iI (run + 1)) (lv' := [(2, .int (iI (run + 1))), (3, .int (iI i)), (0, .ref h), (1, .ref h2)]) C.1 C.2.1 dX8_say_17 hl (k := 1) rfl (iI_add _ _) (by decide) rfl (fun ls hl => ?_)
        refine lv_iload_n C.1 C.2.1 dX8_say_20 rfl (lv_at hl 1 rfl) ?_
        refine lv_iconst (v := iI 1) C.1 C.2.1 dX8_say_21 rfl ?_
        refine z_iadd C dX8_say_22 ?_
        refine lv_aload_n C.1 C.2.1 dX8_say_23 rfl (lv_at hl 2 rfl) ?_
        refine z_callR (va_runV (As := []) (rest := [.int (iI (i + 1))]) C (c_X6_size l G h a N n f  H.size) (cwV 0 C.2.2.2.2 gX8_say_X6_size rfl rfl rfl (by decide +kernel) ⟨Nat.le_of_ble_eq_true rfl, Nat.le_of_ble_eq_true rfl⟩) (z_preV hK hW hA [0, 1] rfl (by decide) (ci := 5) (q0 := 0) rfl rfl) rfl rfl hl.1 rfl (lv_room (Nat.le_of_ble_eq_true rfl)) dX8_say_24 ⟨Nat.zero_le _, Nat.zero_le _⟩) (fun r hp => ?_)
        have hp : ∃ z : Int, r = some (.int (iI z)) ∧ (z = n) := hp
        obtain ⟨z_24, rfl, hz_24_0⟩ := hp
        refine z_icmp_ge (tgt := 48) C dX8_say_27 (by decide) (by omega) (fun c_27 => ?_) (fun c_27 => ?_)
        ·
          refine lv_iload_n C.1 C.2.1 dX8_say_48 rfl (lv_at hl 0 rfl) ?_
          refine lv_bipush (v := iI 9) C.1 C.2.1 dX8_say_49 (by decide +kernel) ?_
          refine z_icmp_gt (tgt := 74) C dX8_say_51 (by decide) (by omega) (fun c_51 => ?_) (fun c_51 => ?_)
          ·
            refine lv_iconst (v := iI 0) C.1 C.2.1 dX8_say_74 rfl ?_
            rw [hQ]
            exact z_zret C hr rfl hlocks hW (m, g) rfl ⟨_, rfl, (Or.inr ⟨rfl, SayC_b hI (by omega) (fun q9 => by first | omega | (have h1 := hz_34_0 (by omega); have h2 := hz_39_0 (by omega); omega)) (by first | exact Or.inl (by omega) | exact Or.inr (by omega))⟩), hg, (by first | omega | assumption | (intros; first | rfl | omega | assumption | (and_intros <;> first | rfl | omega | assumption)))⟩ dX8_say_75
          ·
            refine lv_aload_n C.1 C.2.1 dX8_say_54 rfl (lv_at hl 3 rfl) ?_
            refine lv_iload_n C.1 C.2.1 dX8_say_55 rfl (lv_at hl 0 rfl) ?_
            refine z_call (va_runV (As := [.int (iI (run + 1))]) (rest := []) C (c_X6_add l G h2 a2 5000 m g (run + 1) (by first | omega | assumption | (intros; first | rfl | omega | assumption | (and_intros <;> first | rfl | omega | assumption))) (by first | omega | assumption | (intros; first | rfl | omega | assumption | (and_intros <;> first | rfl | omega | assumption))) hg (by first | omega | assumption | (intros; first | rfl | omega | assumption | (and_intros <;> first | rfl | omega | assumption))) H.size) (cwV 1 C.2.2.2.2 gX8_say_X6_add rfl rfl rfl (by decide +kernel) ⟨Nat.le_of_ble_eq_true rfl, Nat.le_of_ble_eq_true rfl⟩) (z_preV hK hW hA [2, 3] rfl (by decide) (ci := 5) (q0 := 2) rfl rfl) rfl rfl hl.1 rfl (lv_room (Nat.le_of_ble_eq_true rfl)) dX8_say_56 ⟨Nat.zero_le _, Nat.zero_le _⟩) hW hA [2, 3] rfl (by decide) (fun _ => rfl) (fun r u H locs hp hW => ?_)
            obtain ⟨n2_56, f2_56⟩ := u
            have hp : ∃ z : Int, r = some (.int (iI z)) ∧ ((m < (5000 : Int) → z = 1 ∧ n2_56 = m + 1 ∧ f2_56 = up g m (run + 1))) ∧ ((¬ m < (5000 : Int) → z = 0 ∧ n2_56 = m ∧ f2_56 = g)) ∧ (BD f2_56) := hp
            obtain ⟨z_56, rfl, hz_56_0, hz_56_1, hz_56_2⟩ := hp
            have hW : Wd G A s9.heap [(h, .inr (5, [.ref a, .int (iI n)])), (a, .inl (G.2.1 0, N, .inl (iA f))), (h2, .inr (5, [.ref a2, .int (iI n2_56)])), (a2, .inl (G.2.1 0, 5000, .inl (iA f2_56)))] H locs := hW
            have hs56 : (m < 5000 → z_56 = 1 ∧ n2_56 = m + 1) ∧ (¬ m < 5000 → z_56 = 0 ∧ n2_56 = m) := ⟨fun q9 => ⟨(hz_56_0 q9).1, (hz_56_0 q9).2.1⟩, fun q9 => ⟨(hz_56_1 q9).1, (hz_56_1 q9).2.1⟩⟩
            refine z_if_eq (tgt := 74) C dX8_say_59 (by decide) (by omega) (fun c_59 => ?_) (fun c_59 => ?_)
            ·
              refine lv_iconst (v := iI 0) C.1 C.2.1 dX8_say_74 rfl ?_
              rw [hQ]
              exact z_zret C hr rfl hlocks hW (n2_56, f2_56) rfl ⟨_, rfl, (Or.inr ⟨rfl, SayC_b hI (by omega) (fun q9 => by first | omega | (have h1 := hz_34_0 (by omega); have h2 := hz_39_0 (by omega); omega)) (by first | exact Or.inl (by omega) | exact Or.inr (by omega))⟩), hz_56_2, (by first | omega | assumption | (intros; first | rfl | omega | assumption | (and_intros <;> first | rfl | omega | assumption)))⟩ dX8_say_75
            ·
              refine lv_aload_n C.1 C.2.1 dX8_say_62 rfl (lv_at hl 3 rfl) ?_
              refine lv_aload_n C.1 C.2.1 dX8_say_63 rfl (lv_at hl 2 rfl) ?_
              refine lv_iload_n C.1 C.2.1 dX8_say_64 rfl (lv_at hl 1 rfl) ?_
              refine z_callR (va_runV (As := [.int (iI i)]) (rest := [.ref h2]) C (c_X6_get l G h a N n f i hN hn hf (by first | omega | assumption | (intros; first | rfl | omega | assumption | (and_intros <;> first | rfl | omega | assumption))) H.size) (cwV 1 C.2.2.2.2 gX8_say_X6_get rfl rfl rfl (by decide +kernel) ⟨Nat.le_of_ble_eq_true rfl, Nat.le_of_ble_eq_true rfl⟩) (z_preV hK hW hA [0, 1] rfl (by decide) (ci := 5) (q0 := 0) rfl rfl) rfl rfl hl.1 rfl (lv_room (Nat.le_of_ble_eq_true rfl)) dX8_say_65 ⟨Nat.zero_le _, Nat.zero_le _⟩) (fun r hp => ?_)
              have hp : ∃ z : Int, r = some (.int (iI z)) ∧ ((0 ≤ i ∧ i < n → z = f i)) ∧ ((¬ (0 ≤ i ∧ i < n) → z = -4)) ∧ (-2147483648 ≤ z ∧ z ≤ 2147483647) := hp
              obtain ⟨z_65, rfl, hz_65_0, hz_65_1, hz_65_2⟩ := hp
              refine z_call (va_runV (As := [.int (iI z_65)]) (rest := []) C (c_X6_add l G h2 a2 5000 n2_56 f2_56 z_65 (by first | omega | assumption | (intros; first | rfl | omega | assumption | (and_intros <;> first | rfl | omega | assumption))) (by first | omega | assumption | (intros; first | rfl | omega | assumption | (and_intros <;> first | rfl | omega | assumption))) hz_56_2 hz_65_2 H.size) (cwV 1 C.2.2.2.2 gX8_say_X6_add rfl rfl rfl (by decide +kernel) ⟨Nat.le_of_ble_eq_true rfl, Nat.le_of_ble_eq_true rfl⟩) (z_preV hK hW hA [2, 3] rfl (by decide) (ci := 5) (q0 := 2) rfl rfl) rfl rfl hl.1 rfl (lv_room (Nat.le_of_ble_eq_true rfl)) dX8_say_68 ⟨Nat.zero_le _, Nat.zero_le _⟩) hW hA [2, 3] rfl (by decide) (fun _ => rfl) (fun r u H locs hp hW => ?_)
              obtain ⟨n2_68, f2_68⟩ := u
              have hp : ∃ z : Int, r = some (.int (iI z)) ∧ ((n2_56 < (5000 : Int) → z = 1 ∧ n2_68 = n2_56 + 1 ∧ f2_68 = up f2_56 n2_56 z_65)) ∧ ((¬ n2_56 < (5000 : Int) → z = 0 ∧ n2_68 = n2_56 ∧ f2_68 = f2_56)) ∧ (BD f2_68) := hp
              obtain ⟨z_68, rfl, hz_68_0, hz_68_1, hz_68_2⟩ := hp
              have hW : Wd G A s9.heap [(h, .inr (5, [.ref a, .int (iI n)])), (a, .inl (G.2.1 0, N, .inl (iA f))), (h2, .inr (5, [.ref a2, .int (iI n2_68)])), (a2, .inl (G.2.1 0, 5000, .inl (iA f2_68)))] H locs := hW
              have hs68 : (n2_56 < 5000 → z_68 = 1 ∧ n2_68 = n2_56 + 1) ∧ (¬ n2_56 < 5000 → z_68 = 0 ∧ n2_68 = n2_56) := ⟨fun q9 => ⟨(hz_68_0 q9).1, (hz_68_0 q9).2.1⟩, fun q9 => ⟨(hz_68_1 q9).1, (hz_68_1 q9).2.1⟩⟩
              refine z_if_ne (tgt := 76) C dX8_say_71 (by decide) (by omega) (fun c_71 => ?_) (fun c_71 => ?_)
              ·
                refine lv_iconst (v := iI 0) C.1 C.2.1 dX8_say_76 rfl ?_
                refine lv_istore_n (lv' := [(2, .int (iI 0)), (3, .int (iI i)), (0, .ref h), (1, .ref h2)]) C.1 C.2.1 dX8_say_77 rfl hl (by decide) rfl (fun ls hl => ?_)
                refine lv_iinc (v := iI (i + 1)) (lv' := [(3, .int (iI (i + 1))), (2, .int (iI 0)), (0, .ref h), (1, .ref h2)]) C.1 C.2.1 dX8_say_78 hl (k := 1) rfl (iI_add _ _) (by decide) rfl (fun ls hl => ?_)
                refine lv_goto (tgt := 9) C.1 C.2.1 dX8_say_81 (by decide) ?_
                exact ih_9 0 (i + 1) n2_68 f2_68 (by first | omega | assumption | (intros; first | rfl | omega | assumption | (and_intros <;> first | rfl | omega | assumption))) (by first | exact SayC_c hI (by omega) (by have h1 := hz_34_0 (by omega); have h2 := hz_39_0 (by omega); omega) | (obtain ⟨_, e1, e2⟩ := hz_56_0 (by omega); obtain ⟨_, e3, e4⟩ := hz_68_0 (by omega); have e5 := hz_65_0 (by omega); rw [e4, e3, e2, e1, e5, show m + 1 + 1 = m + 2 by omega]; exact SayC_n hI (by omega) (fun q9 => by first | omega | (have h1 := hz_34_0 (by omega); have h2 := hz_39_0 (by omega); omega)) (by omega) (by omega))) hz_68_2 (by omega) _ _ _ hW (lv_sub hl [0, 1, 2, 3] rfl)
              ·
                exfalso; omega
        ·
          refine lv_aload_n C.1 C.2.1 dX8_say_30 rfl (lv_at hl 2 rfl) ?_
          refine lv_iload_n C.1 C.2.1 dX8_say_31 rfl (lv_at hl 1 rfl) ?_
          refine lv_iconst (v := iI 1) C.1 C.2.1 dX8_say_32 rfl ?_
          refine z_iadd C dX8_say_33 ?_
          refine z_callR (va_runV (As := [.int (iI (i + 1))]) (rest := []) C (c_X6_get l G h a N n f (i + 1) hN hn hf (by first | omega | assumption | (intros; first | rfl | omega | assumption | (and_intros <;> first | rfl | omega | assumption))) H.size) (cwV 1 C.2.2.2.2 gX8_say_X6_get rfl rfl rfl (by decide +kernel) ⟨Nat.le_of_ble_eq_true rfl, Nat.le_of_ble_eq_true rfl⟩) (z_preV hK hW hA [0, 1] rfl (by decide) (ci := 5) (q0 := 0) rfl rfl) rfl rfl hl.1 rfl (lv_room (Nat.le_of_ble_eq_true rfl)) dX8_say_34 ⟨Nat.zero_le _, Nat.zero_le _⟩) (fun r hp => ?_)
          have hp : ∃ z : Int, r = some (.int (iI z)) ∧ ((0 ≤ (i + 1) ∧ (i + 1) < n → z = f (i + 1))) ∧ ((¬ (0 ≤ (i + 1) ∧ (i + 1) < n) → z = -4)) ∧ (-2147483648 ≤ z ∧ z ≤ 2147483647) := hp
          obtain ⟨z_34, rfl, hz_34_0, hz_34_1, hz_34_2⟩ := hp
          refine lv_aload_n C.1 C.2.1 dX8_say_37 rfl (lv_at hl 2 rfl) ?_
          refine lv_iload_n C.1 C.2.1 dX8_say_38 rfl (lv_at hl 1 rfl) ?_
          refine z_callR (va_runV (As := [.int (iI i)]) (rest := [.int (iI z_34)]) C (c_X6_get l G h a N n f i hN hn hf (by first | omega | assumption | (intros; first | rfl | omega | assumption | (and_intros <;> first | rfl | omega | assumption))) H.size) (cwV 1 C.2.2.2.2 gX8_say_X6_get rfl rfl rfl (by decide +kernel) ⟨Nat.le_of_ble_eq_true rfl, Nat.le_of_ble_eq_true rfl⟩) (z_preV hK hW hA [0, 1] rfl (by decide) (ci := 5) (q0 := 0) rfl rfl) rfl rfl hl.1 rfl (lv_room (Nat.le_of_ble_eq_true rfl)) dX8_say_39 ⟨Nat.zero_le _, Nat.zero_le _⟩) (fun r hp => ?_)
          have hp : ∃ z : Int, r = some (.int (iI z)) ∧ ((0 ≤ i ∧ i < n → z = f i)) ∧ ((¬ (0 ≤ i ∧ i < n) → z = -4)) ∧ (-2147483648 ≤ z ∧ z ≤ 2147483647) := hp
          obtain ⟨z_39, rfl, hz_39_0, hz_39_1, hz_39_2⟩ := hp
          refine z_icmp_ne (tgt := 48) C dX8_say_42 (by decide) (by omega) (fun c_42 => ?_) (fun c_42 => ?_)
          ·
            refine lv_iload_n C.1 C.2.1 dX8_say_48 rfl (lv_at hl 0 rfl) ?_
            refine lv_bipush (v := iI 9) C.1 C.2.1 dX8_say_49 (by decide +kernel) ?_
            refine z_icmp_gt (tgt := 74) C dX8_say_51 (by decide) (by omega) (fun c_51 => ?_) (fun c_51 => ?_)
            ·
              refine lv_iconst (v := iI 0) C.1 C.2.1 dX8_say_74 rfl ?_
              rw [hQ]
              exact z_zret C hr rfl hlocks hW (m, g) rfl ⟨_, rfl, (Or.inr ⟨rfl, SayC_b hI (by omega) (fun q9 => by first | omega | (have h1 := hz_34_0 (by omega); have h2 := hz_39_0 (by omega); omega)) (by first | exact Or.inl (by omega) | exact Or.inr (by omega))⟩), hg, (by first | omega | assumption | (intros; first | rfl | omega | assumption | (and_intros <;> first | rfl | omega | assumption)))⟩ dX8_say_75
            ·
              refine lv_aload_n C.1 C.2.1 dX8_say_54 rfl (lv_at hl 3 rfl) ?_
              refine lv_iload_n C.1 C.2.1 dX8_say_55 rfl (lv_at hl 0 rfl) ?_
              refine z_call (va_runV (As := [.int (iI (run + 1))]) (rest := []) C (c_X6_add l G h2 a2 5000 m g (run + 1) (by first | omega | assumption | (intros; first | rfl | omega | assumption | (and_intros <;> first | rfl | omega | assumption))) (by first | omega | assumption | (intros; first | rfl | omega | assumption | (and_intros <;> first | rfl | omega | assumption))) hg (by first | omega | assumption | (intros; first | rfl | omega | assumption | (and_intros <;> first | rfl | omega | assumption))) H.size) (cwV 1 C.2.2.2.2 gX8_say_X6_add rfl rfl rfl (by decide +kernel) ⟨Nat.le_of_ble_eq_true rfl, Nat.le_of_ble_eq_true rfl⟩) (z_preV hK hW hA [2, 3] rfl (by decide) (ci := 5) (q0 := 2) rfl rfl) rfl rfl hl.1 rfl (lv_room (Nat.le_of_ble_eq_true rfl)) dX8_say_56 ⟨Nat.zero_le _, Nat.zero_le _⟩) hW hA [2, 3] rfl (by decide) (fun _ => rfl) (fun r u H locs hp hW => ?_)
              obtain ⟨n2_56, f2_56⟩ := u
              have hp : ∃ z : Int, r = some (.int (iI z)) ∧ ((m < (5000 : Int) → z = 1 ∧ n2_56 = m + 1 ∧ f2_56 = up g m (run + 1))) ∧ ((¬ m < (5000 : Int) → z = 0 ∧ n2_56 = m ∧ f2_56 = g)) ∧ (BD f2_56) := hp
              obtain ⟨z_56, rfl, hz_56_0, hz_56_1, hz_56_2⟩ := hp
              have hW : Wd G A s9.heap [(h, .inr (5, [.ref a, .int (iI n)])), (a, .inl (G.2.1 0, N, .inl (iA f))), (h2, .inr (5, [.ref a2, .int (iI n2_56)])), (a2, .inl (G.2.1 0, 5000, .inl (iA f2_56)))] H locs := hW
              have hs56 : (m < 5000 → z_56 = 1 ∧ n2_56 = m + 1) ∧ (¬ m < 5000 → z_56 = 0 ∧ n2_56 = m) := ⟨fun q9 => ⟨(hz_56_0 q9).1, (hz_56_0 q9).2.1⟩, fun q9 => ⟨(hz_56_1 q9).1, (hz_56_1 q9).2.1⟩⟩
              refine z_if_eq (tgt := 74) C dX8_say_59 (by decide) (by omega) (fun c_59 => ?_) (fun c_59 => ?_)
              ·
                refine lv_iconst (v := iI 0) C.1 C.2.1 dX8_say_74 rfl ?_
                rw [hQ]
                exact z_zret C hr rfl hlocks hW (n2_56, f2_56) rfl ⟨_, rfl, (Or.inr ⟨rfl, SayC_b hI (by omega) (fun q9 => by first | omega | (have h1 := hz_34_0 (by omega); have h2 := hz_39_0 (by omega); omega)) (by first | exact Or.inl (by omega) | exact Or.inr (by omega))⟩), hz_56_2, (by first | omega | assumption | (intros; first | rfl | omega | assumption | (and_intros <;> first | rfl | omega | assumption)))⟩ dX8_say_75
              ·
                refine lv_aload_n C.1 C.2.1 dX8_say_62 rfl (lv_at hl 3 rfl) ?_
                refine lv_aload_n C.1 C.2.1 dX8_say_63 rfl (lv_at hl 2 rfl) ?_
                refine lv_iload_n C.1 C.2.1 dX8_say_64 rfl (lv_at hl 1 rfl) ?_
                refine z_callR (va_runV (As := [.int (iI i)]) (rest := [.ref h2]) C (c_X6_get l G h a N n f i hN hn hf (by first | omega | assumption | (intros; first | rfl | omega | assumption | (and_intros <;> first | rfl | omega | assumption))) H.size) (cwV 1 C.2.2.2.2 gX8_say_X6_get rfl rfl rfl (by decide +kernel) ⟨Nat.le_of_ble_eq_true rfl, Nat.le_of_ble_eq_true rfl⟩) (z_preV hK hW hA [0, 1] rfl (by decide) (ci := 5) (q0 := 0) rfl rfl) rfl rfl hl.1 rfl (lv_room (Nat.le_of_ble_eq_true rfl)) dX8_say_65 ⟨Nat.zero_le _, Nat.zero_le _⟩) (fun r hp => ?_)
                have hp : ∃ z : Int, r = some (.int (iI z)) ∧ ((0 ≤ i ∧ i < n → z = f i)) ∧ ((¬ (0 ≤ i ∧ i < n) → z = -4)) ∧ (-2147483648 ≤ z ∧ z ≤ 2147483647) := hp
                obtain ⟨z_65, rfl, hz_65_0, hz_65_1, hz_65_2⟩ := hp
                refine z_call (va_runV (As := [.int (iI z_65)]) (rest := []) C (c_X6_add l G h2 a2 5000 n2_56 f2_56 z_65 (by first | omega | assumption | (intros; first | rfl | omega | assumption | (and_intros <;> first | rfl | omega | assumption))) (by first | omega | assumption | (intros; first | rfl | omega | assumption | (and_intros <;> first | rfl | omega | assumption))) hz_56_2 hz_65_2 H.size) (cwV 1 C.2.2.2.2 gX8_say_X6_add rfl rfl rfl (by decide +kernel) ⟨Nat.le_of_ble_eq_true rfl, Nat.le_of_ble_eq_true rfl⟩) (z_preV hK hW hA [2, 3] rfl (by decide) (ci := 5) (q0 := 2) rfl rfl) rfl rfl hl.1 rfl (lv_room (Nat.le_of_ble_eq_true rfl)) dX8_say_68 ⟨Nat.zero_le _, Nat.zero_le _⟩) hW hA [2, 3] rfl (by decide) (fun _ => rfl) (fun r u H locs hp hW => ?_)
                obtain ⟨n2_68, f2_68⟩ := u
                have hp : ∃ z : Int, r = some (.int (iI z)) ∧ ((n2_56 < (5000 : Int) → z = 1 ∧ n2_68 = n2_56 + 1 ∧ f2_68 = up f2_56 n2_56 z_65)) ∧ ((¬ n2_56 < (5000 : Int) → z = 0 ∧ n2_68 = n2_56 ∧ f2_68 = f2_56)) ∧ (BD f2_68) := hp
                obtain ⟨z_68, rfl, hz_68_0, hz_68_1, hz_68_2⟩ := hp
                have hW : Wd G A s9.heap [(h, .inr (5, [.ref a, .int (iI n)])), (a, .inl (G.2.1 0, N, .inl (iA f))), (h2, .inr (5, [.ref a2, .int (iI n2_68)])), (a2, .inl (G.2.1 0, 5000, .inl (iA f2_68)))] H locs := hW
                have hs68 : (n2_56 < 5000 → z_68 = 1 ∧ n2_68 = n2_56 + 1) ∧ (¬ n2_56 < 5000 → z_68 = 0 ∧ n2_68 = n2_56) := ⟨fun q9 => ⟨(hz_68_0 q9).1, (hz_68_0 q9).2.1⟩, fun q9 => ⟨(hz_68_1 q9).1, (hz_68_1 q9).2.1⟩⟩
                refine z_if_ne (tgt := 76) C dX8_say_71 (by decide) (by omega) (fun c_71 => ?_) (fun c_71 => ?_)
                ·
                  refine lv_iconst (v := iI 0) C.1 C.2.1 dX8_say_76 rfl ?_
                  refine lv_istore_n (lv' := [(2, .int (iI 0)), (3, .int (iI i)), (0, .ref h), (1, .ref h2)]) C.1 C.2.1 dX8_say_77 rfl hl (by decide) rfl (fun ls hl => ?_)
                  refine lv_iinc (v := iI (i + 1)) (lv' := [(3, .int (iI (i + 1))), (2, .int (iI 0)), (0, .ref h), (1, .ref h2)]) C.1 C.2.1 dX8_say_78 hl (k := 1) rfl (iI_add _ _) (by decide) rfl (fun ls hl => ?_)
                  refine lv_goto (tgt := 9) C.1 C.2.1 dX8_say_81 (by decide) ?_
                  exact ih_9 0 (i + 1) n2_68 f2_68 (by first | omega | assumption | (intros; first | rfl | omega | assumption | (and_intros <;> first | rfl | omega | assumption))) (by first | exact SayC_c hI (by omega) (by have h1 := hz_34_0 (by omega); have h2 := hz_39_0 (by omega); omega) | (obtain ⟨_, e1, e2⟩ := hz_56_0 (by omega); obtain ⟨_, e3, e4⟩ := hz_68_0 (by omega); have e5 := hz_65_0 (by omega); rw [e4, e3, e2, e1, e5, show m + 1 + 1 = m + 2 by omega]; exact SayC_n hI (by omega) (fun q9 => by first | omega | (have h1 := hz_34_0 (by omega); have h2 := hz_39_0 (by omega); omega)) (by omega) (by omega))) hz_68_2 (by omega) _ _ _ hW (lv_sub hl [0, 1, 2, 3] rfl)
                ·
                  exfalso; omega
          ·
            refine lv_goto (tgt := 78) C.1 C.2.1 dX8_say_45 (by decide) ?_
            refine lv_iinc (v := iI (i + 1)) (lv' := [(3, .int (iI (i + 1))), (2, .int (iI (run + 1))), (0, .ref h), (1, .ref h2)]) C.1 C.2.1 dX8_say_78 hl (k := 1) rfl (iI_add _ _) (by decide) rfl (fun ls hl => ?_)
            refine lv_goto (tgt := 9) C.1 C.2.1 dX8_say_81 (by decide) ?_
            exact ih_9 (run + 1) (i + 1) m g (by first | omega | assumption | (intros; first | rfl | omega | assumption | (and_intros <;> first | rfl | omega | assumption))) (by first | exact SayC_c hI (by omega) (by have h1 := hz_34_0 (by omega); have h2 := hz_39_0 (by omega); omega) | (obtain ⟨_, e1, e2⟩ := hz_56_0 (by omega); obtain ⟨_, e3, e4⟩ := hz_68_0 (by omega); have e5 := hz_65_0 (by omega); rw [e4, e3, e2, e1, e5, show m + 1 + 1 = m + 2 by omega]; exact SayC_n hI (by omega) (fun q9 => by first | omega | (have h1 := hz_34_0 (by omega); have h2 := hz_39_0 (by omega); omega)) (by omega) (by omega))) hg (by omega) _ _ _ hW (lv_sub hl [0, 1, 2, 3] rfl)
  exact cut_9 (((n - 0) + 1 : Int)).toNat 0 0 0 g0 (by first | omega | assumption | (intros; first | rfl | omega | assumption | (and_intros <;> first | rfl | omega | assumption))) (SayC_0 (by omega)) hg0 (by omega) _ _ _ hW (lv_sub hl [0, 1, 2, 3] rfl)
set_option maxHeartbeats 4000000 in
set_option maxRecDepth 100000 in
/-- Speaker.tally -/
theorem c_X8_tally (l : Launch) (G : GG) (h : Nat) (a : Nat) (N : Nat) (n : Int) (f : Int → Int) (h2 : Nat) (a2 : Nat) (N2 : Nat) (m0 : Int) (g0 : Int → Int) (hN : N ≤ 2147483647) (hn : 0 ≤ n ∧ n ≤ (N : Int)) (hf : BD f) (hN2 : 18 ≤ N2 ∧ N2 ≤ 2147483647) (hg0 : BD g0) : MQc l yX8_tally wsX8_tally 1 G [.ref h, .ref h2] [(h, .inr (5, [.ref a, .int (iI n)])), (a, .inl (G.2.1 0, N, .inl (iA f))), (h2, .inr (5, [.ref a2, .int (iI m0)])), (a2, .inl (G.2.1 0, N2, .inl (iA g0)))] (fun r (u : Int × (Int → Int)) => ∃ z : Int, r = some (.int (iI z)) ∧ ((z = 1 ∧ TalR f n u.2 u.1) ∨ (z = 0 ∧ TalB f n)) ∧ (BD u.2) ∧ (0 ≤ u.1 ∧ u.1 ≤ 18)) (fun u => [(h, .inr (5, [.ref a, .int (iI n)])), (a, .inl (G.2.1 0, N, .inl (iA f))), (h2, .inr (5, [.ref a2, .int (iI u.1)])), (a2, .inl (G.2.1 0, N2, .inl (iA u.2)))]) := by
  refine MQc.start (own := RX8) (by decide) rfl rfl (Nat.le_of_ble_eq_true rfl) ?_
  intro p9 e9 s9 m9 args below meth c9 A Q C hK hW hA hr hlocks hQ ls hl
  have hl : lv_has ls 5 [(0, .ref h), (1, .ref h2)] := hl
  have hin6 : ∀ w ∈ wsX60, w ∈ wsX8_tally := by decide +kernel
  refine lv_aload_n C.1 C.2.1 dX8_tally_0 rfl (lv_at hl 1 rfl) ?_
  refine z_call (va_runV (As := []) (rest := []) C (c_X6_clear l G h2 a2 N2 m0 g0  s9.heap.size) (cwV 0 C.2.2.2.2 gX8_tally_X6_clear rfl rfl rfl (by decide +kernel) ⟨Nat.le_of_ble_eq_true rfl, Nat.le_of_ble_eq_true rfl⟩) (z_preV hK hW hA [2, 3] rfl (by decide) (ci := 5) (q0 := 2) rfl rfl) rfl rfl hl.1 rfl (lv_room (Nat.le_of_ble_eq_true rfl)) dX8_tally_1 ⟨Nat.zero_le _, Nat.zero_le _⟩) hW hA [2, 3] rfl (by decide) (fun _ => rfl) (fun r u H locs hp hW => ?_)
  have hp : ∃ z : Int, r = some (.int (iI z)) ∧ (z = m0) := hp
  obtain ⟨z_1, rfl, hz_1_0⟩ := hp
  have hW : Wd G A s9.heap [(h, .inr (5, [.ref a, .int (iI n)])), (a, .inl (G.2.1 0, N, .inl (iA f))), (h2, .inr (5, [.ref a2, .int (iI 0)])), (a2, .inl (G.2.1 0, N2, .inl (iA g0)))] H locs := hW
  refine lv_pop C.1 C.2.1 dX8_tally_4 rfl ?_
  refine lv_iconst (v := iI 1) C.1 C.2.1 dX8_tally_5 rfl ?_
  refine lv_istore_n (lv' := [(2, .int (iI 1)), (0, .ref h), (1, .ref h2)]) C.1 C.2.1 dX8_tally_6 rfl hl (by decide) rfl (fun ls hl => ?_)
  have cut_7 : ∀ (n9 : Nat) (fg : Int) (m : Int) (g : Int → Int), (1 ≤ fg ∧ fg ≤ 10) → (TalS f n (fg - 1) g m) → (BD g) → (10 - fg < (n9 : Int)) → ∀ (H : Heap) (locs : List Loc) (ls : Array Slot), Wd G A s9.heap [(h, .inr (5, [.ref a, .int (iI n)])), (a, .inl (G.2.1 0, N, .inl (iA f))), (h2, .inr (5, [.ref a2, .int (iI m)])), (a2, .inl (G.2.1 0, N2, .inl (iA g)))] H locs → lv_has ls 5 [(2, .int (iI fg)), (0, .ref h), (1, .ref h2)] → W p9 l e9 (rmL 1) s9 m9 args below meth c9 H locs 0 0 Q (F0 m9 7 ls []) := by
    intro n9
    induction n9 with
    | zero => intro fg m g hi hI hg hmu; intros; exfalso; omega
    | succ n9 ih_7 =>
      intro fg m g hi hI hg hmu H locs ls hW hl
      have hM := TalS_m hI (by omega)
      refine lv_iload_n C.1 C.2.1 dX8_tally_7 rfl (lv_at hl 0 rfl) ?_
      refine lv_bipush (v := iI 9) C.1 C.2.1 dX8_tally_8 (by decide +kernel) ?_
      refine z_icmp_gt (tgt := 80) C dX8_tally_10 (by decide) (by omega) (fun c_10 => ?_) (fun c_10 => ?_)
      ·
        refine lv_iconst (v := iI 1) C.1 C.2.1 dX8_tally_80 rfl ?_
        rw [hQ]
        exact z_zret C hr rfl hlocks hW (m, g) rfl ⟨_, rfl, (Or.inl ⟨rfl, by rw [show fg - 1 = 9 by omega] at hI; exact hI⟩), hg, (by first | omega | assumption | (intros; first | rfl | omega | assumption | (and_intros <;> first | rfl | omega | assumption)))⟩ dX8_tally_81
      ·
        refine lv_iconst (v := iI 0) C.1 C.2.1 dX8_tally_13 rfl ?_
        refine lv_istore_n (lv' := [(3, .int (iI 0)), (2, .int (iI fg)), (0, .ref h), (1, .ref h2)]) C.1 C.2.1 dX8_tally_14 rfl hl (by decide) rfl (fun ls hl => ?_)
        refine lv_iconst (v := iI 0) C.1 C.2.1 dX8_tally_15 rfl ?_
        refine lv_istore (lv' := [(4, .int (iI 0)), (3, .int (iI 0)), (2, .int (iI fg)), (0, .ref h), (1, .ref h2)]) C.1 C.2.1 dX8_tally_16 hl (by decide) rfl (fun ls hl => ?_)
        have cut_18 : ∀ (n9 : Nat) (k : Int) (i : Int), (0 ≤ i ∧ i ≤ n) → (k = oc f fg i) → (n - i < (n9 : Int)) → ∀ (H : Heap) (locs : List Loc) (ls : Array Slot), Wd G A s9.heap [(h, .inr (5, [.ref a, .int (iI n)])), (a, .inl (G.2.1 0, N, .inl (iA f))), (h2, .inr (5, [.ref a2, .int (iI m)])), (a2, .inl (G.2.1 0, N2, .inl (iA g)))] H locs → lv_has ls 5 [(4, .int (iI i)), (3, .int (iI k)), (2, .int (iI fg)), (0, .ref h), (1, .ref h2)] → W p9 l e9 (rmL 1) s9 m9 args below meth c9 H locs 0 0 Q (F0 m9 18 ls []) := by
          intro n9
          induction n9 with
          | zero => intro k i hi2 hk hmu; intros; exfalso; omega
          | succ n9 ih_18 =>
            intro k i hi2 hk hmu H locs ls hW hl
            have hkb := oc_b (g := f) (v := fg) hi2.1
            refine lv_iload C.1 C.2.1 dX8_tally_18 (lv_at hl 0 rfl) ?_
            refine lv_aload_n C.1 C.2.1 dX8_tally_20 rfl (lv_at hl 3 rfl) ?_
            refine z_callR (va_runV (As := []) (rest := [.int (iI i)]) C (c_X6_size l G h a N n f  H.size) (cwV 0 C.2.2.2.2 gX8_tally_X6_size rfl rfl rfl (by decide +kernel) ⟨Nat.le_of_ble_eq_true rfl, Nat.le_of_ble_eq_true rfl⟩) (z_preV hK hW hA [0, 1] rfl (by decide) (ci := 5) (q0 := 0) rfl rfl) rfl rfl hl.1 rfl (lv_room (Nat.le_of_ble_eq_true rfl)) dX8_tally_21 ⟨Nat.zero_le _, Nat.zero_le _⟩) (fun r hp => ?_)
            have hp : ∃ z : Int, r = some (.int (iI z)) ∧ (z = n) := hp
            obtain ⟨z_21, rfl, hz_21_0⟩ := hp
            refine z_icmp_ge (tgt := 46) C dX8_tally_24 (by decide) (by omega) (fun c_24 => ?_) (fun c_24 => ?_)
            ·
              refine lv_iload_n C.1 C.2.1 dX8_tally_46 rfl (lv_at hl 1 rfl) ?_
              refine lv_bipush (v := iI 9) C.1 C.2.1 dX8_tally_47 (by decide +kernel) ?_
              refine z_icmp_gt (tgt := 72) C dX8_tally_49 (by decide) (by omega) (fun c_49 => ?_) (fun c_49 => ?_)
              ·
                refine lv_iconst (v := iI 0) C.1 C.2.1 dX8_tally_72 rfl ?_
                rw [hQ]
                exact z_zret C hr rfl hlocks hW (m, g) rfl ⟨_, rfl, (Or.inr ⟨rfl, fg - 1, by omega, by omega, by rw [show fg - 1 + 1 = fg by omega, show n = i by omega]; omega⟩), hg, (by first | omega | assumption | (intros; first | rfl | omega | assumption | (and_intros <;> first | rfl | omega | assumption)))⟩ dX8_tally_73
              ·
                refine lv_iload_n C.1 C.2.1 dX8_tally_52 rfl (lv_at hl 1 rfl) ?_
                refine z_if_le (tgt := 74) C dX8_tally_53 (by decide) (by omega) (fun c_53 => ?_) (fun c_53 => ?_)
                ·
                  refine lv_iinc (v := iI (fg + 1)) (lv' := [(2, .int (iI (fg + 1))), (4, .int (iI i)), (3, .int (iI k)), (0, .ref h), (1, .ref h2)]) C.1 C.2.1 dX8_tally_74 hl (k := 2) rfl (iI_add _ _) (by decide) rfl (fun ls hl => ?_)
                  refine lv_goto (tgt := 7) C.1 C.2.1 dX8_tally_77 (by decide) ?_
                  exact ih_7 (fg + 1) m g (by first | omega | assumption | (intros; first | rfl | omega | assumption | (and_intros <;> first | rfl | omega | assumption))) (by first | (have h9 := TalS_z hI (by omega) (by rw [show fg - 1 + 1 = fg by omega, show n = i by omega, ← hk]; omega); rw [show fg + 1 - 1 = fg - 1 + 1 by omega]; exact h9) | (obtain ⟨_, e1, e2⟩ := hz_58_0 (by omega); obtain ⟨_, e3, e4⟩ := hz_66_0 (by omega); have h9 := TalS_s hI (c := k) (by omega) (by rw [hk, show fg - 1 + 1 = fg by omega]; congr 1; omega) (by omega) (by omega); rw [show fg - 1 + 1 = fg by omega] at h9; rw [e4, e3, e2, e1, show m + 1 + 1 = m + 2 by omega, show fg + 1 - 1 = fg by omega]; exact h9)) hg (by omega) _ _ _ hW (lv_sub hl [0, 3, 4] rfl)
                ·
                  refine lv_aload_n C.1 C.2.1 dX8_tally_56 rfl (lv_at hl 4 rfl) ?_
                  refine lv_iload_n C.1 C.2.1 dX8_tally_57 rfl (lv_at hl 1 rfl) ?_
                  refine z_call (va_runV (As := [.int (iI k)]) (rest := []) C (c_X6_add l G h2 a2 N2 m g k (by first | omega | assumption | (intros; first | rfl | omega | assumption | (and_intros <;> first | rfl | omega | assumption))) (by first | omega | assumption | (intros; first | rfl | omega | assumption | (and_intros <;> first | rfl | omega | assumption))) hg (by first | omega | assumption | (intros; first | rfl | omega | assumption | (and_intros <;> first | rfl | omega | assumption))) H.size) (cwV 1 C.2.2.2.2 gX8_tally_X6_add rfl rfl rfl (by decide +kernel) ⟨Nat.le_of_ble_eq_true rfl, Nat.le_of_ble_eq_true rfl⟩) (z_preV hK hW hA [2, 3] rfl (by decide) (ci := 5) (q0 := 2) rfl rfl) rfl rfl hl.1 rfl (lv_room (Nat.le_of_ble_eq_true rfl)) dX8_tally_58 ⟨Nat.zero_le _, Nat.zero_le _⟩) hW hA [2, 3] rfl (by decide) (fun _ => rfl) (fun r u H locs hp hW => ?_)
                  obtain ⟨n2_58, f2_58⟩ := u
                  have hp : ∃ z : Int, r = some (.int (iI z)) ∧ ((m < (N2 : Int) → z = 1 ∧ n2_58 = m + 1 ∧ f2_58 = up g m k)) ∧ ((¬ m < (N2 : Int) → z = 0 ∧ n2_58 = m ∧ f2_58 = g)) ∧ (BD f2_58) := hp
                  obtain ⟨z_58, rfl, hz_58_0, hz_58_1, hz_58_2⟩ := hp
                  have hW : Wd G A s9.heap [(h, .inr (5, [.ref a, .int (iI n)])), (a, .inl (G.2.1 0, N, .inl (iA f))), (h2, .inr (5, [.ref a2, .int (iI n2_58)])), (a2, .inl (G.2.1 0, N2, .inl (iA f2_58)))] H locs := hW
                  have hs58 : (m < (N2 : Int) → z_58 = 1 ∧ n2_58 = m + 1) ∧ (¬ m < (N2 : Int) → z_58 = 0 ∧ n2_58 = m) := ⟨fun q9 => ⟨(hz_58_0 q9).1, (hz_58_0 q9).2.1⟩, fun q9 => ⟨(hz_58_1 q9).1, (hz_58_1 q9).2.1⟩⟩
                  refine z_if_eq (tgt := 72) C dX8_tally_61 (by decide) (by omega) (fun c_61 => ?_) (fun c_61 => ?_)
                  ·
                    exfalso; omega
                  ·
                    refine lv_aload_n C.1 C.2.1 dX8_tally_64 rfl (lv_at hl 4 rfl) ?_
                    refine lv_iload_n C.1 C.2.1 dX8_tally_65 rfl (lv_at hl 2 rfl) ?_
                    refine z_call (va_runV (As := [.int (iI fg)]) (rest := []) C (c_X6_add l G h2 a2 N2 n2_58 f2_58 fg (by first | omega | assumption | (intros; first | rfl | omega | assumption | (and_intros <;> first | rfl | omega | assumption))) (by first | omega | assumption | (intros; first | rfl | omega | assumption | (and_intros <;> first | rfl | omega | assumption))) hz_58_2 (by first | omega | assumption | (intros; first | rfl | omega | assumption | (and_intros <;> first | rfl | omega | assumption))) H.size) (cwV 1 C.2.2.2.2 gX8_tally_X6_add rfl rfl rfl (by decide +kernel) ⟨Nat.le_of_ble_eq_true rfl, Nat.le_of_ble_eq_true rfl⟩) (z_preV hK hW hA [2, 3] rfl (by decide) (ci := 5) (q0 := 2) rfl rfl) rfl rfl hl.1 rfl (lv_room (Nat.le_of_ble_eq_true rfl)) dX8_tally_66 ⟨Nat.zero_le _, Nat.zero_le _⟩) hW hA [2, 3] rfl (by decide) (fun _ => rfl) (fun r u H locs hp hW => ?_)
                    obtain ⟨n2_66, f2_66⟩ := u
                    have hp : ∃ z : Int, r = some (.int (iI z)) ∧ ((n2_58 < (N2 : Int) → z = 1 ∧ n2_66 = n2_58 + 1 ∧ f2_66 = up f2_58 n2_58 fg)) ∧ ((¬ n2_58 < (N2 : Int) → z = 0 ∧ n2_66 = n2_58 ∧ f2_66 = f2_58)) ∧ (BD f2_66) := hp
                    obtain ⟨z_66, rfl, hz_66_0, hz_66_1, hz_66_2⟩ := hp
                    have hW : Wd G A s9.heap [(h, .inr (5, [.ref a, .int (iI n)])), (a, .inl (G.2.1 0, N, .inl (iA f))), (h2, .inr (5, [.ref a2, .int (iI n2_66)])), (a2, .inl (G.2.1 0, N2, .inl (iA f2_66)))] H locs := hW
                    have hs66 : (n2_58 < (N2 : Int) → z_66 = 1 ∧ n2_66 = n2_58 + 1) ∧ (¬ n2_58 < (N2 : Int) → z_66 = 0 ∧ n2_66 = n2_58) := ⟨fun q9 => ⟨(hz_66_0 q9).1, (hz_66_0 q9).2.1⟩, fun q9 => ⟨(hz_66_1 q9).1, (hz_66_1 q9).2.1⟩⟩
                    refine z_if_ne (tgt := 74) C dX8_tally_69 (by decide) (by omega) (fun c_69 => ?_) (fun c_69 => ?_)
                    ·
                      refine lv_iinc (v := iI (fg + 1)) (lv' := [(2, .int (iI (fg + 1))), (4, .int (iI i)), (3, .int (iI k)), (0, .ref h), (1, .ref h2)]) C.1 C.2.1 dX8_tally_74 hl (k := 2) rfl (iI_add _ _) (by decide) rfl (fun ls hl => ?_)
                      refine lv_goto (tgt := 7) C.1 C.2.1 dX8_tally_77 (by decide) ?_
                      exact ih_7 (fg + 1) n2_66 f2_66 (by first | omega | assumption | (intros; first | rfl | omega | assumption | (and_intros <;> first | rfl | omega | assumption))) (by first | (have h9 := TalS_z hI (by omega) (by rw [show fg - 1 + 1 = fg by omega, show n = i by omega, ← hk]; omega); rw [show fg + 1 - 1 = fg - 1 + 1 by omega]; exact h9) | (obtain ⟨_, e1, e2⟩ := hz_58_0 (by omega); obtain ⟨_, e3, e4⟩ := hz_66_0 (by omega); have h9 := TalS_s hI (c := k) (by omega) (by rw [hk, show fg - 1 + 1 = fg by omega]; congr 1; omega) (by omega) (by omega); rw [show fg - 1 + 1 = fg by omega] at h9; rw [e4, e3, e2, e1, show m + 1 + 1 = m + 2 by omega, show fg + 1 - 1 = fg by omega]; exact h9)) hz_66_2 (by omega) _ _ _ hW (lv_sub hl [0, 3, 4] rfl)
                    ·
                      exfalso; omega
            ·
              refine lv_aload_n C.1 C.2.1 dX8_tally_27 rfl (lv_at hl 3 rfl) ?_
              refine lv_iload C.1 C.2.1 dX8_tally_28 (lv_at hl 0 rfl) ?_
              refine z_callR (va_runV (As := [.int (iI i)]) (rest := []) C (c_X6_get l G h a N n f i hN hn hf (by first | omega | assumption | (intros; first | rfl | omega | assumption | (and_intros <;> first | rfl | omega | assumption))) H.size) (cwV 1 C.2.2.2.2 gX8_tally_X6_get rfl rfl rfl (by decide +kernel) ⟨Nat.le_of_ble_eq_true rfl, Nat.le_of_ble_eq_true rfl⟩) (z_preV hK hW hA [0, 1] rfl (by decide) (ci := 5) (q0 := 0) rfl rfl) rfl rfl hl.1 rfl (lv_room (Nat.le_of_ble_eq_true rfl)) dX8_tally_30 ⟨Nat.zero_le _, Nat.zero_le _⟩) (fun r hp => ?_)
              have hp : ∃ z : Int, r = some (.int (iI z)) ∧ ((0 ≤ i ∧ i < n → z = f i)) ∧ ((¬ (0 ≤ i ∧ i < n) → z = -4)) ∧ (-2147483648 ≤ z ∧ z ≤ 2147483647) := hp
              obtain ⟨z_30, rfl, hz_30_0, hz_30_1, hz_30_2⟩ := hp
              refine lv_iload_n C.1 C.2.1 dX8_tally_33 rfl (lv_at hl 2 rfl) ?_
              refine z_icmp_ne (tgt := 40) C dX8_tally_34 (by decide) (by omega) (fun c_34 => ?_) (fun c_34 => ?_)
              ·
                refine lv_iinc (v := iI (i + 1)) (lv' := [(4, .int (iI (i + 1))), (3, .int (iI k)), (2, .int (iI fg)), (0, .ref h), (1, .ref h2)]) C.1 C.2.1 dX8_tally_40 hl (k := 0) rfl (iI_add _ _) (by decide) rfl (fun ls hl => ?_)
                refine lv_goto (tgt := 18) C.1 C.2.1 dX8_tally_43 (by decide) ?_
                exact ih_18 k (i + 1) (by first | omega | assumption | (intros; first | rfl | omega | assumption | (and_intros <;> first | rfl | omega | assumption))) (by have h1 := hz_30_0 (by omega); rw [oc_s (by omega)]; split <;> omega) (by omega) _ _ _ hW (lv_sub hl [0, 1, 2, 3, 4] rfl)
              ·
                refine lv_iinc (v := iI (k + 1)) (lv' := [(3, .int (iI (k + 1))), (4, .int (iI i)), (2, .int (iI fg)), (0, .ref h), (1, .ref h2)]) C.1 C.2.1 dX8_tally_37 hl (k := 1) rfl (iI_add _ _) (by decide) rfl (fun ls hl => ?_)
                refine lv_iinc (v := iI (i + 1)) (lv' := [(4, .int (iI (i + 1))), (3, .int (iI (k + 1))), (2, .int (iI fg)), (0, .ref h), (1, .ref h2)]) C.1 C.2.1 dX8_tally_40 hl (k := 1) rfl (iI_add _ _) (by decide) rfl (fun ls hl => ?_)
                refine lv_goto (tgt := 18) C.1 C.2.1 dX8_tally_43 (by decide) ?_
                exact ih_18 (k + 1) (i + 1) (by first | omega | assumption | (intros; first | rfl | omega | assumption | (and_intros <;> first | rfl | omega | assumption))) (by have h1 := hz_30_0 (by omega); rw [oc_s (by omega)]; split <;> omega) (by omega) _ _ _ hW (lv_sub hl [0, 1, 2, 3, 4] rfl)
        exact cut_18 (((n - 0) + 1 : Int)).toNat 0 0 (by first | omega | assumption | (intros; first | rfl | omega | assumption | (and_intros <;> first | rfl | omega | assumption))) (by rw [oc_0 (by omega)]) (by omega) _ _ _ hW (lv_sub hl [0, 1, 2, 3, 4] rfl)
  exact cut_7 (((10 - 1) + 1 : Int)).toNat 1 0 g0 (by first | omega | assumption | (intros; first | rfl | omega | assumption | (and_intros <;> first | rfl | omega | assumption))) TalS_0 hg0 (by omega) _ _ _ hW (lv_sub hl [0, 1, 2] rfl)
set_option maxHeartbeats 4000000 in
set_option maxRecDepth 100000 in
/-- Speaker.unsay -/
theorem c_X8_unsay (l : Launch) (G : GG) (h : Nat) (a : Nat) (N : Nat) (n : Int) (f : Int → Int) (h2 : Nat) (a2 : Nat) (m0 : Int) (g0 : Int → Int) (hN : N ≤ 2147483647) (hn : 0 ≤ n ∧ n ≤ (N : Int)) (hf : BD f) (hF : FIG f n) (hg0 : BD g0) : MQc l yX8_unsay wsX8_unsay 1 G [.ref h, .ref h2] [(h, .inr (5, [.ref a, .int (iI n)])), (a, .inl (G.2.1 0, N, .inl (iA f))), (h2, .inr (5, [.ref a2, .int (iI m0)])), (a2, .inl (G.2.1 0, 5000, .inl (iA g0)))] (fun r (u : Int × (Int → Int)) => ∃ z : Int, r = some (.int (iI z)) ∧ ((z = 1 ∧ UnR f n u.2 u.1) ∨ (z = 0 ∧ UnB f n)) ∧ (BD u.2) ∧ (0 ≤ u.1 ∧ u.1 ≤ 5000)) (fun u => [(h, .inr (5, [.ref a, .int (iI n)])), (a, .inl (G.2.1 0, N, .inl (iA f))), (h2, .inr (5, [.ref a2, .int (iI u.1)])), (a2, .inl (G.2.1 0, 5000, .inl (iA u.2)))]) := by
  refine MQc.start (own := RX8) (by decide) rfl rfl (Nat.le_of_ble_eq_true rfl) ?_
  intro p9 e9 s9 m9 args below meth c9 A Q C hK hW hA hr hlocks hQ ls hl
  have hl : lv_has ls 5 [(0, .ref h), (1, .ref h2)] := hl
  have hin6 : ∀ w ∈ wsX60, w ∈ wsX8_unsay := by decide +kernel
  refine lv_aload_n C.1 C.2.1 dX8_unsay_0 rfl (lv_at hl 1 rfl) ?_
  refine z_call (va_runV (As := []) (rest := []) C (c_X6_clear l G h2 a2 5000 m0 g0  s9.heap.size) (cwV 0 C.2.2.2.2 gX8_unsay_X6_clear rfl rfl rfl (by decide +kernel) ⟨Nat.le_of_ble_eq_true rfl, Nat.le_of_ble_eq_true rfl⟩) (z_preV hK hW hA [2, 3] rfl (by decide) (ci := 5) (q0 := 2) rfl rfl) rfl rfl hl.1 rfl (lv_room (Nat.le_of_ble_eq_true rfl)) dX8_unsay_1 ⟨Nat.zero_le _, Nat.zero_le _⟩) hW hA [2, 3] rfl (by decide) (fun _ => rfl) (fun r u H locs hp hW => ?_)
  have hp : ∃ z : Int, r = some (.int (iI z)) ∧ (z = m0) := hp
  obtain ⟨z_1, rfl, hz_1_0⟩ := hp
  have hW : Wd G A s9.heap [(h, .inr (5, [.ref a, .int (iI n)])), (a, .inl (G.2.1 0, N, .inl (iA f))), (h2, .inr (5, [.ref a2, .int (iI 0)])), (a2, .inl (G.2.1 0, 5000, .inl (iA g0)))] H locs := hW
  refine lv_pop C.1 C.2.1 dX8_unsay_4 rfl ?_
  refine lv_aload_n C.1 C.2.1 dX8_unsay_5 rfl (lv_at hl 0 rfl) ?_
  refine z_callR (va_runV (As := []) (rest := []) C (c_X6_size l G h a N n f  H.size) (cwV 0 C.2.2.2.2 gX8_unsay_X6_size rfl rfl rfl (by decide +kernel) ⟨Nat.le_of_ble_eq_true rfl, Nat.le_of_ble_eq_true rfl⟩) (z_preV hK hW hA [0, 1] rfl (by decide) (ci := 5) (q0 := 0) rfl rfl) rfl rfl hl.1 rfl (lv_room (Nat.le_of_ble_eq_true rfl)) dX8_unsay_6 ⟨Nat.zero_le _, Nat.zero_le _⟩) (fun r hp => ?_)
  have hp : ∃ z : Int, r = some (.int (iI z)) ∧ (z = n) := hp
  obtain ⟨z_6, rfl, hz_6_0⟩ := hp
  refine lv_iconst (v := iI 2) C.1 C.2.1 dX8_unsay_9 rfl ?_
  refine z_irem C dX8_unsay_10 (by omega) ?_
  refine z_if_eq (tgt := 16) C dX8_unsay_11 (by decide) (by omega) (fun c_11 => ?_) (fun c_11 => ?_)
  ·
    refine lv_iconst (v := iI 0) C.1 C.2.1 dX8_unsay_16 rfl ?_
    refine lv_istore_n (lv' := [(2, .int (iI 0)), (0, .ref h), (1, .ref h2)]) C.1 C.2.1 dX8_unsay_17 rfl hl (by decide) rfl (fun ls hl => ?_)
    have cut_18 : ∀ (n9 : Nat) (p : Int) (m : Int) (g : Int → Int), (0 ≤ p ∧ p ≤ n ∧ p % 2 = 0) → (UnS f n (p / 2) g m) → (BD g) → (n - p < (n9 : Int)) → ∀ (H : Heap) (locs : List Loc) (ls : Array Slot), Wd G A s9.heap [(h, .inr (5, [.ref a, .int (iI n)])), (a, .inl (G.2.1 0, N, .inl (iA f))), (h2, .inr (5, [.ref a2, .int (iI m)])), (a2, .inl (G.2.1 0, 5000, .inl (iA g)))] H locs → lv_has ls 5 [(2, .int (iI p)), (0, .ref h), (1, .ref h2)] → W p9 l e9 (rmL 1) s9 m9 args below meth c9 H locs 0 0 Q (F0 m9 18 ls []) := by
      intro n9
      induction n9 with
      | zero => intro p m g hp hI hg hmu; intros; exfalso; omega
      | succ n9 ih_18 =>
        intro p m g hp hI hg hmu H locs ls hW hl
        obtain ⟨i, hpi⟩ : ∃ i, p = 2 * i := ⟨p / 2, by omega⟩
        have hU : UnS f n i g m := by rw [show i = p / 2 by omega]; exact hI
        have hm0 : 0 ≤ m ∧ m ≤ 5000 := by obtain ⟨b1, b2, b3, b4, -⟩ := hU; have := off_mono hF (i := 0) (k := i) (by omega) b1 b2; rw [off_0] at this; omega
        refine lv_iload_n C.1 C.2.1 dX8_unsay_18 rfl (lv_at hl 0 rfl) ?_
        refine lv_aload_n C.1 C.2.1 dX8_unsay_19 rfl (lv_at hl 1 rfl) ?_
        refine z_callR (va_runV (As := []) (rest := [.int (iI p)]) C (c_X6_size l G h a N n f  H.size) (cwV 0 C.2.2.2.2 gX8_unsay_X6_size rfl rfl rfl (by decide +kernel) ⟨Nat.le_of_ble_eq_true rfl, Nat.le_of_ble_eq_true rfl⟩) (z_preV hK hW hA [0, 1] rfl (by decide) (ci := 5) (q0 := 0) rfl rfl) rfl rfl hl.1 rfl (lv_room (Nat.le_of_ble_eq_true rfl)) dX8_unsay_20 ⟨Nat.zero_le _, Nat.zero_le _⟩) (fun r hp => ?_)
        have hp : ∃ z : Int, r = some (.int (iI z)) ∧ (z = n) := hp
        obtain ⟨z_20, rfl, hz_20_0⟩ := hp
        refine z_icmp_ge (tgt := 86) C dX8_unsay_23 (by decide) (by omega) (fun c_23 => ?_) (fun c_23 => ?_)
        ·
          refine lv_iconst (v := iI 1) C.1 C.2.1 dX8_unsay_86 rfl ?_
          rw [hQ]
          exact z_zret C hr rfl hlocks hW (m, g) rfl ⟨_, rfl, (Or.inl ⟨rfl, i, by omega, hU⟩), hg, (by first | omega | assumption | (intros; first | rfl | omega | assumption | (and_intros <;> first | rfl | omega | assumption)))⟩ dX8_unsay_87
        ·
          refine lv_aload_n C.1 C.2.1 dX8_unsay_26 rfl (lv_at hl 1 rfl) ?_
          refine lv_iload_n C.1 C.2.1 dX8_unsay_27 rfl (lv_at hl 0 rfl) ?_
          refine lv_iconst (v := iI 1) C.1 C.2.1 dX8_unsay_28 rfl ?_
          refine z_iadd C dX8_unsay_29 ?_
          refine z_callR (va_runV (As := [.int (iI (p + 1))]) (rest := []) C (c_X6_get l G h a N n f (p + 1) hN hn hf (by first | omega | assumption | (intros; first | rfl | omega | assumption | (and_intros <;> first | rfl | omega | assumption))) H.size) (cwV 1 C.2.2.2.2 gX8_unsay_X6_get rfl rfl rfl (by decide +kernel) ⟨Nat.le_of_ble_eq_true rfl, Nat.le_of_ble_eq_true rfl⟩) (z_preV hK hW hA [0, 1] rfl (by decide) (ci := 5) (q0 := 0) rfl rfl) rfl rfl hl.1 rfl (lv_room (Nat.le_of_ble_eq_true rfl)) dX8_unsay_30 ⟨Nat.zero_le _, Nat.zero_le _⟩) (fun r hp => ?_)
          have hp : ∃ z : Int, r = some (.int (iI z)) ∧ ((0 ≤ (p + 1) ∧ (p + 1) < n → z = f (p + 1))) ∧ ((¬ (0 ≤ (p + 1) ∧ (p + 1) < n) → z = -4)) ∧ (-2147483648 ≤ z ∧ z ≤ 2147483647) := hp
          obtain ⟨z_30, rfl, hz_30_0, hz_30_1, hz_30_2⟩ := hp
          refine lv_istore_n (lv' := [(3, .int (iI z_30)), (2, .int (iI p)), (0, .ref h), (1, .ref h2)]) C.1 C.2.1 dX8_unsay_33 rfl hl (by decide) rfl (fun ls hl => ?_)
          have cut_54 : ∀ (n9 : Nat) (k : Int) (m1 : Int) (g1 : Int → Int), (1 ≤ i → f (2 * i + 1) ≠ f (2 * i - 1)) → (0 ≤ k ∧ k ≤ f p) → (m1 = m + k ∧ m1 ≤ 5000) → (BD g1) → (∀ j, j < m → g1 j = g j) → (∀ j, 0 ≤ j → j < k → g1 (m + j) = f (2 * i + 1)) → (f p - k < (n9 : Int)) → ∀ (H : Heap) (locs : List Loc) (ls : Array Slot), Wd G A s9.heap [(h, .inr (5, [.ref a, .int (iI n)])), (a, .inl (G.2.1 0, N, .inl (iA f))), (h2, .inr (5, [.ref a2, .int (iI m1)])), (a2, .inl (G.2.1 0, 5000, .inl (iA g1)))] H locs → lv_has ls 5 [(3, .int (iI z_30)), (2, .int (iI p)), (0, .ref h), (1, .ref h2), (4, .int (iI k))] → W p9 l e9 (rmL 1) s9 m9 args below meth c9 H locs 0 0 Q (F0 m9 54 ls []) := by
            intro n9
            induction n9 with
            | zero => intro k m1 g1 hne hk hm1 hg1 hold hnew hmu; intros; exfalso; omega
            | succ n9 ih_54 =>
              intro k m1 g1 hne hk hm1 hg1 hold hnew hmu H locs ls hW hl
              have hFp := hF p (by omega) (by omega)
              refine lv_iload C.1 C.2.1 dX8_unsay_54 (lv_at hl 4 rfl) ?_
              refine lv_aload_n C.1 C.2.1 dX8_unsay_56 rfl (lv_at hl 2 rfl) ?_
              refine lv_iload_n C.1 C.2.1 dX8_unsay_57 rfl (lv_at hl 1 rfl) ?_
              refine z_callR (va_runV (As := [.int (iI p)]) (rest := [.int (iI k)]) C (c_X6_get l G h a N n f p hN hn hf (by first | omega | assumption | (intros; first | rfl | omega | assumption | (and_intros <;> first | rfl | omega | assumption))) H.size) (cwV 1 C.2.2.2.2 gX8_unsay_X6_get rfl rfl rfl (by decide +kernel) ⟨Nat.le_of_ble_eq_true rfl, Nat.le_of_ble_eq_true rfl⟩) (z_preV hK hW hA [0, 1] rfl (by decide) (ci := 5) (q0 := 0) rfl rfl) rfl rfl hl.1 rfl (lv_room (Nat.le_of_ble_eq_true rfl)) dX8_unsay_58 ⟨Nat.zero_le _, Nat.zero_le _⟩) (fun r hp => ?_)
              have hp : ∃ z : Int, r = some (.int (iI z)) ∧ ((0 ≤ p ∧ p < n → z = f p)) ∧ ((¬ (0 ≤ p ∧ p < n) → z = -4)) ∧ (-2147483648 ≤ z ∧ z ≤ 2147483647) := hp
              obtain ⟨z_58, rfl, hz_58_0, hz_58_1, hz_58_2⟩ := hp
              refine z_icmp_ge (tgt := 80) C dX8_unsay_61 (by decide) (by omega) (fun c_61 => ?_) (fun c_61 => ?_)
              ·
                refine lv_iinc (v := iI (p + 2)) (lv' := [(2, .int (iI (p + 2))), (3, .int (iI z_30)), (0, .ref h), (1, .ref h2), (4, .int (iI k))]) C.1 C.2.1 dX8_unsay_80 hl (k := 1) rfl (iI_add _ _) (by decide) rfl (fun ls hl => ?_)
                refine lv_goto (tgt := 18) C.1 C.2.1 dX8_unsay_83 (by decide) ?_
                exact ih_18 (p + 2) m1 g1 (by first | omega | assumption | (intros; first | rfl | omega | assumption | (and_intros <;> first | rfl | omega | assumption))) (by have h1 := hz_58_0 (by omega); rw [show (p + 2) / 2 = i + 1 by omega, show m1 = m + f (2 * i) by rw [show 2 * i = p by omega]; omega]; exact UnS_s hU hF (by omega) rfl (by rw [show 2 * i = p by omega]; omega) hne hold (fun j j0 j1 => hnew j j0 (by rw [show 2 * i = p by omega] at j1; omega))) hg1 (by omega) _ _ _ hW (lv_sub hl [0, 2, 3] rfl)
              ·
                refine lv_aload_n C.1 C.2.1 dX8_unsay_64 rfl (lv_at hl 3 rfl) ?_
                refine lv_iload_n C.1 C.2.1 dX8_unsay_65 rfl (lv_at hl 0 rfl) ?_
                refine z_call (va_runV (As := [.int (iI z_30)]) (rest := []) C (c_X6_add l G h2 a2 5000 m1 g1 z_30 (by first | omega | assumption | (intros; first | rfl | omega | assumption | (and_intros <;> first | rfl | omega | assumption))) (by first | omega | assumption | (intros; first | rfl | omega | assumption | (and_intros <;> first | rfl | omega | assumption))) hg1 hz_30_2 H.size) (cwV 1 C.2.2.2.2 gX8_unsay_X6_add rfl rfl rfl (by decide +kernel) ⟨Nat.le_of_ble_eq_true rfl, Nat.le_of_ble_eq_true rfl⟩) (z_preV hK hW hA [2, 3] rfl (by decide) (ci := 5) (q0 := 2) rfl rfl) rfl rfl hl.1 rfl (lv_room (Nat.le_of_ble_eq_true rfl)) dX8_unsay_66 ⟨Nat.zero_le _, Nat.zero_le _⟩) hW hA [2, 3] rfl (by decide) (fun _ => rfl) (fun r u H locs hp hW => ?_)
                obtain ⟨n2_66, f2_66⟩ := u
                have hp : ∃ z : Int, r = some (.int (iI z)) ∧ ((m1 < (5000 : Int) → z = 1 ∧ n2_66 = m1 + 1 ∧ f2_66 = up g1 m1 z_30)) ∧ ((¬ m1 < (5000 : Int) → z = 0 ∧ n2_66 = m1 ∧ f2_66 = g1)) ∧ (BD f2_66) := hp
                obtain ⟨z_66, rfl, hz_66_0, hz_66_1, hz_66_2⟩ := hp
                have hW : Wd G A s9.heap [(h, .inr (5, [.ref a, .int (iI n)])), (a, .inl (G.2.1 0, N, .inl (iA f))), (h2, .inr (5, [.ref a2, .int (iI n2_66)])), (a2, .inl (G.2.1 0, 5000, .inl (iA f2_66)))] H locs := hW
                have hs66 : (m1 < 5000 → z_66 = 1 ∧ n2_66 = m1 + 1) ∧ (¬ m1 < 5000 → z_66 = 0 ∧ n2_66 = m1) := ⟨fun q9 => ⟨(hz_66_0 q9).1, (hz_66_0 q9).2.1⟩, fun q9 => ⟨(hz_66_1 q9).1, (hz_66_1 q9).2.1⟩⟩
                refine z_if_ne (tgt := 74) C dX8_unsay_69 (by decide) (by omega) (fun c_69 => ?_) (fun c_69 => ?_)
                ·
                  refine lv_iinc (v := iI (k + 1)) (lv' := [(4, .int (iI (k + 1))), (3, .int (iI z_30)), (2, .int (iI p)), (0, .ref h), (1, .ref h2)]) C.1 C.2.1 dX8_unsay_74 hl (k := 4) rfl (iI_add _ _) (by decide) rfl (fun ls hl => ?_)
                  refine lv_goto (tgt := 54) C.1 C.2.1 dX8_unsay_77 (by decide) ?_
                  exact ih_54 (k + 1) n2_66 f2_66 hne (by first | (have hFp := hF p (by omega) (by omega); omega) | (have h1 := hz_58_0 (by omega); omega)) (by first | omega | assumption | (intros; first | rfl | omega | assumption | (and_intros <;> first | rfl | omega | assumption))) hz_66_2 (by obtain ⟨_, e1, e2⟩ := hz_66_0 (by omega); intro j j1; rw [e2, up_n _ _ (by omega)]; exact hold j j1) (by obtain ⟨_, e1, e2⟩ := hz_66_0 (by omega); intro j j0 j1; have h1 := hz_30_0 (by omega); rw [e2]; exact if h5 : m + j = m1 then (by rw [h5, up_s, h1, show 2 * i + 1 = p + 1 by omega]) else (by rw [up_n _ _ h5]; exact hnew j j0 (by omega))) (by omega) _ _ _ hW (lv_sub hl [1, 2, 3, 4, 0] rfl)
                ·
                  refine lv_iconst (v := iI 0) C.1 C.2.1 dX8_unsay_72 rfl ?_
                  rw [hQ]
                  exact z_zret C hr rfl hlocks hW (n2_66, f2_66) rfl ⟨_, rfl, (Or.inr ⟨rfl, Or.inr (Or.inr ⟨n / 2, by omega, by have h1 := hz_58_0 (by omega); have h2 := off_mono hF (i := i + 1) (k := n / 2) (by omega) (by omega) (by omega); rw [off_s (by omega), show 2 * i = p by omega] at h2; have h3 := hU.2.2.1; omega⟩)⟩), hz_66_2, (by first | omega | assumption | (intros; first | rfl | omega | assumption | (and_intros <;> first | rfl | omega | assumption)))⟩ dX8_unsay_73
          refine lv_iload_n C.1 C.2.1 dX8_unsay_34 rfl (lv_at hl 1 rfl) ?_
          refine z_if_le (tgt := 51) C dX8_unsay_35 (by decide) (by omega) (fun c_35 => ?_) (fun c_35 => ?_)
          ·
            refine lv_iconst (v := iI 0) C.1 C.2.1 dX8_unsay_51 rfl ?_
            refine lv_istore (lv' := [(4, .int (iI 0)), (3, .int (iI z_30)), (2, .int (iI p)), (0, .ref h), (1, .ref h2)]) C.1 C.2.1 dX8_unsay_52 hl (by decide) rfl (fun ls hl => ?_)
            exact cut_54 (((f p - 0) + 1 : Int)).toNat 0 m g (fun q9 => by have h1 := hz_30_0 (by omega); first | omega | (have h2 := hz_43_0 (by omega); rw [show 2 * i + 1 = p + 1 by omega, show 2 * i - 1 = p - 1 by omega]; omega)) (by first | (have hFp := hF p (by omega) (by omega); omega) | (have h1 := hz_58_0 (by omega); omega)) (by first | omega | assumption | (intros; first | rfl | omega | assumption | (and_intros <;> first | rfl | omega | assumption))) hg (fun j j1 => rfl) (fun j j0 j1 => by omega) (by omega) _ _ _ hW (lv_sub hl [1, 2, 3, 4, 0] rfl)
          ·
            refine lv_iload_n C.1 C.2.1 dX8_unsay_38 rfl (lv_at hl 0 rfl) ?_
            refine lv_aload_n C.1 C.2.1 dX8_unsay_39 rfl (lv_at hl 2 rfl) ?_
            refine lv_iload_n C.1 C.2.1 dX8_unsay_40 rfl (lv_at hl 1 rfl) ?_
            refine lv_iconst (v := iI 1) C.1 C.2.1 dX8_unsay_41 rfl ?_
            refine z_isub C dX8_unsay_42 ?_
            refine z_callR (va_runV (As := [.int (iI (p - 1))]) (rest := [.int (iI z_30)]) C (c_X6_get l G h a N n f (p - 1) hN hn hf (by first | omega | assumption | (intros; first | rfl | omega | assumption | (and_intros <;> first | rfl | omega | assumption))) H.size) (cwV 1 C.2.2.2.2 gX8_unsay_X6_get rfl rfl rfl (by decide +kernel) ⟨Nat.le_of_ble_eq_true rfl, Nat.le_of_ble_eq_true rfl⟩) (z_preV hK hW hA [0, 1] rfl (by decide) (ci := 5) (q0 := 0) rfl rfl) rfl rfl hl.1 rfl (lv_room (Nat.le_of_ble_eq_true rfl)) dX8_unsay_43 ⟨Nat.zero_le _, Nat.zero_le _⟩) (fun r hp => ?_)
            have hp : ∃ z : Int, r = some (.int (iI z)) ∧ ((0 ≤ (p - 1) ∧ (p - 1) < n → z = f (p - 1))) ∧ ((¬ (0 ≤ (p - 1) ∧ (p - 1) < n) → z = -4)) ∧ (-2147483648 ≤ z ∧ z ≤ 2147483647) := hp
            obtain ⟨z_43, rfl, hz_43_0, hz_43_1, hz_43_2⟩ := hp
            refine z_icmp_ne (tgt := 51) C dX8_unsay_46 (by decide) (by omega) (fun c_46 => ?_) (fun c_46 => ?_)
            ·
              refine lv_iconst (v := iI 0) C.1 C.2.1 dX8_unsay_51 rfl ?_
              refine lv_istore (lv' := [(4, .int (iI 0)), (3, .int (iI z_30)), (2, .int (iI p)), (0, .ref h), (1, .ref h2)]) C.1 C.2.1 dX8_unsay_52 hl (by decide) rfl (fun ls hl => ?_)
              exact cut_54 (((f p - 0) + 1 : Int)).toNat 0 m g (fun q9 => by have h1 := hz_30_0 (by omega); first | omega | (have h2 := hz_43_0 (by omega); rw [show 2 * i + 1 = p + 1 by omega, show 2 * i - 1 = p - 1 by omega]; omega)) (by first | (have hFp := hF p (by omega) (by omega); omega) | (have h1 := hz_58_0 (by omega); omega)) (by first | omega | assumption | (intros; first | rfl | omega | assumption | (and_intros <;> first | rfl | omega | assumption))) hg (fun j j1 => rfl) (fun j j0 j1 => by omega) (by omega) _ _ _ hW (lv_sub hl [1, 2, 3, 4, 0] rfl)
            ·
              refine lv_iconst (v := iI 0) C.1 C.2.1 dX8_unsay_49 rfl ?_
              rw [hQ]
              exact z_zret C hr rfl hlocks hW (m, g) rfl ⟨_, rfl, (Or.inr ⟨rfl, Or.inr (Or.inl ⟨i, by omega, by omega, by have h1 := hz_30_0 (by omega); have h2 := hz_43_0 (by omega); rw [show 2 * i + 1 = p + 1 by omega, show 2 * i - 1 = p - 1 by omega]; omega⟩)⟩), hg, (by first | omega | assumption | (intros; first | rfl | omega | assumption | (and_intros <;> first | rfl | omega | assumption)))⟩ dX8_unsay_50
    exact cut_18 (((n - 0) + 1 : Int)).toNat 0 0 g0 (by first | omega | assumption | (intros; first | rfl | omega | assumption | (and_intros <;> first | rfl | omega | assumption))) (by exact UnS_0 (by omega)) hg0 (by omega) _ _ _ hW (lv_sub hl [0, 1, 2] rfl)
  ·
    refine lv_iconst (v := iI 0) C.1 C.2.1 dX8_unsay_14 rfl ?_
    rw [hQ]
    exact z_zret C hr rfl hlocks hW (0, g0) rfl ⟨_, rfl, (Or.inr ⟨rfl, Or.inl (by omega)⟩), hg0, (by first | omega | assumption | (intros; first | rfl | omega | assumption | (and_intros <;> first | rfl | omega | assumption)))⟩ dX8_unsay_15
