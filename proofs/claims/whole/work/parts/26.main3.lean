theorem BrkR_b {g nf : Int → Int} {L nn z : Int} (h : BrkR g L nf nn z) (hn : 0 ≤ nn ∧ nn ≤ 40) : -4 ≤ z ∧ z ≤ 40 := by
  rcases h with h | h
  · omega
  · omega
set_option maxHeartbeats 800000 in
set_option maxRecDepth 100000 in
/-- round -/
theorem c_X10_round (l : Launch) (G : GG) (x : Nat) (rg : Nat) (mk : Nat) (mh : Nat) (th : Nat) (ih : Nat) (nh : Nat) (fh : Nat) (sh : Nat) (ro : Nat) (ts : Nat) (sr : Nat) (psh : Int → Nat) (psa : Int → Nat) (fa : Nat) (tl : Int) (ln : Int) (n : Int) (f : Int → Int) (N : Int → Int) (F : Int → Int → Int) (w : Int) (hw : -2147483648 ≤ w ∧ w ≤ 2147483647) (hn : 0 ≤ n ∧ n ≤ 40) (hf : BD f) (hF : ∀ i, BD (F i)) : MQc l yX10_round wsX10_round 3 G [.ref x, .int (iI w)] ([(x, .inr (8, [.ref rg, .ref mk, .ref mh, .ref th, .ref ih, .ref nh, .ref fh, .ref sh, .ref ro, .ref ts])), (ro, .inr (3, [.ref sr, .int (iI tl), .int (iI ln)])), (sr, .inl (G.2.1 4, 61, .inr (.inr (.inr (.inr (regF psh)))))), (fh, .inr (5, [.ref fa, .int (iI n)])), (fa, .inl (G.2.1 0, 40, .inl (iA f)))] ++ plF G psh psa N F 61 0) (fun r (u : Int × Int × (Int → Int) × (Int → Int → Int)) => ∃ z : Int, r = some (.int (iI z)) ∧ (0 ≤ w ∧ w ≤ 1 → RoundQ f n w z) ∧ (¬ (0 ≤ w ∧ w ≤ 1) → z = -1) ∧ (∀ i, BD (u.2.2.2 i))) (fun u => ([(x, .inr (8, [.ref rg, .ref mk, .ref mh, .ref th, .ref ih, .ref nh, .ref fh, .ref sh, .ref ro, .ref ts])), (ro, .inr (3, [.ref sr, .int (iI u.1), .int (iI u.2.1)])), (sr, .inl (G.2.1 4, 61, .inr (.inr (.inr (.inr (regF psh)))))), (fh, .inr (5, [.ref fa, .int (iI n)])), (fa, .inl (G.2.1 0, 40, .inl (iA f)))] ++ plF G psh psa u.2.2.1 u.2.2.2 61 0)) := by
  refine MQc.start (own := RX10) (by decide) rfl rfl (Nat.le_of_ble_eq_true rfl) ?_
  intro p9 e9 s9 m9 args below meth c9 A Q C hK hW hA hr hlocks hQ ls hl
  have hl : lv_has ls 2 [(0, .ref x), (1, .int (iI w))] := hl
  have hin4 : ∀ w ∈ wsX40, w ∈ wsX10_round := by decide +kernel
  have hin6 : ∀ w ∈ wsX60, w ∈ wsX10_round := by decide +kernel
  have hin10 : ∀ w ∈ wsX100, w ∈ wsX10_round := by decide +kernel
  refine lv_iload_n C.1 C.2.1 dX10_round_0 rfl (lv_at hl 1 rfl) ?_
  refine z_if_lt (tgt := 9) C dX10_round_1 (by decide) (by omega) (fun c_1 => ?_) (fun c_1 => ?_)
  ·
    refine lv_iconst (v := iI (-1)) C.1 C.2.1 dX10_round_9 rfl ?_
    rw [hQ]
    have hP9 : ∃ z : Int, (some (Value.int (iI (-1)))) = some (.int (iI z)) ∧ (0 ≤ w ∧ w ≤ 1 → RoundQ f n w z) ∧ (¬ (0 ≤ w ∧ w ≤ 1) → z = -1) ∧ (∀ i, BD (F i)) := ⟨_, rfl, (fun q9 => by omega), (by first | omega | assumption | (intros; first | rfl | omega | assumption | (and_intros <;> first | rfl | omega | assumption))), hF⟩
    exact z_iret C hr hlocks hW (tl, ln, N, F) rfl hP9 dX10_round_10
  ·
    refine lv_iload_n C.1 C.2.1 dX10_round_4 rfl (lv_at hl 1 rfl) ?_
    refine lv_iconst (v := iI 1) C.1 C.2.1 dX10_round_5 rfl ?_
    refine z_icmp_le (tgt := 11) C dX10_round_6 (by decide) (by omega) (fun c_6 => ?_) (fun c_6 => ?_)
    ·
      refine lv_aload_n C.1 C.2.1 dX10_round_11 rfl (lv_at hl 0 rfl) ?_
      refine z_get C hK hW hin10 (v := .ref ro) 0 rfl rfl 8 (by decide) (C.2.2.2.2 (.fieldLink RX10 63 "TellingRows" "rounds" "LTellingRows$Rounds;") (List.mem_of_getElem? (i := 1) rfl)) (fun _ h9 => h9) rfl dX10_round_12 ?_
      refine lv_aload_n C.1 C.2.1 dX10_round_15 rfl (lv_at hl 0 rfl) ?_
      refine z_get C hK hW hin10 (v := .ref fh) 0 rfl rfl 6 (by decide) (C.2.2.2.2 (.fieldLink RX10 50 "TellingRows" "figures" "LTellingRows$Sequence;") (List.mem_of_getElem? (i := 2) rfl)) (fun _ h9 => h9) rfl dX10_round_16 ?_
      refine z_call (va_runV (As := [.ref fh]) (rest := []) C (c_X4_find l G ro sr psh psa fh fa tl ln n f N F hn hf hF s9.heap.size) (cwV 1 C.2.2.2.2 gX10_round_X4_find rfl rfl rfl (by decide +kernel) ⟨Nat.le_of_ble_eq_true rfl, Nat.le_of_ble_eq_true rfl⟩) (z_preV hK hW hA ([1, 2, 3, 4] ++ List.range' 5 122) (pq_map rfl (plF_len 61 0) rfl) (pq_nd _ (by decide) (by decide)) (ci := 3) (q0 := 1) rfl rfl) rfl rfl hl.1 rfl (lv_room (Nat.le_of_ble_eq_true rfl)) dX10_round_19 ⟨Nat.zero_le _, Nat.zero_le _⟩) hW hA ([1, 2, 3, 4] ++ List.range' 5 122) (pq_map rfl (plF_len 61 0) rfl) (pq_nd _ (by decide) (by decide)) (fun _ => pq_fst rfl) (fun r u H locs hp hW => ?_)
      obtain ⟨tl2_19, ln2_19, N2_19, F2_19⟩ := u
      have hp : ∃ z : Int, r = some (.int (iI z)) ∧ ((z = 1 ∧ RoundR f n tl2_19 ln2_19) ∨ (z = 0 ∧ RoundN f n)) ∧ (∀ i, BD (F2_19 i)) := hp
      obtain ⟨z_19, rfl, hz_19_0, hz_19_1⟩ := hp
      have hq9 : zv_re ([(x, .inr (8, [.ref rg, .ref mk, .ref mh, .ref th, .ref ih, .ref nh, .ref fh, .ref sh, .ref ro, .ref ts])), (ro, .inr (3, [.ref sr, .int (iI tl), .int (iI ln)])), (sr, .inl (G.2.1 4, 61, .inr (.inr (.inr (.inr (regF psh)))))), (fh, .inr (5, [.ref fa, .int (iI n)])), (fa, .inl (G.2.1 0, 40, .inl (iA f)))] ++ plF G psh psa N F 61 0) ([1, 2, 3, 4] ++ List.range' 5 122) ([(ro, .inr (3, [.ref sr, .int (iI tl2_19), .int (iI ln2_19)])), (sr, .inl (G.2.1 4, 61, .inr (.inr (.inr (.inr (regF psh)))))), (fh, .inr (5, [.ref fa, .int (iI n)])), (fa, .inl (G.2.1 0, 40, .inl (iA f)))] ++ plF G psh psa N2_19 F2_19 61 0) = ([(x, .inr (8, [.ref rg, .ref mk, .ref mh, .ref th, .ref ih, .ref nh, .ref fh, .ref sh, .ref ro, .ref ts])), (ro, .inr (3, [.ref sr, .int (iI tl2_19), .int (iI ln2_19)])), (sr, .inl (G.2.1 4, 61, .inr (.inr (.inr (.inr (regF psh)))))), (fh, .inr (5, [.ref fa, .int (iI n)])), (fa, .inl (G.2.1 0, 40, .inl (iA f)))] ++ plF G psh psa N2_19 F2_19 61 0) := pq_up (w0 := [(x, .inr (8, [.ref rg, .ref mk, .ref mh, .ref th, .ref ih, .ref nh, .ref fh, .ref sh, .ref ro, .ref ts])), (ro, .inr (3, [.ref sr, .int (iI tl), .int (iI ln)])), (sr, .inl (G.2.1 4, 61, .inr (.inr (.inr (.inr (regF psh)))))), (fh, .inr (5, [.ref fa, .int (iI n)])), (fa, .inl (G.2.1 0, 40, .inl (iA f)))]) (c0 := [(ro, .inr (3, [.ref sr, .int (iI tl), .int (iI ln)])), (sr, .inl (G.2.1 4, 61, .inr (.inr (.inr (.inr (regF psh)))))), (fh, .inr (5, [.ref fa, .int (iI n)])), (fa, .inl (G.2.1 0, 40, .inl (iA f)))]) (c1 := [(ro, .inr (3, [.ref sr, .int (iI tl2_19), .int (iI ln2_19)])), (sr, .inl (G.2.1 4, 61, .inr (.inr (.inr (.inr (regF psh)))))), (fh, .inr (5, [.ref fa, .int (iI n)])), (fa, .inl (G.2.1 0, 40, .inl (iA f)))]) (pl := (plF G psh psa N F 61 0)) (pl' := (plF G psh psa N2_19 F2_19 61 0)) (n := 122) (k := 5) rfl (plF_len 61 0) (plF_len 61 0) rfl rfl
      have hW : Wd G A s9.heap ([(x, .inr (8, [.ref rg, .ref mk, .ref mh, .ref th, .ref ih, .ref nh, .ref fh, .ref sh, .ref ro, .ref ts])), (ro, .inr (3, [.ref sr, .int (iI tl2_19), .int (iI ln2_19)])), (sr, .inl (G.2.1 4, 61, .inr (.inr (.inr (.inr (regF psh)))))), (fh, .inr (5, [.ref fa, .int (iI n)])), (fa, .inl (G.2.1 0, 40, .inl (iA f)))] ++ plF G psh psa N2_19 F2_19 61 0) H locs := by rw [← hq9]; exact hW
      refine z_if_ne (tgt := 28) C dX10_round_22 (by decide) (by omega) (fun c_22 => ?_) (fun c_22 => ?_)
      ·
        have hR := hz_19_0.elim (fun q => q.2) (fun q => absurd q.1 c_22)
        refine lv_iload_n C.1 C.2.1 dX10_round_28 rfl (lv_at hl 1 rfl) ?_
        refine z_if_ne (tgt := 42) C dX10_round_29 (by decide) (by omega) (fun c_29 => ?_) (fun c_29 => ?_)
        ·
          refine lv_aload_n C.1 C.2.1 dX10_round_42 rfl (lv_at hl 0 rfl) ?_
          refine z_get C hK hW hin10 (v := .ref ro) 0 rfl rfl 8 (by decide) (C.2.2.2.2 (.fieldLink RX10 63 "TellingRows" "rounds" "LTellingRows$Rounds;") (List.mem_of_getElem? (i := 1) rfl)) (fun _ h9 => h9) rfl dX10_round_43 ?_
          refine z_callR (va_runV (As := []) (rest := []) C (c_X4_length l G ro sr tl2_19 ln2_19  H.size) (cwV 0 C.2.2.2.2 gX10_round_X4_length rfl rfl rfl (by decide +kernel) ⟨Nat.le_of_ble_eq_true rfl, Nat.le_of_ble_eq_true rfl⟩) (z_preV hK hW hA [1] rfl (by decide) (ci := 3) (q0 := 1) rfl rfl) rfl rfl hl.1 rfl (lv_room (Nat.le_of_ble_eq_true rfl)) dX10_round_46 ⟨Nat.zero_le _, Nat.zero_le _⟩) (fun r hp => ?_)
          have hp : ∃ z : Int, r = some (.int (iI z)) ∧ (z = ln2_19) := hp
          obtain ⟨z_46, rfl, hz_46_0⟩ := hp
          rw [hQ]
          have hP9 : ∃ z : Int, (some (Value.int (iI z_46))) = some (.int (iI z)) ∧ (0 ≤ w ∧ w ≤ 1 → RoundQ f n w z) ∧ (¬ (0 ≤ w ∧ w ≤ 1) → z = -1) ∧ (∀ i, BD (F2_19 i)) := ⟨_, rfl, (fun _ => Or.inr ⟨_, _, hR, fun q9 => by omega, fun q9 => by omega⟩), (fun q9 => by omega), hz_19_1⟩
          exact z_iret C hr hlocks hW (tl2_19, ln2_19, N2_19, F2_19) rfl hP9 dX10_round_49
        ·
          refine lv_aload_n C.1 C.2.1 dX10_round_32 rfl (lv_at hl 0 rfl) ?_
          refine z_get C hK hW hin10 (v := .ref ro) 0 rfl rfl 8 (by decide) (C.2.2.2.2 (.fieldLink RX10 63 "TellingRows" "rounds" "LTellingRows$Rounds;") (List.mem_of_getElem? (i := 1) rfl)) (fun _ h9 => h9) rfl dX10_round_33 ?_
          refine z_callR (va_runV (As := []) (rest := []) C (c_X4_tail l G ro sr tl2_19 ln2_19  H.size) (cwV 0 C.2.2.2.2 gX10_round_X4_tail rfl rfl rfl (by decide +kernel) ⟨Nat.le_of_ble_eq_true rfl, Nat.le_of_ble_eq_true rfl⟩) (z_preV hK hW hA [1] rfl (by decide) (ci := 3) (q0 := 1) rfl rfl) rfl rfl hl.1 rfl (lv_room (Nat.le_of_ble_eq_true rfl)) dX10_round_36 ⟨Nat.zero_le _, Nat.zero_le _⟩) (fun r hp => ?_)
          have hp : ∃ z : Int, r = some (.int (iI z)) ∧ (z = tl2_19) := hp
          obtain ⟨z_36, rfl, hz_36_0⟩ := hp
          refine lv_goto (tgt := 49) C.1 C.2.1 dX10_round_39 (by decide) ?_
          rw [hQ]
          have hP9 : ∃ z : Int, (some (Value.int (iI z_36))) = some (.int (iI z)) ∧ (0 ≤ w ∧ w ≤ 1 → RoundQ f n w z) ∧ (¬ (0 ≤ w ∧ w ≤ 1) → z = -1) ∧ (∀ i, BD (F2_19 i)) := ⟨_, rfl, (fun _ => Or.inr ⟨_, _, hR, fun q9 => by omega, fun q9 => by omega⟩), (fun q9 => by omega), hz_19_1⟩
          exact z_iret C hr hlocks hW (tl2_19, ln2_19, N2_19, F2_19) rfl hP9 dX10_round_49
      ·
        have hR := hz_19_0.elim (fun q => absurd q.1 (by omega)) (fun q => q.2)
        refine lv_bipush (v := iI (-2)) C.1 C.2.1 dX10_round_25 (by decide +kernel) ?_
        rw [hQ]
        have hP9 : ∃ z : Int, (some (Value.int (iI (-2)))) = some (.int (iI z)) ∧ (0 ≤ w ∧ w ≤ 1 → RoundQ f n w z) ∧ (¬ (0 ≤ w ∧ w ≤ 1) → z = -1) ∧ (∀ i, BD (F2_19 i)) := ⟨_, rfl, (fun _ => Or.inl ⟨hR, rfl⟩), (fun q9 => by omega), hz_19_1⟩
        exact z_iret C hr hlocks hW (tl2_19, ln2_19, N2_19, F2_19) rfl hP9 dX10_round_27
    ·
      refine lv_iconst (v := iI (-1)) C.1 C.2.1 dX10_round_9 rfl ?_
      rw [hQ]
      have hP9 : ∃ z : Int, (some (Value.int (iI (-1)))) = some (.int (iI z)) ∧ (0 ≤ w ∧ w ≤ 1 → RoundQ f n w z) ∧ (¬ (0 ≤ w ∧ w ≤ 1) → z = -1) ∧ (∀ i, BD (F i)) := ⟨_, rfl, (fun q9 => by omega), (by first | omega | assumption | (intros; first | rfl | omega | assumption | (and_intros <;> first | rfl | omega | assumption))), hF⟩
      exact z_iret C hr hlocks hW (tl, ln, N, F) rfl hP9 dX10_round_10
