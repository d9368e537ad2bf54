theorem BrkR_b {g nf : Int → Int} {L nn z : Int} (h : BrkR g L nf nn z) (hn : 0 ≤ nn ∧ nn ≤ 40) : -4 ≤ z ∧ z ≤ 40 := by
  rcases h with h | h
  · omega
  · omega
set_option maxHeartbeats 4000000 in
set_option maxRecDepth 100000 in
/-- round -/
theorem c_X10_round (l : Launch) (G : GG) (x : Nat) (rg : Nat) (mk : Nat) (mh : Nat) (th : Nat) (ih : Nat) (nh : Nat) (fh : Nat) (sh : Nat) (ro : Nat) (ts : Nat) (sr : Nat) (psh : Int → Nat) (psa : Int → Nat) (fa : Nat) (tl : Int) (ln : Int) (n : Int) (f : Int → Int) (N : Int → Int) (F : Int → Int → Int) (w : Int) (hw : -2147483648 ≤ w ∧ w ≤ 2147483647) (hn : 0 ≤ n ∧ n ≤ 40) (hf : BD f) (hF : ∀ i, BD (F i)) : MQc l yX10_round wsX10_round 3 G [.ref x, .int (iI w)] ([(x, .inr (8, [.ref rg, .ref mk, .ref mh, .ref th, .ref ih, .ref nh, .ref fh, .ref sh, .ref ro, .ref ts])), (ro, .inr (3, [.ref sr, .int (iI tl), .int (iI ln)])), (sr, .inl (G.2.1 4, 61, .inr (.inr (.inr (.inr (regF psh)))))), (fh, .inr (5, [.ref fa, .int (iI n)])), (fa, .inl (G.2.1 0, 40, .inl (iA f)))] ++ plF G psh psa N F 61 0) (fun r (u : Int × Int × (Int → Int) × (Int → Int → Int)) => ∃ z : Int, r = some (.int (iI z)) ∧ (0 ≤ w ∧ w ≤ 1 → RoundQ f n w z) ∧ (¬ (0 ≤ w ∧ w ≤ 1) → z = -1) ∧ (∀ i, BD (u.2.2.2 i))) (fun u => ([(x, .inr (8, [.ref rg, .ref mk, .ref mh, .ref th, .ref ih, .ref nh, .ref fh, .ref sh, .ref ro, .ref ts])), (ro, .inr (3, [.ref sr, .int (iI u.1), .int (iI u.2.1)])), (sr, .inl (G.2.1 4, 61, .inr (.inr (.inr (.inr (regF psh)))))), (fh, .inr (5, [.ref fa, .int (iI n)])), (fa, .inl (G.2.1 0, 40, .inl (iA f)))] ++ plF G psh psa u.2.2.1 u.2.2.2 61 0)) := by
  refine MQc.start (own := RX10) (by decide) rfl rfl (Nat.le_of_ble_eq_true rfl) ?_
  intro p9 e9 s9 m9 args below meth c9 A Q C hK hW hA hr hlocks hQ ls hl
  have hl : lv_has ls 2 [(0, .ref x), (1, .int (iI w))] := hl
  have hin4 : ∀ w ∈ wsX40, w ∈ wsX10_round := by decide +kernel
  have hin6 : ∀ w ∈ wsX60, w ∈ wsX10_round := by decide +kernel
  have hin10 : ∀ w ∈ wsX100, w ∈ wsX10_round := by decide +kernel
  refine lv_iload_n C.1 C.2.1 dX10_round_0 rfl (lv_at hl 1 rfl) ?_
  refine z_if_lt (tgt := 9) C dX10_round_1 (by decide) (by omega) (fun c_1 => ?_) (fun c_1 => ?_)
  ·
    refine lv_iconst (v := iI (-1)) C.1 C.2.1 dX10_round_9 rfl ?_
    rw [hQ]
    have hP9 : ∃ z : Int, (some (Value.int (iI (-1)))) = some (.int (iI z)) ∧ (0 ≤ w ∧ w ≤ 1 → RoundQ f n w z) ∧ (¬ (0 ≤ w ∧ w ≤ 1) → z = -1) ∧ (∀ i, BD (F i)) := ⟨_, rfl, (fun q9 => by omega), (by first | omega | assumption | (intros; first | rfl | omega | assumption | (and_intros <;> first | rfl | omega | assumption))), hF⟩
    exact z_iret C hr hlocks hW (tl, ln, N, F) rfl hP9 dX10_round_10
  ·
    refine lv_iload_n C.1 C.2.1 dX10_round_4 rfl (lv_at hl 1 rfl) ?_
    refine lv_iconst (v := iI 1) C.1 C.2.1 dX10_round_5 rfl ?_
    refine z_icmp_le (tgt := 11) C dX10_round_6 (by decide) (by omega) (fun c_6 => ?_) (fun c_6 => ?_)
    ·
      refine lv_aload_n C.1 C.2.1 dX10_round_11 rfl (lv_at hl 0 rfl) ?_
      refine z_get C hK hW hin10 (v := .ref ro) 0 rfl rfl 8 (by decide) (C.2.2.2.2 (.fieldLink RX10 63 "TellingRows" "rounds" "LTellingRows$Rounds;") (List.mem_of_getElem? (i := 1) rfl)) (fun _ h9 => h9) rfl dX10_round_12 ?_
      refine lv_aload_n C.1 C.2.1 dX10_round_15 rfl (lv_at hl 0 rfl) ?_
      refine z_get C hK hW hin10 (v := .ref fh) 0 rfl rfl 6 (by decide) (C.2.2.2.2 (.fieldLink RX10 50 "TellingRows" "figures" "LTellingRows$Sequence;") (List.mem_of_getElem? (i := 2) rfl)) (fun _ h9 => h9) rfl dX10_round_16 ?_
      refine z_call (va_runV (As := [.ref fh]) (rest := []) C (c_X4_find l G ro sr psh psa fh fa tl ln n f N F hn hf hF s9.heap.size) (cwV 1 C.2.2.2.2 gX10_round_X4_find rfl rfl rfl (by decide +kernel) ⟨Nat.le_of_ble_eq_true rfl, Nat.le_of_ble_eq_true rfl⟩) (z_preV hK hW hA ([1, 2, 3, 4] ++ List.range' 5 122) (pq_map rfl (plF_len 61 0) rfl) (pq_nd _ (by decide) (by decide)) (ci := 3) (q0 := 1) rfl rfl) rfl rfl hl.1 rfl (lv_room (Nat.le_of_ble_eq_true rfl)) dX10_round_19 ⟨Nat.zero_le _, Nat.zero_le _⟩) hW hA ([1, 2, 3, 4] ++ List.range' 5 122) (pq_map rfl (plF_len 61 0) rfl) (pq_nd _ (by decide) (by decide)) (fun _ => pq_fst rfl) (fun r u H locs hp hW => ?_)
      obtain ⟨tl2_19, ln2_19, N2_19, F2_19⟩ := u
      have hp : ∃ z : Int, r = some (.int (iI z)) ∧ ((z = 1 ∧ RoundR f n tl2_19 ln2_19) ∨ (z = 0 ∧ RoundN f n)) ∧ (∀ i, BD (F2_19 i)) := hp
      obtain ⟨z_19, rfl, hz_19_0, hz_19_1⟩ := hp
      have hq9 : zv_re ([(x, .inr (8, [.ref rg, .ref mk, .ref mh, .ref th, .ref ih, .ref nh, .ref fh, .ref sh, .ref ro, .ref ts])), (ro, .inr (3, [.ref sr, .int (iI tl), .int (iI ln)])), (sr, .inl (G.2.1 4, 61, .inr (.inr (.inr (.inr (regF psh)))))), (fh, .inr (5, [.ref fa, .int (iI n)])), (fa, .inl (G.2.1 0, 40, .inl (iA f)))] ++ plF G psh psa N F 61 0) ([1, 2, 3, 4] ++ List.range' 5 122) ([(ro, .inr (3, [.ref sr, .int (iI tl2_19), .int (iI ln2_19)])), (sr, .inl (G.2.1 4, 61, .inr (.inr (.inr (.inr (regF psh)))))), (fh, .inr (5, [.ref fa, .int (iI n)])), (fa, .inl (G.2.1 0, 40, .inl (iA f)))] ++ plF G psh psa N2_19 F2_19 61 0) = ([(x, .inr (8, [.ref rg, .ref mk, .ref mh, .ref th, .ref ih, .ref nh, .ref fh, .ref sh, .ref ro, .ref ts])), (ro, .inr (3, [.ref sr, .int (iI tl2_19), .int (iI ln2_19)])), (sr, .inl (G.2.1 4, 61, .inr (.inr (.inr (.inr (regF psh)))))), (fh, .inr (5, [.ref fa, .int (iI n)])), (fa, .inl (G.2.1 0, 40, .inl (iA f)))] ++ plF G psh psa N2_19 F2_19 61 0) := pq_up (w0 := [(x, .inr (8, [.ref rg, .ref mk, .ref mh, .ref th, .ref ih, .ref nh, .ref fh, .ref sh, .ref ro, .ref ts])), (ro, .inr (3, [.ref sr, .int (iI tl), .int (iI ln)])), (sr, .inl (G.2.1 4, 61, .inr (.inr (.inr (.inr (regF psh)))))), (fh, .inr (5, [.ref fa, .int (iI n)])), (fa, .inl (G.2.1 0, 40, .inl (iA f)))]) (c0 := [(ro, .inr (3, [.ref sr, .int (iI tl), .int (iI ln)])), (sr, .inl (G.2.1 4, 61, .inr (.inr (.inr (.inr (regF psh)))))), (fh, .inr (5, [.ref fa, .int (iI n)])), (fa, .inl (G.2.1 0, 40, .inl (iA f)))]) (c1 := [(ro, .inr (3, [.ref sr, .int (iI tl2_19), .int (iI ln2_19)])), (sr, .inl (G.2.1 4, 61, .inr (.inr (.inr (.inr (regF psh)))))), (fh, .inr (5, [.ref fa, .int (iI n)])), (fa, .inl (G.2.1 0, 40, .inl (iA f)))]) (pl := (plF G psh psa N F 61 0)) (pl' := (plF G psh psa N2_19 F2_19 61 0)) (n := 122) (k := 5) rfl (plF_len 61 0) (plF_len 61 0) rfl rfl
      have hW : Wd G A s9.heap ([(x, .inr (8, [.ref rg, .ref mk, .ref mh, .ref th, .ref ih, .ref nh, .ref fh, .ref sh, .ref ro, .ref ts])), (ro, .inr (3, [.ref sr, .int (iI tl2_19), .int (iI ln2_19)])), (sr, .inl (G.2.1 4, 61, .inr (.inr (.inr (.inr (regF psh)))))), (fh, .inr (5, [.ref fa, .int (iI n)])), (fa, .inl (G.2.1 0, 40, .inl (iA f)))] ++ plF G psh psa N2_19 F2_19 61 0) H locs := by rw [← hq9]; exact hW
      refine z_if_ne (tgt := 28) C dX10_round_22 (by decide) (by omega) (fun c_22 => ?_) (fun c_22 => ?_)
      ·
        have hR := hz_19_0.elim (fun q => q.2) (fun q => absurd q.1 c_22)
        refine lv_iload_n C.1 C.2.1 dX10_round_28 rfl (lv_at hl 1 rfl) ?_
        refine z_if_ne (tgt := 42) C dX10_round_29 (by decide) (by omega) (fun c_29 => ?_) (fun c_29 => ?_)
        ·
          refine lv_aload_n C.1 C.2.1 dX10_round_42 rfl (lv_at hl 0 rfl) ?_
          refine z_get C hK hW hin10 (v := .ref ro) 0 rfl rfl 8 (by decide) (C.2.2.2.2 (.fieldLink RX10 63 "TellingRows" "rounds" "LTellingRows$Rounds;") (List.mem_of_getElem? (i := 1) rfl)) (fun _ h9 => h9) rfl dX10_round_43 ?_
          refine z_callR (va_runV (As := []) (rest := []) C (c_X4_length l G ro sr tl2_19 ln2_19  H.size) (cwV 0 C.2.2.2.2 gX10_round_X4_length rfl rfl rfl (by decide +kernel) ⟨Nat.le_of_ble_eq_true rfl, Nat.le_of_ble_eq_true rfl⟩) (z_preV hK hW hA [1] rfl (by decide) (ci := 3) (q0 := 1) rfl rfl) rfl rfl hl.1 rfl (lv_room (Nat.le_of_ble_eq_true rfl)) dX10_round_46 ⟨Nat.zero_le _, Nat.zero_le _⟩) (fun r hp => ?_)
          have hp : ∃ z : Int, r = some (.int (iI z)) ∧ (z = ln2_19) := hp
          obtain ⟨z_46, rfl, hz_46_0⟩ := hp
          rw [hQ]
          have hP9 : ∃ z : Int, (some (Value.int (iI z_46))) = some (.int (iI z)) ∧ (0 ≤ w ∧ w ≤ 1 → RoundQ f n w z) ∧ (¬ (0 ≤ w ∧ w ≤ 1) → z = -1) ∧ (∀ i, BD (F2_19 i)) := ⟨_, rfl, (fun _ => Or.inr ⟨_, _, hR, fun q9 => by omega, fun q9 => by omega⟩), (fun q9 => by omega), hz_19_1⟩
          exact z_iret C hr hlocks hW (tl2_19, ln2_19, N2_19, F2_19) rfl hP9 dX10_round_49
        ·
          refine lv_aload_n C.1 C.2.1 dX10_round_32 rfl (lv_at hl 0 rfl) ?_
          refine z_get C hK hW hin10 (v := .ref ro) 0 rfl rfl 8 (by decide) (C.2.2.2.2 (.fieldLink RX10 63 "TellingRows" "rounds" "LTellingRows$Rounds;") (List.mem_of_getElem? (i := 1) rfl)) (fun _ h9 => h9) rfl dX10_round_33 ?_
          refine z_callR (va_runV (As := []) (rest := []) C (c_X4_tail l G ro sr tl2_19 ln2_19  H.size) (cwV 0 C.2.2.2.2 gX10_round_X4_tail rfl rfl rfl (by decide +kernel) ⟨Nat.le_of_ble_eq_true rfl, Nat.le_of_ble_eq_true rfl⟩) (z_preV hK hW hA [1] rfl (by decide) (ci := 3) (q0 := 1) rfl rfl) rfl rfl hl.1 rfl (lv_room (Nat.le_of_ble_eq_true rfl)) dX10_round_36 ⟨Nat.zero_le _, Nat.zero_le _⟩) (fun r hp => ?_)
          have hp : ∃ z : Int, r = some (.int (iI z)) ∧ (z = tl2_19) := hp
          obtain ⟨z_36, rfl, hz_36_0⟩ := hp
          refine lv_goto (tgt := 49) C.1 C.2.1 dX10_round_39 (by decide) ?_
          rw [hQ]
          have hP9 : ∃ z : Int, (some (Value.int (iI z_36))) = some (.int (iI z)) ∧ (0 ≤ w ∧ w ≤ 1 → RoundQ f n w z) ∧ (¬ (0 ≤ w ∧ w ≤ 1) → z = -1) ∧ (∀ i, BD (F2_19 i)) := ⟨_, rfl, (fun _ => Or.inr ⟨_, _, hR, fun q9 => by omega, fun q9 => by omega⟩), (fun q9 => by omega), hz_19_1⟩
          exact z_iret C hr hlocks hW (tl2_19, ln2_19, N2_19, F2_19) rfl hP9 dX10_round_49
      ·
        have hR := hz_19_0.elim (fun q => absurd q.1 (by omega)) (fun q => q.2)
        refine lv_bipush (v := iI (-2)) C.1 C.2.1 dX10_round_25 (by decide +kernel) ?_
        rw [hQ]
        have hP9 : ∃ z : Int, (some (Value.int (iI (-2)))) = some (.int (iI z)) ∧ (0 ≤ w ∧ w ≤ 1 → RoundQ f n w z) ∧ (¬ (0 ≤ w ∧ w ≤ 1) → z = -1) ∧ (∀ i, BD (F2_19 i)) := ⟨_, rfl, (fun _ => Or.inl ⟨hR, rfl⟩), (fun q9 => by omega), hz_19_1⟩
        exact z_iret C hr hlocks hW (tl2_19, ln2_19, N2_19, F2_19) rfl hP9 dX10_round_27
    ·
      refine lv_iconst (v := iI (-1)) C.1 C.2.1 dX10_round_9 rfl ?_
      rw [hQ]
      have hP9 : ∃ z : Int, (some (Value.int (iI (-1)))) = some (.int (iI z)) ∧ (0 ≤ w ∧ w ≤ 1 → RoundQ f n w z) ∧ (¬ (0 ≤ w ∧ w ≤ 1) → z = -1) ∧ (∀ i, BD (F i)) := ⟨_, rfl, (fun q9 => by omega), (by first | omega | assumption | (intros; first | rfl | omega | assumption | (and_intros <;> first | rfl | omega | assumption))), hF⟩
      exact z_iret C hr hlocks hW (tl, ln, N, F) rfl hP9 dX10_round_10
set_option maxHeartbeats 4000000 in
set_option maxRecDepth 100000 in
/-- may -/
theorem c_X10_may (l : Launch) (G : GG) (x : Nat) (rg : Nat) (mk : Nat) (mh : Nat) (th : Nat) (ih : Nat) (nh : Nat) (fh : Nat) (sh : Nat) (ro : Nat) (ts : Nat) (rw : Int → Nat) (ma : Nat) (ae : Nat) (f : Int → Int) (e : Int → Int) (na : Nat) (nn : Int) (nf : Int → Int) (bo0 : Nat) (bi0 : Nat) (no0 : Nat) (S0 : Nat) (M0 : Int) (L0 : Int) (n0 : Int) (B0 : Int → Int) (g0 : Int → Int) (bo1 : Nat) (bi1 : Nat) (no1 : Nat) (S1 : Nat) (M1 : Int) (L1 : Int) (n1 : Int) (B1 : Int → Int) (g1 : Int → Int) (bo2 : Nat) (bi2 : Nat) (no2 : Nat) (S2 : Nat) (M2 : Int) (L2 : Int) (n2 : Int) (B2 : Int → Int) (g2 : Int → Int) (bo3 : Nat) (bi3 : Nat) (no3 : Nat) (S3 : Nat) (M3 : Int) (L3 : Int) (n3 : Int) (B3 : Int → Int) (g3 : Int → Int) (hf : BD f) (he : BD e) (hnn : 0 ≤ nn ∧ nn ≤ 40) (hnfb : BD nf) (hnf : ∀ j, 0 ≤ j → j < nn → 0 ≤ nf j ∧ nf j ≤ 60000) (hS0 : S0 < 7) (hVB0 : AllowsR S0 n0 B0) (hg0 : BD g0) (hB0 : BD B0) (hM0 : M0 = 0 ∨ (M0 = 1 ∧ RowR S0 n0 B0 L0 g0)) (hS1 : S1 < 7) (hVB1 : AllowsR S1 n1 B1) (hg1 : BD g1) (hB1 : BD B1) (hM1 : M1 = 0 ∨ (M1 = 1 ∧ RowR S1 n1 B1 L1 g1)) (hS2 : S2 < 7) (hVB2 : AllowsR S2 n2 B2) (hg2 : BD g2) (hB2 : BD B2) (hM2 : M2 = 0 ∨ (M2 = 1 ∧ RowR S2 n2 B2 L2 g2)) (hS3 : S3 < 7) (hVB3 : AllowsR S3 n3 B3) (hg3 : BD g3) (hB3 : BD B3) (hM3 : M3 = 0 ∨ (M3 = 1 ∧ RowR S3 n3 B3 L3 g3)) : MQc l yX10_may wsX10_may 6 G [.ref x] [(x, .inr (8, [.ref rg, .ref mk, .ref mh, .ref th, .ref ih, .ref nh, .ref fh, .ref sh, .ref ro, .ref ts])), (rg, .inl (G.2.1 3, 4, .inr (.inr (.inr (.inr (regF rw)))))), (mh, .inr (1, [.ref mk, .ref ae])), (mk, .inr (2, [.ref ma])), (ma, .inl (G.2.1 0, 60001, .inl (iA f))), (ae, .inl (G.2.1 0, 1000, .inl (iA e))), (rw 0, .inr (4, [.ref bo0, .ref no0, .ref (G.2.2 S0), .int (iI M0), .int (iI L0)])), (bo0, .inr (5, [.ref bi0, .int (iI n0)])), (bi0, .inl (G.2.1 0, 6, .inl (iA B0))), (no0, .inl (G.2.1 0, 2000, .inl (iA g0))), (rw 1, .inr (4, [.ref bo1, .ref no1, .ref (G.2.2 S1), .int (iI M1), .int (iI L1)])), (bo1, .inr (5, [.ref bi1, .int (iI n1)])), (bi1, .inl (G.2.1 0, 6, .inl (iA B1))), (no1, .inl (G.2.1 0, 2000, .inl (iA g1))), (rw 2, .inr (4, [.ref bo2, .ref no2, .ref (G.2.2 S2), .int (iI M2), .int (iI L2)])), (bo2, .inr (5, [.ref bi2, .int (iI n2)])), (bi2, .inl (G.2.1 0, 6, .inl (iA B2))), (no2, .inl (G.2.1 0, 2000, .inl (iA g2))), (rw 3, .inr (4, [.ref bo3, .ref no3, .ref (G.2.2 S3), .int (iI M3), .int (iI L3)])), (bo3, .inr (5, [.ref bi3, .int (iI n3)])), (bi3, .inl (G.2.1 0, 6, .inl (iA B3))), (no3, .inl (G.2.1 0, 2000, .inl (iA g3))), (nh, .inr (5, [.ref na, .int (iI nn)])), (na, .inl (G.2.1 0, 40, .inl (iA nf)))] (fun r (u : (Int → Int) × (Int → Int) × Int × (Int → Int) × Int × (Int → Int) × Int × (Int → Int) × Int × (Int → Int)) => ∃ z : Int, r = some (.int (iI z)) ∧ (∃ b0 b1 b2 b3, BrkR u.2.2.2.1 u.2.2.1 nf nn b0 ∧ BrkR u.2.2.2.2.2.1 u.2.2.2.2.1 nf nn b1 ∧ BrkR u.2.2.2.2.2.2.2.1 u.2.2.2.2.2.2.1 nf nn b2 ∧ BrkR u.2.2.2.2.2.2.2.2.2 u.2.2.2.2.2.2.2.2.1 nf nn b3 ∧ z = (if b0 = -4 then 1 else 0) + (if b1 = -4 then 2 else 0) + (if b2 = -4 then 4 else 0) + (if b3 = -4 then 8 else 0)) ∧ (RowR S0 n0 B0 u.2.2.1 u.2.2.2.1) ∧ (BD u.2.2.2.1) ∧ (RowR S1 n1 B1 u.2.2.2.2.1 u.2.2.2.2.2.1) ∧ (BD u.2.2.2.2.2.1) ∧ (RowR S2 n2 B2 u.2.2.2.2.2.2.1 u.2.2.2.2.2.2.2.1) ∧ (BD u.2.2.2.2.2.2.2.1) ∧ (RowR S3 n3 B3 u.2.2.2.2.2.2.2.2.1 u.2.2.2.2.2.2.2.2.2) ∧ (BD u.2.2.2.2.2.2.2.2.2) ∧ (BD u.1) ∧ (BD u.2.1)) (fun u => [(x, .inr (8, [.ref rg, .ref mk, .ref mh, .ref th, .ref ih, .ref nh, .ref fh, .ref sh, .ref ro, .ref ts])), (rg, .inl (G.2.1 3, 4, .inr (.inr (.inr (.inr (regF rw)))))), (mh, .inr (1, [.ref mk, .ref ae])), (mk, .inr (2, [.ref ma])), (ma, .inl (G.2.1 0, 60001, .inl (iA u.1))), (ae, .inl (G.2.1 0, 1000, .inl (iA u.2.1))), (rw 0, .inr (4, [.ref bo0, .ref no0, .ref (G.2.2 S0), .int (iI 1), .int (iI u.2.2.1)])), (bo0, .inr (5, [.ref bi0, .int (iI n0)])), (bi0, .inl (G.2.1 0, 6, .inl (iA B0))), (no0, .inl (G.2.1 0, 2000, .inl (iA u.2.2.2.1))), (rw 1, .inr (4, [.ref bo1, .ref no1, .ref (G.2.2 S1), .int (iI 1), .int (iI u.2.2.2.2.1)])), (bo1, .inr (5, [.ref bi1, .int (iI n1)])), (bi1, .inl (G.2.1 0, 6, .inl (iA B1))), (no1, .inl (G.2.1 0, 2000, .inl (iA u.2.2.2.2.2.1))), (rw 2, .inr (4, [.ref bo2, .ref no2, .ref (G.2.2 S2), .int (iI 1), .int (iI u.2.2.2.2.2.2.1)])), (bo2, .inr (5, [.ref bi2, .int (iI n2)])), (bi2, .inl (G.2.1 0, 6, .inl (iA B2))), (no2, .inl (G.2.1 0, 2000, .inl (iA u.2.2.2.2.2.2.2.1))), (rw 3, .inr (4, [.ref bo3, .ref no3, .ref (G.2.2 S3), .int (iI 1), .int (iI u.2.2.2.2.2.2.2.2.1)])), (bo3, .inr (5, [.ref bi3, .int (iI n3)])), (bi3, .inl (G.2.1 0, 6, .inl (iA B3))), (no3, .inl (G.2.1 0, 2000, .inl (iA u.2.2.2.2.2.2.2.2.2))), (nh, .inr (5, [.ref na, .int (iI nn)])), (na, .inl (G.2.1 0, 40, .inl (iA nf)))]) := by
  refine MQc.start (own := RX10) (by decide) rfl rfl (Nat.le_of_ble_eq_true rfl) ?_
  intro p9 e9 s9 m9 args below meth c9 A Q C hK hW hA hr hlocks hQ ls hl
  have hl : lv_has ls 3 [(0, .ref x)] := hl
  have hin2 : ∀ w ∈ wsX20, w ∈ wsX10_may := by decide +kernel
  have hin3 : ∀ w ∈ wsX30, w ∈ wsX10_may := by decide +kernel
  have hin5 : ∀ w ∈ wsX50, w ∈ wsX10_may := by decide +kernel
  have hin6 : ∀ w ∈ wsX60, w ∈ wsX10_may := by decide +kernel
  have hin10 : ∀ w ∈ wsX100, w ∈ wsX10_may := by decide +kernel
  refine lv_iconst (v := iI 0) C.1 C.2.1 dX10_may_0 rfl ?_
  refine lv_istore_n (lv' := [(1, .int (iI 0)), (0, .ref x)]) C.1 C.2.1 dX10_may_1 rfl hl (by decide) rfl (fun ls hl => ?_)
  refine lv_iconst (v := iI 0) C.1 C.2.1 dX10_may_2 rfl ?_
  refine lv_istore_n (lv' := [(2, .int (iI 0)), (1, .int (iI 0)), (0, .ref x)]) C.1 C.2.1 dX10_may_3 rfl hl (by decide) rfl (fun ls hl => ?_)
  refine lv_iload_n C.1 C.2.1 dX10_may_4 rfl (lv_at hl 0 rfl) ?_
  refine lv_iconst (v := iI 4) C.1 C.2.1 dX10_may_5 rfl ?_
  refine z_icmp_ge (tgt := 31) C dX10_may_6 (by decide) (by omega) (fun c_6 => ?_) (fun c_6 => ?_)
  ·
    exfalso; exact absurd c_6 (by decide)
  ·
    refine lv_aload_n C.1 C.2.1 dX10_may_9 rfl (lv_at hl 2 rfl) ?_
    refine lv_iload_n C.1 C.2.1 dX10_may_10 rfl (lv_at hl 0 rfl) ?_
    refine z_call (va_runV (As := [.int (iI 0)]) (rest := []) C (c_X10_breaks l G x rg mk mh th ih nh fh sh ro ts rw 0 ma ae bo0 bi0 no0 S0 f e M0 L0 n0 B0 g0 na nn nf (by first | omega | assumption | (intros; first | rfl | omega | assumption | (and_intros <;> first | rfl | omega | assumption))) hS0 hVB0 hf he hg0 hB0 hM0 hnn hnfb hnf s9.heap.size) (cwV 1 C.2.2.2.2 gX10_may_X10_breaks rfl rfl rfl (by decide +kernel) ⟨Nat.le_of_ble_eq_true rfl, Nat.le_of_ble_eq_true rfl⟩) (z_preV hK hW hA [0, 1, 2, 3, 4, 5, 6, 7, 8, 9, 22, 23] rfl (by decide) (ci := 8) (q0 := 0) rfl rfl) rfl rfl hl.1 rfl (lv_room (Nat.le_of_ble_eq_true rfl)) dX10_may_11 ⟨Nat.zero_le _, Nat.zero_le _⟩) hW hA [0, 1, 2, 3, 4, 5, 6, 7, 8, 9, 22, 23] rfl (by decide) (fun _ => rfl) (fun r u H locs hp hW => ?_)
    obtain ⟨f2_11, e2_11, L2_11, g2_11⟩ := u
    have hp : ∃ z : Int, r = some (.int (iI z)) ∧ (BrkR g2_11 L2_11 nf nn z) ∧ (z ≠ -1) ∧ (RowR S0 n0 B0 L2_11 g2_11) ∧ (BD f2_11) ∧ (BD e2_11) ∧ (BD g2_11) := hp
    obtain ⟨z_11, rfl, hz_11_0, hz_11_1, hz_11_2, hz_11_3, hz_11_4, hz_11_5⟩ := hp
    have hW : Wd G A s9.heap [(x, .inr (8, [.ref rg, .ref mk, .ref mh, .ref th, .ref ih, .ref nh, .ref fh, .ref sh, .ref ro, .ref ts])), (rg, .inl (G.2.1 3, 4, .inr (.inr (.inr (.inr (regF rw)))))), (mh, .inr (1, [.ref mk, .ref ae])), (mk, .inr (2, [.ref ma])), (ma, .inl (G.2.1 0, 60001, .inl (iA f2_11))), (ae, .inl (G.2.1 0, 1000, .inl (iA e2_11))), (rw 0, .inr (4, [.ref bo0, .ref no0, .ref (G.2.2 S0), .int (iI 1), .int (iI L2_11)])), (bo0, .inr (5, [.ref bi0, .int (iI n0)])), (bi0, .inl (G.2.1 0, 6, .inl (iA B0))), (no0, .inl (G.2.1 0, 2000, .inl (iA g2_11))), (rw 1, .inr (4, [.ref bo1, .ref no1, .ref (G.2.2 S1), .int (iI M1), .int (iI L1)])), (bo1, .inr (5, [.ref bi1, .int (iI n1)])), (bi1, .inl (G.2.1 0, 6, .inl (iA B1))), (no1, .inl (G.2.1 0, 2000, .inl (iA g1))), (rw 2, .inr (4, [.ref bo2, .ref no2, .ref (G.2.2 S2), .int (iI M2), .int (iI L2)])), (bo2, .inr (5, [.ref bi2, .int (iI n2)])), (bi2, .inl (G.2.1 0, 6, .inl (iA B2))), (no2, .inl (G.2.1 0, 2000, .inl (iA g2))), (rw 3, .inr (4, [.ref bo3, .ref no3, .ref (G.2.2 S3), .int (iI M3), .int (iI L3)])), (bo3, .inr (5, [.ref bi3, .int (iI n3)])), (bi3, .inl (G.2.1 0, 6, .inl (iA B3))), (no3, .inl (G.2.1 0, 2000, .inl (iA g3))), (nh, .inr (5, [.ref na, .int (iI nn)])), (na, .inl (G.2.1 0, 40, .inl (iA nf)))] H locs := hW
    have hb_11 := BrkR_b hz_11_0 hnn
    refine lv_bipush (v := iI (-4)) C.1 C.2.1 dX10_may_14 (by decide +kernel) ?_
    refine z_icmp_ne (tgt := 25) C dX10_may_16 (by decide) (by omega) (fun c_16 => ?_) (fun c_16 => ?_)
    ·
      refine lv_iinc (v := iI 1) (lv' := [(2, .int (iI 1)), (1, .int (iI 0)), (0, .ref x)]) C.1 C.2.1 dX10_may_25 hl (k := 0) rfl (iI_add _ _) (by decide) rfl (fun ls hl => ?_)
      refine lv_goto (tgt := 4) C.1 C.2.1 dX10_may_28 (by decide) ?_
      refine lv_iload_n C.1 C.2.1 dX10_may_4 rfl (lv_at hl 0 rfl) ?_
      refine lv_iconst (v := iI 4) C.1 C.2.1 dX10_may_5 rfl ?_
      refine z_icmp_ge (tgt := 31) C dX10_may_6 (by decide) (by omega) (fun c_6 => ?_) (fun c_6 => ?_)
      ·
        exfalso; exact absurd c_6 (by decide)
      ·
        refine lv_aload_n C.1 C.2.1 dX10_may_9 rfl (lv_at hl 2 rfl) ?_
        refine lv_iload_n C.1 C.2.1 dX10_may_10 rfl (lv_at hl 0 rfl) ?_
        refine z_call (va_runV (As := [.int (iI 1)]) (rest := []) C (c_X10_breaks l G x rg mk mh th ih nh fh sh ro ts rw 1 ma ae bo1 bi1 no1 S1 f2_11 e2_11 M1 L1 n1 B1 g1 na nn nf (by first | omega | assumption | (intros; first | rfl | omega | assumption | (and_intros <;> first | rfl | omega | assumption))) hS1 hVB1 hz_11_3 hz_11_4 hg1 hB1 hM1 hnn hnfb hnf H.size) (cwV 1 C.2.2.2.2 gX10_may_X10_breaks rfl rfl rfl (by decide +kernel) ⟨Nat.le_of_ble_eq_true rfl, Nat.le_of_ble_eq_true rfl⟩) (z_preV hK hW hA [0, 1, 2, 3, 4, 5, 10, 11, 12, 13, 22, 23] rfl (by decide) (ci := 8) (q0 := 0) rfl rfl) rfl rfl hl.1 rfl (lv_room (Nat.le_of_ble_eq_true rfl)) dX10_may_11 ⟨Nat.zero_le _, Nat.zero_le _⟩) hW hA [0, 1, 2, 3, 4, 5, 10, 11, 12, 13, 22, 23] rfl (by decide) (fun _ => rfl) (fun r u H locs hp hW => ?_)
        obtain ⟨f2_11v2, e2_11v2, L2_11v2, g2_11v2⟩ := u
        have hp : ∃ z : Int, r = some (.int (iI z)) ∧ (BrkR g2_11v2 L2_11v2 nf nn z) ∧ (z ≠ -1) ∧ (RowR S1 n1 B1 L2_11v2 g2_11v2) ∧ (BD f2_11v2) ∧ (BD e2_11v2) ∧ (BD g2_11v2) := hp
        obtain ⟨z_11v2, rfl, hz_11v2_0, hz_11v2_1, hz_11v2_2, hz_11v2_3, hz_11v2_4, hz_11v2_5⟩ := hp
        have hW : Wd G A s9.heap [(x, .inr (8, [.ref rg, .ref mk, .ref mh, .ref th, .ref ih, .ref nh, .ref fh, .ref sh, .ref ro, .ref ts])), (rg, .inl (G.2.1 3, 4, .inr (.inr (.inr (.inr (regF rw)))))), (mh, .inr (1, [.ref mk, .ref ae])), (mk, .inr (2, [.ref ma])), (ma, .inl (G.2.1 0, 60001, .inl (iA f2_11v2))), (ae, .inl (G.2.1 0, 1000, .inl (iA e2_11v2))), (rw 0, .inr (4, [.ref bo0, .ref no0, .ref (G.2.2 S0), .int (iI 1), .int (iI L2_11)])), (bo0, .inr (5, [.ref bi0, .int (iI n0)])), (bi0, .inl (G.2.1 0, 6, .inl (iA B0))), (no0, .inl (G.2.1 0, 2000, .inl (iA g2_11))), (rw 1, .inr (4, [.ref bo1, .ref no1, .ref (G.2.2 S1), .int (iI 1), .int (iI L2_11v2)])), (bo1, .inr (5, [.ref bi1, .int (iI n1)])), (bi1, .inl (G.2.1 0, 6, .inl (iA B1))), (no1, .inl (G.2.1 0, 2000, .inl (iA g2_11v2))), (rw 2, .inr (4, [.ref bo2, .ref no2, .ref (G.2.2 S2), .int (iI M2), .int (iI L2)])), (bo2, .inr (5, [.ref bi2, .int (iI n2)])), (bi2, .inl (G.2.1 0, 6, .inl (iA B2))), (no2, .inl (G.2.1 0, 2000, .inl (iA g2))), (rw 3, .inr (4, [.ref bo3, .ref no3, .ref (G.2.2 S3), .int (iI M3), .int (iI L3)])), (bo3, .inr (5, [.ref bi3, .int (iI n3)])), (bi3, .inl (G.2.1 0, 6, .inl (iA B3))), (no3, .inl (G.2.1 0, 2000, .inl (iA g3))), (nh, .inr (5, [.ref na, .int (iI nn)])), (na, .inl (G.2.1 0, 40, .inl (iA nf)))] H locs := hW
        have hb_11v2 := BrkR_b hz_11v2_0 hnn
        refine lv_bipush (v := iI (-4)) C.1 C.2.1 dX10_may_14 (by decide +kernel) ?_
        refine z_icmp_ne (tgt := 25) C dX10_may_16 (by decide) (by omega) (fun c_16 => ?_) (fun c_16 => ?_)
        ·
          refine lv_iinc (v := iI 2) (lv' := [(2, .int (iI 2)), (1, .int (iI 0)), (0, .ref x)]) C.1 C.2.1 dX10_may_25 hl (k := 0) rfl (iI_add _ _) (by decide) rfl (fun ls hl => ?_)
          refine lv_goto (tgt := 4) C.1 C.2.1 dX10_may_28 (by decide) ?_
          refine lv_iload_n C.1 C.2.1 dX10_may_4 rfl (lv_at hl 0 rfl) ?_
          refine lv_iconst (v := iI 4) C.1 C.2.1 dX10_may_5 rfl ?_
          refine z_icmp_ge (tgt := 31) C dX10_may_6 (by decide) (by omega) (fun c_6 => ?_) (fun c_6 => ?_)
          ·
            exfalso; exact absurd c_6 (by decide)
          ·
            refine lv_aload_n C.1 C.2.1 dX10_may_9 rfl (lv_at hl 2 rfl) ?_
            refine lv_iload_n C.1 C.2.1 dX10_may_10 rfl (lv_at hl 0 rfl) ?_
            refine z_call (va_runV (As := [.int (iI 2)]) (rest := []) C (c_X10_breaks l G x rg mk mh th ih nh fh sh ro ts rw 2 ma ae bo2 bi2 no2 S2 f2_11v2 e2_11v2 M2 L2 n2 B2 g2 na nn nf (by first | omega | assumption | (intros; first | rfl | omega | assumption | (and_intros <;> first | rfl | omega | assumption))) hS2 hVB2 hz_11v2_3 hz_11v2_4 hg2 hB2 hM2 hnn hnfb hnf H.size) (cwV 1 C.2.2.2.2 gX10_may_X10_breaks rfl rfl rfl (by decide +kernel) ⟨Nat.le_of_ble_eq_true rfl, Nat.le_of_ble_eq_true rfl⟩) (z_preV hK hW hA [0, 1, 2, 3, 4, 5, 14, 15, 16, 17, 22, 23] rfl (by decide) (ci := 8) (q0 := 0) rfl rfl) rfl rfl hl.1 rfl (lv_room (Nat.le_of_ble_eq_true rfl)) dX10_may_11 ⟨Nat.zero_le _, Nat.zero_le _⟩) hW hA [0, 1, 2, 3, 4, 5, 14, 15, 16, 17, 22, 23] rfl (by decide) (fun _ => rfl) (fun r u H locs hp hW => ?_)
            obtain ⟨f2_11v3, e2_11v3, L2_11v3, g2_11v3⟩ := u
            have hp : ∃ z : Int, r = some (.int (iI z)) ∧ (BrkR g2_11v3 L2_11v3 nf nn z) ∧ (z ≠ -1) ∧ (RowR S2 n2 B2 L2_11v3 g2_11v3) ∧ (BD f2_11v3) ∧ (BD e2_11v3) ∧ (BD g2_11v3) := hp
            obtain ⟨z_11v3, rfl, hz_11v3_0, hz_11v3_1, hz_11v3_2, hz_11v3_3, hz_11v3_4, hz_11v3_5⟩ := hp
            have hW : Wd G A s9.heap [(x, .inr (8, [.ref rg, .ref mk, .ref mh, .ref th, .ref ih, .ref nh, .ref fh, .ref sh, .ref ro, .ref ts])), (rg, .inl (G.2.1 3, 4, .inr (.inr (.inr (.inr (regF rw)))))), (mh, .inr (1, [.ref mk, .ref ae])), (mk, .inr (2, [.ref ma])), (ma, .inl (G.2.1 0, 60001, .inl (iA f2_11v3))), (ae, .inl (G.2.1 0, 1000, .inl (iA e2_11v3))), (rw 0, .inr (4, [.ref bo0, .ref no0, .ref (G.2.2 S0), .int (iI 1), .int (iI L2_11)])), (bo0, .inr (5, [.ref bi0, .int (iI n0)])), (bi0, .inl (G.2.1 0, 6, .inl (iA B0))), (no0, .inl (G.2.1 0, 2000, .inl (iA g2_11))), (rw 1, .inr (4, [.ref bo1, .ref no1, .ref (G.2.2 S1), .int (iI 1), .int (iI L2_11v2)])), (bo1, .inr (5, [.ref bi1, .int (iI n1)])), (bi1, .inl (G.2.1 0, 6, .inl (iA B1))), (no1, .inl (G.2.1 0, 2000, .inl (iA g2_11v2))), (rw 2, .inr (4, [.ref bo2, .ref no2, .ref (G.2.2 S2), .int (iI 1), .int (iI L2_11v3)])), (bo2, .inr (5, [.ref bi2, .int (iI n2)])), (bi2, .inl (G.2.1 0, 6, .inl (iA B2))), (no2, .inl (G.2.1 0, 2000, .inl (iA g2_11v3))), (rw 3, .inr (4, [.ref bo3, .ref no3, .ref (G.2.2 S3), .int (iI M3), .int (iI L3)])), (bo3, .inr (5, [.ref bi3, .int (iI n3)])), (bi3, .inl (G.2.1 0, 6, .inl (iA B3))), (no3, .inl (G.2.1 0, 2000, .inl (iA g3))), (nh, .inr (5, [.ref na, .int (iI nn)])), (na, .inl (G.2.1 0, 40, .inl (iA nf)))] H locs := hW
            have hb_11v3 := BrkR_b hz_11v3_0 hnn
            refine lv_bipush (v := iI (-4)) C.1 C.2.1 dX10_may_14 (by decide +kernel) ?_
            refine z_icmp_ne (tgt := 25) C dX10_may_16 (by decide) (by omega) (fun c_16 => ?_) (fun c_16 => ?_)
            ·
              refine lv_iinc (v := iI 3) (lv' := [(2, .int (iI 3)), (1, .int (iI 0)), (0, .ref x)]) C.1 C.2.1 dX10_may_25 hl (k := 0) rfl (iI_add _ _) (by decide) rfl (fun ls hl => ?_)
              refine lv_goto (tgt := 4) C.1 C.2.1 dX10_may_28 (by decide) ?_
              refine lv_iload_n C.1 C.2.1 dX10_may_4 rfl (lv_at hl 0 rfl) ?_
              refine lv_iconst (v := iI 4) C.1 C.2.1 dX10_may_5 rfl ?_
              refine z_icmp_ge (tgt := 31) C dX10_may_6 (by decide) (by omega) (fun c_6 => ?_) (fun c_6 => ?_)
              ·
                exfalso; exact absurd c_6 (by decide)
              ·
                refine lv_aload_n C.1 C.2.1 dX10_may_9 rfl (lv_at hl 2 rfl) ?_
                refine lv_iload_n C.1 C.2.1 dX10_may_10 rfl (lv_at hl 0 rfl) ?_
                refine z_call (va_runV (As := [.int (iI 3)]) (rest := []) C (c_X10_breaks l G x rg mk mh th ih nh fh sh ro ts rw 3 ma ae bo3 bi3 no3 S3 f2_11v3 e2_11v3 M3 L3 n3 B3 g3 na nn nf (by first | omega | assumption | (intros; first | rfl | omega | assumption | (and_intros <;> first | rfl | omega | assumption))) hS3 hVB3 hz_11v3_3 hz_11v3_4 hg3 hB3 hM3 hnn hnfb hnf H.size) (cwV 1 C.2.2.2.2 gX10_may_X10_breaks rfl rfl rfl (by decide +kernel) ⟨Nat.le_of_ble_eq_true rfl, Nat.le_of_ble_eq_true rfl⟩) (z_preV hK hW hA [0, 1, 2, 3, 4, 5, 18, 19, 20, 21, 22, 23] rfl (by decide) (ci := 8) (q0 := 0) rfl rfl) rfl rfl hl.1 rfl (lv_room (Nat.le_of_ble_eq_true rfl)) dX10_may_11 ⟨Nat.zero_le _, Nat.zero_le _⟩) hW hA [0, 1, 2, 3, 4, 5, 18, 19, 20, 21, 22, 23] rfl (by decide) (fun _ => rfl) (fun r u H locs hp hW => ?_)
                obtain ⟨f2_11v4, e2_11v4, L2_11v4, g2_11v4⟩ := u
                have hp : ∃ z : Int, r = some (.int (iI z)) ∧ (BrkR g2_11v4 L2_11v4 nf nn z) ∧ (z ≠ -1) ∧ (RowR S3 n3 B3 L2_11v4 g2_11v4) ∧ (BD f2_11v4) ∧ (BD e2_11v4) ∧ (BD g2_11v4) := hp
                obtain ⟨z_11v4, rfl, hz_11v4_0, hz_11v4_1, hz_11v4_2, hz_11v4_3, hz_11v4_4, hz_11v4_5⟩ := hp
                have hW : Wd G A s9.heap [(x, .inr (8, [.ref rg, .ref mk, .ref mh, .ref th, .ref ih, .ref nh, .ref fh, .ref sh, .ref ro, .ref ts])), (rg, .inl (G.2.1 3, 4, .inr (.inr (.inr (.inr (regF rw)))))), (mh, .inr (1, [.ref mk, .ref ae])), (mk, .inr (2, [.ref ma])), (ma, .inl (G.2.1 0, 60001, .inl (iA f2_11v4))), (ae, .inl (G.2.1 0, 1000, .inl (iA e2_11v4))), (rw 0, .inr (4, [.ref bo0, .ref no0, .ref (G.2.2 S0), .int (iI 1), .int (iI L2_11)])), (bo0, .inr (5, [.ref bi0, .int (iI n0)])), (bi0, .inl (G.2.1 0, 6, .inl (iA B0))), (no0, .inl (G.2.1 0, 2000, .inl (iA g2_11))), (rw 1, .inr (4, [.ref bo1, .ref no1, .ref (G.2.2 S1), .int (iI 1), .int (iI L2_11v2)])), (bo1, .inr (5, [.ref bi1, .int (iI n1)])), (bi1, .inl (G.2.1 0, 6, .inl (iA B1))), (no1, .inl (G.2.1 0, 2000, .inl (iA g2_11v2))), (rw 2, .inr (4, [.ref bo2, .ref no2, .ref (G.2.2 S2), .int (iI 1), .int (iI L2_11v3)])), (bo2, .inr (5, [.ref bi2, .int (iI n2)])), (bi2, .inl (G.2.1 0, 6, .inl (iA B2))), (no2, .inl (G.2.1 0, 2000, .inl (iA g2_11v3))), (rw 3, .inr (4, [.ref bo3, .ref no3, .ref (G.2.2 S3), .int (iI 1), .int (iI L2_11v4)])), (bo3, .inr (5, [.ref bi3, .int (iI n3)])), (bi3, .inl (G.2.1 0, 6, .inl (iA B3))), (no3, .inl (G.2.1 0, 2000, .inl (iA g2_11v4))), (nh, .inr (5, [.ref na, .int (iI nn)])), (na, .inl (G.2.1 0, 40, .inl (iA nf)))] H locs := hW
                have hb_11v4 := BrkR_b hz_11v4_0 hnn
                refine lv_bipush (v := iI (-4)) C.1 C.2.1 dX10_may_14 (by decide +kernel) ?_
                refine z_icmp_ne (tgt := 25) C dX10_may_16 (by decide) (by omega) (fun c_16 => ?_) (fun c_16 => ?_)
                ·
                  refine lv_iinc (v := iI 4) (lv' := [(2, .int (iI 4)), (1, .int (iI 0)), (0, .ref x)]) C.1 C.2.1 dX10_may_25 hl (k := 0) rfl (iI_add _ _) (by decide) rfl (fun ls hl => ?_)
                  refine lv_goto (tgt := 4) C.1 C.2.1 dX10_may_28 (by decide) ?_
                  refine lv_iload_n C.1 C.2.1 dX10_may_4 rfl (lv_at hl 0 rfl) ?_
                  refine lv_iconst (v := iI 4) C.1 C.2.1 dX10_may_5 rfl ?_
                  refine z_icmp_ge (tgt := 31) C dX10_may_6 (by decide) (by omega) (fun c_6 => ?_) (fun c_6 => ?_)
                  ·
                    refine lv_iload_n C.1 C.2.1 dX10_may_31 rfl (lv_at hl 1 rfl) ?_
                    rw [hQ]
                    have hP9 : ∃ z : Int, (some (Value.int (iI 0))) = some (.int (iI z)) ∧ (∃ b0 b1 b2 b3, BrkR g2_11 L2_11 nf nn b0 ∧ BrkR g2_11v2 L2_11v2 nf nn b1 ∧ BrkR g2_11v3 L2_11v3 nf nn b2 ∧ BrkR g2_11v4 L2_11v4 nf nn b3 ∧ z = (if b0 = -4 then 1 else 0) + (if b1 = -4 then 2 else 0) + (if b2 = -4 then 4 else 0) + (if b3 = -4 then 8 else 0)) ∧ (RowR S0 n0 B0 L2_11 g2_11) ∧ (BD g2_11) ∧ (RowR S1 n1 B1 L2_11v2 g2_11v2) ∧ (BD g2_11v2) ∧ (RowR S2 n2 B2 L2_11v3 g2_11v3) ∧ (BD g2_11v3) ∧ (RowR S3 n3 B3 L2_11v4 g2_11v4) ∧ (BD g2_11v4) ∧ (BD f2_11v4) ∧ (BD e2_11v4) := ⟨_, rfl, ⟨_, _, _, _, hz_11_0, hz_11v2_0, hz_11v3_0, hz_11v4_0, by (repeat' split) <;> omega⟩, hz_11_2, hz_11_5, hz_11v2_2, hz_11v2_5, hz_11v3_2, hz_11v3_5, hz_11v4_2, hz_11v4_5, hz_11v4_3, hz_11v4_4⟩
                    exact z_iret C hr hlocks hW (f2_11v4, e2_11v4, L2_11, g2_11, L2_11v2, g2_11v2, L2_11v3, g2_11v3, L2_11v4, g2_11v4) rfl hP9 dX10_may_32
                  ·
                    exfalso; exact absurd c_6 (by decide)
                ·
                  refine lv_iload_n C.1 C.2.1 dX10_may_19 rfl (lv_at hl 1 rfl) ?_
                  refine lv_iconst (v := iI 1) C.1 C.2.1 dX10_may_20 rfl ?_
                  refine lv_iload_n C.1 C.2.1 dX10_may_21 rfl (lv_at hl 0 rfl) ?_
                  refine z_ishl (z := 8) C (by decide) dX10_may_22 ?_
                  refine z_ior (z := 8) C (by decide) dX10_may_23 ?_
                  refine lv_istore_n (lv' := [(1, .int (iI 8)), (2, .int (iI 3)), (0, .ref x)]) C.1 C.2.1 dX10_may_24 rfl hl (by decide) rfl (fun ls hl => ?_)
                  refine lv_iinc (v := iI 4) (lv' := [(2, .int (iI 4)), (1, .int (iI 8)), (0, .ref x)]) C.1 C.2.1 dX10_may_25 hl (k := 1) rfl (iI_add _ _) (by decide) rfl (fun ls hl => ?_)
                  refine lv_goto (tgt := 4) C.1 C.2.1 dX10_may_28 (by decide) ?_
                  refine lv_iload_n C.1 C.2.1 dX10_may_4 rfl (lv_at hl 0 rfl) ?_
                  refine lv_iconst (v := iI 4) C.1 C.2.1 dX10_may_5 rfl ?_
                  refine z_icmp_ge (tgt := 31) C dX10_may_6 (by decide) (by omega) (fun c_6 => ?_) (fun c_6 => ?_)
                  ·
                    refine lv_iload_n C.1 C.2.1 dX10_may_31 rfl (lv_at hl 1 rfl) ?_
                    rw [hQ]
                    have hP9 : ∃ z : Int, (some (Value.int (iI 8))) = some (.int (iI z)) ∧ (∃ b0 b1 b2 b3, BrkR g2_11 L2_11 nf nn b0 ∧ BrkR g2_11v2 L2_11v2 nf nn b1 ∧ BrkR g2_11v3 L2_11v3 nf nn b2 ∧ BrkR g2_11v4 L2_11v4 nf nn b3 ∧ z = (if b0 = -4 then 1 else 0) + (if b1 = -4 then 2 else 0) + (if b2 = -4 then 4 else 0) + (if b3 = -4 then 8 else 0)) ∧ (RowR S0 n0 B0 L2_11 g2_11) ∧ (BD g2_11) ∧ (RowR S1 n1 B1 L2_11v2 g2_11v2) ∧ (BD g2_11v2) ∧ (RowR S2 n2 B2 L2_11v3 g2_11v3) ∧ (BD g2_11v3) ∧ (RowR S3 n3 B3 L2_11v4 g2_11v4) ∧ (BD g2_11v4) ∧ (BD f2_11v4) ∧ (BD e2_11v4) := ⟨_, rfl, ⟨_, _, _, _, hz_11_0, hz_11v2_0, hz_11v3_0, hz_11v4_0, by (repeat' split) <;> omega⟩, hz_11_2, hz_11_5, hz_11v2_2, hz_11v2_5, hz_11v3_2, hz_11v3_5, hz_11v4_2, hz_11v4_5, hz_11v4_3, hz_11v4_4⟩
                    exact z_iret C hr hlocks hW (f2_11v4, e2_11v4, L2_11, g2_11, L2_11v2, g2_11v2, L2_11v3, g2_11v3, L2_11v4, g2_11v4) rfl hP9 dX10_may_32
                  ·
                    exfalso; exact absurd c_6 (by decide)
            ·
              refine lv_iload_n C.1 C.2.1 dX10_may_19 rfl (lv_at hl 1 rfl) ?_
              refine lv_iconst (v := iI 1) C.1 C.2.1 dX10_may_20 rfl ?_
              refine lv_iload_n C.1 C.2.1 dX10_may_21 rfl (lv_at hl 0 rfl) ?_
              refine z_ishl (z := 4) C (by decide) dX10_may_22 ?_
              refine z_ior (z := 4) C (by decide) dX10_may_23 ?_
              refine lv_istore_n (lv' := [(1, .int (iI 4)), (2, .int (iI 2)), (0, .ref x)]) C.1 C.2.1 dX10_may_24 rfl hl (by decide) rfl (fun ls hl => ?_)
              refine lv_iinc (v := iI 3) (lv' := [(2, .int (iI 3)), (1, .int (iI 4)), (0, .ref x)]) C.1 C.2.1 dX10_may_25 hl (k := 1) rfl (iI_add _ _) (by decide) rfl (fun ls hl => ?_)
              refine lv_goto (tgt := 4) C.1 C.2.1 dX10_may_28 (by decide) ?_
              refine lv_iload_n C.1 C.2.1 dX10_may_4 rfl (lv_at hl 0 rfl) ?_
              refine lv_iconst (v := iI 4) C.1 C.2.1 dX10_may_5 rfl ?_
              refine z_icmp_ge (tgt := 31) C dX10_may_6 (by decide) (by omega) (fun c_6 => ?_) (fun c_6 => ?_)
              ·
                exfalso; exact absurd c_6 (by decide)
              ·
                refine lv_aload_n C.1 C.2.1 dX10_may_9 rfl (lv_at hl 2 rfl) ?_
                refine lv_iload_n C.1 C.2.1 dX10_may_10 rfl (lv_at hl 0 rfl) ?_
                refine z_call (va_runV (As := [.int (iI 3)]) (rest := []) C (c_X10_breaks l G x rg mk mh th ih nh fh sh ro ts rw 3 ma ae bo3 bi3 no3 S3 f2_11v3 e2_11v3 M3 L3 n3 B3 g3 na nn nf (by first | omega | assumption | (intros; first | rfl | omega | assumption | (and_intros <;> first | rfl | omega | assumption))) hS3 hVB3 hz_11v3_3 hz_11v3_4 hg3 hB3 hM3 hnn hnfb hnf H.size) (cwV 1 C.2.2.2.2 gX10_may_X10_breaks rfl rfl rfl (by decide +kernel) ⟨Nat.le_of_ble_eq_true rfl, Nat.le_of_ble_eq_true rfl⟩) (z_preV hK hW hA [0, 1, 2, 3, 4, 5, 18, 19, 20, 21, 22, 23] rfl (by decide) (ci := 8) (q0 := 0) rfl rfl) rfl rfl hl.1 rfl (lv_room (Nat.le_of_ble_eq_true rfl)) dX10_may_11 ⟨Nat.zero_le _, Nat.zero_le _⟩) hW hA [0, 1, 2, 3, 4, 5, 18, 19, 20, 21, 22, 23] rfl (by decide) (fun _ => rfl) (fun r u H locs hp hW => ?_)
                obtain ⟨f2_11v4, e2_11v4, L2_11v4, g2_11v4⟩ := u
                have hp : ∃ z : Int, r = some (.int (iI z)) ∧ (BrkR g2_11v4 L2_11v4 nf nn z) ∧ (z ≠ -1) ∧ (RowR S3 n3 B3 L2_11v4 g2_11v4) ∧ (BD f2_11v4) ∧ (BD e2_11v4) ∧ (BD g2_11v4) := hp
                obtain ⟨z_11v4, rfl, hz_11v4_0, hz_11v4_1, hz_11v4_2, hz_11v4_3, hz_11v4_4, hz_11v4_5⟩ := hp
                have hW : Wd G A s9.heap [(x, .inr (8, [.ref rg, .ref mk, .ref mh, .ref th, .ref ih, .ref nh, .ref fh, .ref sh, .ref ro, .ref ts])), (rg, .inl (G.2.1 3, 4, .inr (.inr (.inr (.inr (regF rw)))))), (mh, .inr (1, [.ref mk, .ref ae])), (mk, .inr (2, [.ref ma])), (ma, .inl (G.2.1 0, 60001, .inl (iA f2_11v4))), (ae, .inl (G.2.1 0, 1000, .inl (iA e2_11v4))), (rw 0, .inr (4, [.ref bo0, .ref no0, .ref (G.2.2 S0), .int (iI 1), .int (iI L2_11)])), (bo0, .inr (5, [.ref bi0, .int (iI n0)])), (bi0, .inl (G.2.1 0, 6, .inl (iA B0))), (no0, .inl (G.2.1 0, 2000, .inl (iA g2_11))), (rw 1, .inr (4, [.ref bo1, .ref no1, .ref (G.2.2 S1), .int (iI 1), .int (iI L2_11v2)])), (bo1, .inr (5, [.ref bi1, .int (iI n1)])), (bi1, .inl (G.2.1 0, 6, .inl (iA B1))), (no1, .inl (G.2.1 0, 2000, .inl (iA g2_11v2))), (rw 2, .inr (4, [.ref bo2, .ref no2, .ref (G.2.2 S2), .int (iI 1), .int (iI L2_11v3)])), (bo2, .inr (5, [.ref bi2, .int (iI n2)])), (bi2, .inl (G.2.1 0, 6, .inl (iA B2))), (no2, .inl (G.2.1 0, 2000, .inl (iA g2_11v3))), (rw 3, .inr (4, [.ref bo3, .ref no3, .ref (G.2.2 S3), .int (iI 1), .int (iI L2_11v4)])), (bo3, .inr (5, [.ref bi3, .int (iI n3)])), (bi3, .inl (G.2.1 0, 6, .inl (iA B3))), (no3, .inl (G.2.1 0, 2000, .inl (iA g2_11v4))), (nh, .inr (5, [.ref na, .int (iI nn)])), (na, .inl (G.2.1 0, 40, .inl (iA nf)))] H locs := hW
                have hb_11v4 := BrkR_b hz_11v4_0 hnn
                refine lv_bipush (v := iI (-4)) C.1 C.2.1 dX10_may_14 (by decide +kernel) ?_
                refine z_icmp_ne (tgt := 25) C dX10_may_16 (by decide) (by omega) (fun c_16 => ?_) (fun c_16 => ?_)
                ·
                  refine lv_iinc (v := iI 4) (lv' := [(2, .int (iI 4)), (1, .int (iI 4)), (0, .ref x)]) C.1 C.2.1 dX10_may_25 hl (k := 0) rfl (iI_add _ _) (by decide) rfl (fun ls hl => ?_)
                  refine lv_goto (tgt := 4) C.1 C.2.1 dX10_may_28 (by decide) ?_
                  refine lv_iload_n C.1 C.2.1 dX10_may_4 rfl (lv_at hl 0 rfl) ?_
                  refine lv_iconst (v := iI 4) C.1 C.2.1 dX10_may_5 rfl ?_
                  refine z_icmp_ge (tgt := 31) C dX10_may_6 (by decide) (by omega) (fun c_6 => ?_) (fun c_6 => ?_)
                  ·
                    refine lv_iload_n C.1 C.2.1 dX10_may_31 rfl (lv_at hl 1 rfl) ?_
                    rw [hQ]
                    have hP9 : ∃ z : Int, (some (Value.int (iI 4))) = some (.int (iI z)) ∧ (∃ b0 b1 b2 b3, BrkR g2_11 L2_11 nf nn b0 ∧ BrkR g2_11v2 L2_11v2 nf nn b1 ∧ BrkR g2_11v3 L2_11v3 nf nn b2 ∧ BrkR g2_11v4 L2_11v4 nf nn b3 ∧ z = (if b0 = -4 then 1 else 0) + (if b1 = -4 then 2 else 0) + (if b2 = -4 then 4 else 0) + (if b3 = -4 then 8 else 0)) ∧ (RowR S0 n0 B0 L2_11 g2_11) ∧ (BD g2_11) ∧ (RowR S1 n1 B1 L2_11v2 g2_11v2) ∧ (BD g2_11v2) ∧ (RowR S2 n2 B2 L2_11v3 g2_11v3) ∧ (BD g2_11v3) ∧ (RowR S3 n3 B3 L2_11v4 g2_11v4) ∧ (BD g2_11v4) ∧ (BD f2_11v4) ∧ (BD e2_11v4) := ⟨_, rfl, ⟨_, _, _, _, hz_11_0, hz_11v2_0, hz_11v3_0, hz_11v4_0, by (repeat' split) <;> omega⟩, hz_11_2, hz_11_5, hz_11v2_2, hz_11v2_5, hz_11v3_2, hz_11v3_5, hz_11v4_2, hz_11v4_5, hz_11v4_3, hz_11v4_4⟩
                    exact z_iret C hr hlocks hW (f2_11v4, e2_11v4, L2_11, g2_11, L2_11v2, g2_11v2, L2_11v3, g2_11v3, L2_11v4, g2_11v4) rfl hP9 dX10_may_32
                  ·
                    exfalso; exact absurd c_6 (by decide)
                ·
                  refine lv_iload_n C.1 C.2.1 dX10_may_19 rfl (lv_at hl 1 rfl) ?_
                  refine lv_iconst (v := iI 1) C.1 C.2.1 dX10_may_20 rfl ?_
                  refine lv_iload_n C.1 C.2.1 dX10_may_21 rfl (lv_at hl 0 rfl) ?_
                  refine z_ishl (z := 8) C (by decide) dX10_may_22 ?_
                  refine z_ior (z := 12) C (by decide) dX10_may_23 ?_
                  refine lv_istore_n (lv' := [(1, .int (iI 12)), (2, .int (iI 3)), (0, .ref x)]) C.1 C.2.1 dX10_may_24 rfl hl (by decide) rfl (fun ls hl => ?_)
                  refine lv_iinc (v := iI 4) (lv' := [(2, .int (iI 4)), (1, .int (iI 12)), (0, .ref x)]) C.1 C.2.1 dX10_may_25 hl (k := 1) rfl (iI_add _ _) (by decide) rfl (fun ls hl => ?_)
                  refine lv_goto (tgt := 4) C.1 C.2.1 dX10_may_28 (by decide) ?_
                  refine lv_iload_n C.1 C.2.1 dX10_may_4 rfl (lv_at hl 0 rfl) ?_
                  refine lv_iconst (v := iI 4) C.1 C.2.1 dX10_may_5 rfl ?_
                  refine z_icmp_ge (tgt := 31) C dX10_may_6 (by decide) (by omega) (fun c_6 => ?_) (fun c_6 => ?_)
                  ·
                    refine lv_iload_n C.1 C.2.1 dX10_may_31 rfl (lv_at hl 1 rfl) ?_
                    rw [hQ]
                    have hP9 : ∃ z : Int, (some (Value.int (iI 12))) = some (.int (iI z)) ∧ (∃ b0 b1 b2 b3, BrkR g2_11 L2_11 nf nn b0 ∧ BrkR g2_11v2 L2_11v2 nf nn b1 ∧ BrkR g2_11v3 L2_11v3 nf nn b2 ∧ BrkR g2_11v4 L2_11v4 nf nn b3 ∧ z = (if b0 = -4 then 1 else 0) + (if b1 = -4 then 2 else 0) + (if b2 = -4 then 4 else 0) + (if b3 = -4 then 8 else 0)) ∧ (RowR S0 n0 B0 L2_11 g2_11) ∧ (BD g2_11) ∧ (RowR S1 n1 B1 L2_11v2 g2_11v2) ∧ (BD g2_11v2) ∧ (RowR S2 n2 B2 L2_11v3 g2_11v3) ∧ (BD g2_11v3) ∧ (RowR S3 n3 B3 L2_11v4 g2_11v4) ∧ (BD g2_11v4) ∧ (BD f2_11v4) ∧ (BD e2_11v4) := ⟨_, rfl, ⟨_, _, _, _, hz_11_0, hz_11v2_0, hz_11v3_0, hz_11v4_0, by (repeat' split) <;> omega⟩, hz_11_2, hz_11_5, hz_11v2_2, hz_11v2_5, hz_11v3_2, hz_11v3_5, hz_11v4_2, hz_11v4_5, hz_11v4_3, hz_11v4_4⟩
                    exact z_iret C hr hlocks hW (f2_11v4, e2_11v4, L2_11, g2_11, L2_11v2, g2_11v2, L2_11v3, g2_11v3, L2_11v4, g2_11v4) rfl hP9 dX10_may_32
                  ·
                    exfalso; exact absurd c_6 (by decide)
        ·
          refine lv_iload_n C.1 C.2.1 dX10_may_19 rfl (lv_at hl 1 rfl) ?_
          refine lv_iconst (v := iI 1) C.1 C.2.1 dX10_may_20 rfl ?_
          refine lv_iload_n C.1 C.2.1 dX10_may_21 rfl (lv_at hl 0 rfl) ?_
          refine z_ishl (z := 2) C (by decide) dX10_may_22 ?_
          refine z_ior (z := 2) C (by decide) dX10_may_23 ?_
          refine lv_istore_n (lv' := [(1, .int (iI 2)), (2, .int (iI 1)), (0, .ref x)]) C.1 C.2.1 dX10_may_24 rfl hl (by decide) rfl (fun ls hl => ?_)
          refine lv_iinc (v := iI 2) (lv' := [(2, .int (iI 2)), (1, .int (iI 2)), (0, .ref x)]) C.1 C.2.1 dX10_may_25 hl (k := 1) rfl (iI_add _ _) (by decide) rfl (fun ls hl => ?_)
          refine lv_goto (tgt := 4) C.1 C.2.1 dX10_may_28 (by decide) ?_
          refine lv_iload_n C.1 C.2.1 dX10_may_4 rfl (lv_at hl 0 rfl) ?_
          refine lv_iconst (v := iI 4) C.1 C.2.1 dX10_may_5 rfl ?_
          refine z_icmp_ge (tgt := 31) C dX10_may_6 (by decide) (by omega) (fun c_6 => ?_) (fun c_6 => ?_)
          ·
            exfalso; exact absurd c_6 (by decide)
          ·
            refine lv_aload_n C.1 C.2.1 dX10_may_9 rfl (lv_at hl 2 rfl) ?_
            refine lv_iload_n C.1 C.2.1 dX10_may_10 rfl (lv_at hl 0 rfl) ?_
            refine z_call (va_runV (As := [.int (iI 2)]) (rest := []) C (c_X10_breaks l G x rg mk mh th ih nh fh sh ro ts rw 2 ma ae bo2 bi2 no2 S2 f2_11v2 e2_11v2 M2 L2 n2 B2 g2 na nn nf (by first | omega | assumption | (intros; first | rfl | omega | assumption | (and_intros <;> first | rfl | omega | assumption))) hS2 hVB2 hz_11v2_3 hz_11v2_4 hg2 hB2 hM2 hnn hnfb hnf H.size) (cwV 1 C.2.2.2.2 gX10_may_X10_breaks rfl rfl rfl (by decide +kernel) ⟨Nat.le_of_ble_eq_true rfl, Nat.le_of_ble_eq_true rfl⟩) (z_preV hK hW hA [0, 1, 2, 3, 4, 5, 14, 15, 16, 17, 22, 23] rfl (by decide) (ci := 8) (q0 := 0) rfl rfl) rfl rfl hl.1 rfl (lv_room (Nat.le_of_ble_eq_true rfl)) dX10_may_11 ⟨Nat.zero_le _, Nat.zero_le _⟩) hW hA [0, 1, 2, 3, 4, 5, 14, 15, 16, 17, 22, 23] rfl (by decide) (fun _ => rfl) (fun r u H locs hp hW => ?_)
            obtain ⟨f2_11v3, e2_11v3, L2_11v3, g2_11v3⟩ := u
            have hp : ∃ z : Int, r = some (.int (iI z)) ∧ (BrkR g2_11v3 L2_11v3 nf nn z) ∧ (z ≠ -1) ∧ (RowR S2 n2 B2 L2_11v3 g2_11v3) ∧ (BD f2_11v3) ∧ (BD e2_11v3) ∧ (BD g2_11v3) := hp
            obtain ⟨z_11v3, rfl, hz_11v3_0, hz_11v3_1, hz_11v3_2, hz_11v3_3, hz_11v3_4, hz_11v3_5⟩ := hp
            have hW : Wd G A s9.heap [(x, .inr (8, [.ref rg, .ref mk, .ref mh, .ref th, .ref ih, .ref nh, .ref fh, .ref sh, .ref ro, .ref ts])), (rg, .inl (G.2.1 3, 4, .inr (.inr (.inr (.inr (regF rw)))))), (mh, .inr (1, [.ref mk, .ref ae])), (mk, .inr (2, [.ref ma])), (ma, .inl (G.2.1 0, 60001, .inl (iA f2_11v3))), (ae, .inl (G.2.1 0, 1000, .inl (iA e2_11v3))), (rw 0, .inr (4, [.ref bo0, .ref no0, .ref (G.2.2 S0), .int (iI 1), .int (iI L2_11)])), (bo0, .inr (5, [.ref bi0, .int (iI n0)])), (bi0, .inl (G.2.1 0, 6, .inl (iA B0))), (no0, .inl (G.2.1 0, 2000, .inl (iA g2_11))), (rw 1, .inr (4, [.ref bo1, .ref no1, .ref (G.2.2 S1), .int (iI 1), .int (iI L2_11v2)])), (bo1, .inr (5, [.ref bi1, .int (iI n1)])), (bi1, .inl (G.2.1 0, 6, .inl (iA B1))), (no1, .inl (G.2.1 0, 2000, .inl (iA g2_11v2))), (rw 2, .inr (4, [.ref bo2, .ref no2, .ref (G.2.2 S2), .int (iI 1), .int (iI L2_11v3)])), (bo2, .inr (5, [.ref bi2, .int (iI n2)])), (bi2, .inl (G.2.1 0, 6, .inl (iA B2))), (no2, .inl (G.2.1 0, 2000, .inl (iA g2_11v3))), (rw 3, .inr (4, [.ref bo3, .ref no3, .ref (G.2.2 S3), .int (iI M3), .int (iI L3)])), (bo3, .inr (5, [.ref bi3, .int (iI n3)])), (bi3, .inl (G.2.1 0, 6, .inl (iA B3))), (no3, .inl (G.2.1 0, 2000, .inl (iA g3))), (nh, .inr (5, [.ref na, .int (iI nn)])), (na, .inl (G.2.1 0, 40, .inl (iA nf)))] H locs := hW
            have hb_11v3 := BrkR_b hz_11v3_0 hnn
            refine lv_bipush (v := iI (-4)) C.1 C.2.1 dX10_may_14 (by decide +kernel) ?_
            refine z_icmp_ne (tgt := 25) C dX10_may_16 (by decide) (by omega) (fun c_16 => ?_) (fun c_16 => ?_)
            ·
              refine lv_iinc (v := iI 3) (lv' := [(2, .int (iI 3)), (1, .int (iI 2)), (0, .ref x)]) C.1 C.2.1 dX10_may_25 hl (k := 0) rfl (iI_add _ _) (by decide) rfl (fun ls hl => ?_)
              refine lv_goto (tgt := 4) C.1 C.2.1 dX10_may_28 (by decide) ?_
              refine lv_iload_n C.1 C.2.1 dX10_may_4 rfl (lv_at hl 0 rfl) ?_
              refine lv_iconst (v := iI 4) C.1 C.2.1 dX10_may_5 rfl ?_
              refine z_icmp_ge (tgt := 31) C dX10_may_6 (by decide) (by omega) (fun c_6 => ?_) (fun c_6 => ?_)
              ·
                exfalso; exact absurd c_6 (by decide)
              ·
                refine lv_aload_n C.1 C.2.1 dX10_may_9 rfl (lv_at hl 2 rfl) ?_
                refine lv_iload_n C.1 C.2.1 dX10_may_10 rfl (lv_at hl 0 rfl) ?_
                refine z_call (va_runV (As := [.int (iI 3)]) (rest := []) C (c_X10_breaks l G x rg mk mh th ih nh fh sh ro ts rw 3 ma ae bo3 bi3 no3 S3 f2_11v3 e2_11v3 M3 L3 n3 B3 g3 na nn nf (by first | omega | assumption | (intros; first | rfl | omega | assumption | (and_intros <;> first | rfl | omega | assumption))) hS3 hVB3 hz_11v3_3 hz_11v3_4 hg3 hB3 hM3 hnn hnfb hnf H.size) (cwV 1 C.2.2.2.2 gX10_may_X10_breaks rfl rfl rfl (by decide +kernel) ⟨Nat.le_of_ble_eq_true rfl, Nat.le_of_ble_eq_true rfl⟩) (z_preV hK hW hA [0, 1, 2, 3, 4, 5, 18, 19, 20, 21, 22, 23] rfl (by decide) (ci := 8) (q0 := 0) rfl rfl) rfl rfl hl.1 rfl (lv_room (Nat.le_of_ble_eq_true rfl)) dX10_may_11 ⟨Nat.zero_le _, Nat.zero_le _⟩) hW hA [0, 1, 2, 3, 4, 5, 18, 19, 20, 21, 22, 23] rfl (by decide) (fun _ => rfl) (fun r u H locs hp hW => ?_)
                obtain ⟨f2_11v4, e2_11v4, L2_11v4, g2_11v4⟩ := u
                have hp : ∃ z : Int, r = some (.int (iI z)) ∧ (BrkR g2_11v4 L2_11v4 nf nn z) ∧ (z ≠ -1) ∧ (RowR S3 n3 B3 L2_11v4 g2_11v4) ∧ (BD f2_11v4) ∧ (BD e2_11v4) ∧ (BD g2_11v4) := hp
                obtain ⟨z_11v4, rfl, hz_11v4_0, hz_11v4_1, hz_11v4_2, hz_11v4_3, hz_11v4_4, hz_11v4_5⟩ := hp
                have hW : Wd G A s9.heap [(x, .inr (8, [.ref rg, .ref mk, .ref mh, .ref th, .ref ih, .ref nh, .ref fh, .ref sh, .ref ro, .ref ts])), (rg, .inl (G.2.1 3, 4, .inr (.inr (.inr (.inr (regF rw)))))), (mh, .inr (1, [.ref mk, .ref ae])), (mk, .inr (2, [.ref ma])), (ma, .inl (G.2.1 0, 60001, .inl (iA f2_11v4))), (ae, .inl (G.2.1 0, 1000, .inl (iA e2_11v4))), (rw 0, .inr (4, [.ref bo0, .ref no0, .ref (G.2.2 S0), .int (iI 1), .int (iI L2_11)])), (bo0, .inr (5, [.ref bi0, .int (iI n0)])), (bi0, .inl (G.2.1 0, 6, .inl (iA B0))), (no0, .inl (G.2.1 0, 2000, .inl (iA g2_11))), (rw 1, .inr (4, [.ref bo1, .ref no1, .ref (G.2.2 S1), .int (iI 1), .int (iI L2_11v2)])), (bo1, .inr (5, [.ref bi1, .int (iI n1)])), (bi1, .inl (G.2.1 0, 6, .inl (iA B1))), (no1, .inl (G.2.1 0, 2000, .inl (iA g2_11v2))), (rw 2, .inr (4, [.ref bo2, .ref no2, .ref (G.2.2 S2), .int (iI 1), .int (iI L2_11v3)])), (bo2, .inr (5, [.ref bi2, .int (iI n2)])), (bi2, .inl (G.2.1 0, 6, .inl (iA B2))), (no2, .inl (G.2.1 0, 2000, .inl (iA g2_11v3))), (rw 3, .inr (4, [.ref bo3, .ref no3, .ref (G.2.2 S3), .int (iI 1), .int (iI L2_11v4)])), (bo3, .inr (5, [.ref bi3, .int (iI n3)])), (bi3, .inl (G.2.1 0, 6, .inl (iA B3))), (no3, .inl (G.2.1 0, 2000, .inl (iA g2_11v4))), (nh, .inr (5, [.ref na, .int (iI nn)])), (na, .inl (G.2.1 0, 40, .inl (iA nf)))] H locs := hW
                have hb_11v4 := BrkR_b hz_11v4_0 hnn
                refine lv_bipush (v := iI (-4)) C.1 C.2.1 dX10_may_14 (by decide +kernel) ?_
                refine z_icmp_ne (tgt := 25) C dX10_may_16 (by decide) (by omega) (fun c_16 => ?_) (fun c_16 => ?_)
                ·
                  refine lv_iinc (v := iI 4) (lv' := [(2, .int (iI 4)), (1, .int (iI 2)), (0, .ref x)]) C.1 C.2.1 dX10_may_25 hl (k := 0) rfl (iI_add _ _) (by decide) rfl (fun ls hl => ?_)
                  refine lv_goto (tgt := 4) C.1 C.2.1 dX10_may_28 (by decide) ?_
                  refine lv_iload_n C.1 C.2.1 dX10_may_4 rfl (lv_at hl 0 rfl) ?_
                  refine lv_iconst (v := iI 4) C.1 C.2.1 dX10_may_5 rfl ?_
                  refine z_icmp_ge (tgt := 31) C dX10_may_6 (by decide) (by omega) (fun c_6 => ?_) (fun c_6 => ?_)
                  ·
                    refine lv_iload_n C.1 C.2.1 dX10_may_31 rfl (lv_at hl 1 rfl) ?_
                    rw [hQ]
                    have hP9 : ∃ z : Int, (some (Value.int (iI 2))) = some (.int (iI z)) ∧ (∃ b0 b1 b2 b3, BrkR g2_11 L2_11 nf nn b0 ∧ BrkR g2_11v2 L2_11v2 nf nn b1 ∧ BrkR g2_11v3 L2_11v3 nf nn b2 ∧ BrkR g2_11v4 L2_11v4 nf nn b3 ∧ z = (if b0 = -4 then 1 else 0) + (if b1 = -4 then 2 else 0) + (if b2 = -4 then 4 else 0) + (if b3 = -4 then 8 else 0)) ∧ (RowR S0 n0 B0 L2_11 g2_11) ∧ (BD g2_11) ∧ (RowR S1 n1 B1 L2_11v2 g2_11v2) ∧ (BD g2_11v2) ∧ (RowR S2 n2 B2 L2_11v3 g2_11v3) ∧ (BD g2_11v3) ∧ (RowR S3 n3 B3 L2_11v4 g2_11v4) ∧ (BD g2_11v4) ∧ (BD f2_11v4) ∧ (BD e2_11v4) := ⟨_, rfl, ⟨_, _, _, _, hz_11_0, hz_11v2_0, hz_11v3_0, hz_11v4_0, by (repeat' split) <;> omega⟩, hz_11_2, hz_11_5, hz_11v2_2, hz_11v2_5, hz_11v3_2, hz_11v3_5, hz_11v4_2, hz_11v4_5, hz_11v4_3, hz_11v4_4⟩
                    exact z_iret C hr hlocks hW (f2_11v4, e2_11v4, L2_11, g2_11, L2_11v2, g2_11v2, L2_11v3, g2_11v3, L2_11v4, g2_11v4) rfl hP9 dX10_may_32
                  ·
                    exfalso; exact absurd c_6 (by decide)
                ·
                  refine lv_iload_n C.1 C.2.1 dX10_may_19 rfl (lv_at hl 1 rfl) ?_
                  refine lv_iconst (v := iI 1) C.1 C.2.1 dX10_may_20 rfl ?_
                  refine lv_iload_n C.1 C.2.1 dX10_may_21 rfl (lv_at hl 0 rfl) ?_
                  refine z_ishl (z := 8) C (by decide) dX10_may_22 ?_
                  refine z_ior (z := 10) C (by decide) dX10_may_23 ?_
                  refine lv_istore_n (lv' := [(1, .int (iI 10)), (2, .int (iI 3)), (0, .ref x)]) C.1 C.2.1 dX10_may_24 rfl hl (by decide) rfl (fun ls hl => ?_)
                  refine lv_iinc (v := iI 4) (lv' := [(2, .int (iI 4)), (1, .int (iI 10)), (0, .ref x)]) C.1 C.2.1 dX10_may_25 hl (k := 1) rfl (iI_add _ _) (by decide) rfl (fun ls hl => ?_)
                  refine lv_goto (tgt := 4) C.1 C.2.1 dX10_may_28 (by decide) ?_
                  refine lv_iload_n C.1 C.2.1 dX10_may_4 rfl (lv_at hl 0 rfl) ?_
                  refine lv_iconst (v := iI 4) C.1 C.2.1 dX10_may_5 rfl ?_
                  refine z_icmp_ge (tgt := 31) C dX10_may_6 (by decide) (by omega) (fun c_6 => ?_) (fun c_6 => ?_)
                  ·
                    refine lv_iload_n C.1 C.2.1 dX10_may_31 rfl (lv_at hl 1 rfl) ?_
                    rw [hQ]
                    have hP9 : ∃ z : Int, (some (Value.int (iI 10))) = some (.int (iI z)) ∧ (∃ b0 b1 b2 b3, BrkR g2_11 L2_11 nf nn b0 ∧ BrkR g2_11v2 L2_11v2 nf nn b1 ∧ BrkR g2_11v3 L2_11v3 nf nn b2 ∧ BrkR g2_11v4 L2_11v4 nf nn b3 ∧ z = (if b0 = -4 then 1 else 0) + (if b1 = -4 then 2 else 0) + (if b2 = -4 then 4 else 0) + (if b3 = -4 then 8 else 0)) ∧ (RowR S0 n0 B0 L2_11 g2_11) ∧ (BD g2_11) ∧ (RowR S1 n1 B1 L2_11v2 g2_11v2) ∧ (BD g2_11v2) ∧ (RowR S2 n2 B2 L2_11v3 g2_11v3) ∧ (BD g2_11v3) ∧ (RowR S3 n3 B3 L2_11v4 g2_11v4) ∧ (BD g2_11v4) ∧ (BD f2_11v4) ∧ (BD e2_11v4) := ⟨_, rfl, ⟨_, _, _, _, hz_11_0, hz_11v2_0, hz_11v3_0, hz_11v4_0, by (repeat' split) <;> omega⟩, hz_11_2, hz_11_5, hz_11v2_2, hz_11v2_5, hz_11v3_2, hz_11v3_5, hz_11v4_2, hz_11v4_5, hz_11v4_3, hz_11v4_4⟩
                    exact z_iret C hr hlocks hW (f2_11v4, e2_11v4, L2_11, g2_11, L2_11v2, g2_11v2, L2_11v3, g2_11v3, L2_11v4, g2_11v4) rfl hP9 dX10_may_32
                  ·
                    exfalso; exact absurd c_6 (by decide)
            ·
              refine lv_iload_n C.1 C.2.1 dX10_may_19 rfl (lv_at hl 1 rfl) ?_
              refine lv_iconst (v := iI 1) C.1 C.2.1 dX10_may_20 rfl ?_
              refine lv_iload_n C.1 C.2.1 dX10_may_21 rfl (lv_at hl 0 rfl) ?_
              refine z_ishl (z := 4) C (by decide) dX10_may_22 ?_
              refine z_ior (z := 6) C (by decide) dX10_may_23 ?_
              refine lv_istore_n (lv' := [(1, .int (iI 6)), (2, .int (iI 2)), (0, .ref x)]) C.1 C.2.1 dX10_may_24 rfl hl (by decide) rfl (fun ls hl => ?_)
              refine lv_iinc (v := iI 3) (lv' := [(2, .int (iI 3)), (1, .int (iI 6)), (0, .ref x)]) C.1 C.2.1 dX10_may_25 hl (k := 1) rfl (iI_add _ _) (by decide) rfl (fun ls hl => ?_)
              refine lv_goto (tgt := 4) C.1 C.2.1 dX10_may_28 (by decide) ?_
              refine lv_iload_n C.1 C.2.1 dX10_may_4 rfl (lv_at hl 0 rfl) ?_
              refine lv_iconst (v := iI 4) C.1 C.2.1 dX10_may_5 rfl ?_
              refine z_icmp_ge (tgt := 31) C dX10_may_6 (by decide) (by omega) (fun c_6 => ?_) (fun c_6 => ?_)
              ·
                exfalso; exact absurd c_6 (by decide)
              ·
                refine lv_aload_n C.1 C.2.1 dX10_may_9 rfl (lv_at hl 2 rfl) ?_
                refine lv_iload_n C.1 C.2.1 dX10_may_10 rfl (lv_at hl 0 rfl) ?_
                refine z_call (va_runV (As := [.int (iI 3)]) (rest := []) C (c_X10_breaks l G x rg mk mh th ih nh fh sh ro ts rw 3 ma ae bo3 bi3 no3 S3 f2_11v3 e2_11v3 M3 L3 n3 B3 g3 na nn nf (by first | omega | assumption | (intros; first | rfl | omega | assumption | (and_intros <;> first | rfl | omega | assumption))) hS3 hVB3 hz_11v3_3 hz_11v3_4 hg3 hB3 hM3 hnn hnfb hnf H.size) (cwV 1 C.2.2.2.2 gX10_may_X10_breaks rfl rfl rfl (by decide +kernel) ⟨Nat.le_of_ble_eq_true rfl, Nat.le_of_ble_eq_true rfl⟩) (z_preV hK hW hA [0, 1, 2, 3, 4, 5, 18, 19, 20, 21, 22, 23] rfl (by decide) (ci := 8) (q0 := 0) rfl rfl) rfl rfl hl.1 rfl (lv_room (Nat.le_of_ble_eq_true rfl)) dX10_may_11 ⟨Nat.zero_le _, Nat.zero_le _⟩) hW hA [0, 1, 2, 3, 4, 5, 18, 19, 20, 21, 22, 23] rfl (by decide) (fun _ => rfl) (fun r u H locs hp hW => ?_)
                obtain ⟨f2_11v4, e2_11v4, L2_11v4, g2_11v4⟩ := u
                have hp : ∃ z : Int, r = some (.int (iI z)) ∧ (BrkR g2_11v4 L2_11v4 nf nn z) ∧ (z ≠ -1) ∧ (RowR S3 n3 B3 L2_11v4 g2_11v4) ∧ (BD f2_11v4) ∧ (BD e2_11v4) ∧ (BD g2_11v4) := hp
                obtain ⟨z_11v4, rfl, hz_11v4_0, hz_11v4_1, hz_11v4_2, hz_11v4_3, hz_11v4_4, hz_11v4_5⟩ := hp
                have hW : Wd G A s9.heap [(x, .inr (8, [.ref rg, .ref mk, .ref mh, .ref th, .ref ih, .ref nh, .ref fh, .ref sh, .ref ro, .ref ts])), (rg, .inl (G.2.1 3, 4, .inr (.inr (.inr (.inr (regF rw)))))), (mh, .inr (1, [.ref mk, .ref ae])), (mk, .inr (2, [.ref ma])), (ma, .inl (G.2.1 0, 60001, .inl (iA f2_11v4))), (ae, .inl (G.2.1 0, 1000, .inl (iA e2_11v4))), (rw 0, .inr (4, [.ref bo0, .ref no0, .ref (G.2.2 S0), .int (iI 1), .int (iI L2_11)])), (bo0, .inr (5, [.ref bi0, .int (iI n0)])), (bi0, .inl (G.2.1 0, 6, .inl (iA B0))), (no0, .inl (G.2.1 0, 2000, .inl (iA g2_11))), (rw 1, .inr (4, [.ref bo1, .ref no1, .ref (G.2.2 S1), .int (iI 1), .int (iI L2_11v2)])), (bo1, .inr (5, [.ref bi1, .int (iI n1)])), (bi1, .inl (G.2.1 0, 6, .inl (iA B1))), (no1, .inl (G.2.1 0, 2000, .inl (iA g2_11v2))), (rw 2, .inr (4, [.ref bo2, .ref no2, .ref (G.2.2 S2), .int (iI 1), .int (iI L2_11v3)])), (bo2, .inr (5, [.ref bi2, .int (iI n2)])), (bi2, .inl (G.2.1 0, 6, .inl (iA B2))), (no2, .inl (G.2.1 0, 2000, .inl (iA g2_11v3))), (rw 3, .inr (4, [.ref bo3, .ref no3, .ref (G.2.2 S3), .int (iI 1), .int (iI L2_11v4)])), (bo3, .inr (5, [.ref bi3, .int (iI n3)])), (bi3, .inl (G.2.1 0, 6, .inl (iA B3))), (no3, .inl (G.2.1 0, 2000, .inl (iA g2_11v4))), (nh, .inr (5, [.ref na, .int (iI nn)])), (na, .inl (G.2.1 0, 40, .inl (iA nf)))] H locs := hW
                have hb_11v4 := BrkR_b hz_11v4_0 hnn
                refine lv_bipush (v := iI (-4)) C.1 C.2.1 dX10_may_14 (by decide +kernel) ?_
                refine z_icmp_ne (tgt := 25) C dX10_may_16 (by decide) (by omega) (fun c_16 => ?_) (fun c_16 => ?_)
                ·
                  refine lv_iinc (v := iI 4) (lv' := [(2, .int (iI 4)), (1, .int (iI 6)), (0, .ref x)]) C.1 C.2.1 dX10_may_25 hl (k := 0) rfl (iI_add _ _) (by decide) rfl (fun ls hl => ?_)
                  refine lv_goto (tgt := 4) C.1 C.2.1 dX10_may_28 (by decide) ?_
                  refine lv_iload_n C.1 C.2.1 dX10_may_4 rfl (lv_at hl 0 rfl) ?_
                  refine lv_iconst (v := iI 4) C.1 C.2.1 dX10_may_5 rfl ?_
                  refine z_icmp_ge (tgt := 31) C dX10_may_6 (by decide) (by omega) (fun c_6 => ?_) (fun c_6 => ?_)
                  ·
                    refine lv_iload_n C.1 C.2.1 dX10_may_31 rfl (lv_at hl 1 rfl) ?_
                    rw [hQ]
                    have hP9 : ∃ z : Int, (some (Value.int (iI 6))) = some (.int (iI z)) ∧ (∃ b0 b1 b2 b3, BrkR g2_11 L2_11 nf nn b0 ∧ BrkR g2_11v2 L2_11v2 nf nn b1 ∧ BrkR g2_11v3 L2_11v3 nf nn b2 ∧ BrkR g2_11v4 L2_11v4 nf nn b3 ∧ z = (if b0 = -4 then 1 else 0) + (if b1 = -4 then 2 else 0) + (if b2 = -4 then 4 else 0) + (if b3 = -4 then 8 else 0)) ∧ (RowR S0 n0 B0 L2_11 g2_11) ∧ (BD g2_11) ∧ (RowR S1 n1 B1 L2_11v2 g2_11v2) ∧ (BD g2_11v2) ∧ (RowR S2 n2 B2 L2_11v3 g2_11v3) ∧ (BD g2_11v3) ∧ (RowR S3 n3 B3 L2_11v4 g2_11v4) ∧ (BD g2_11v4) ∧ (BD f2_11v4) ∧ (BD e2_11v4) := ⟨_, rfl, ⟨_, _, _, _, hz_11_0, hz_11v2_0, hz_11v3_0, hz_11v4_0, by (repeat' split) <;> omega⟩, hz_11_2, hz_11_5, hz_11v2_2, hz_11v2_5, hz_11v3_2, hz_11v3_5, hz_11v4_2, hz_11v4_5, hz_11v4_3, hz_11v4_4⟩
                    exact z_iret C hr hlocks hW (f2_11v4, e2_11v4, L2_11, g2_11, L2_11v2, g2_11v2, L2_11v3, g2_11v3, L2_11v4, g2_11v4) rfl hP9 dX10_may_32
                  ·
                    exfalso; exact absurd c_6 (by decide)
                ·
                  refine lv_iload_n C.1 C.2.1 dX10_may_19 rfl (lv_at hl 1 rfl) ?_
                  refine lv_iconst (v := iI 1) C.1 C.2.1 dX10_may_20 rfl ?_
                  refine lv_iload_n C.1 C.2.1 dX10_may_21 rfl (lv_at hl 0 rfl) ?_
                  refine z_ishl (z := 8) C (by decide) dX10_may_22 ?_
                  refine z_ior (z := 14) C (by decide) dX10_may_23 ?_
                  refine lv_istore_n (lv' := [(1, .int (iI 14)), (2, .int (iI 3)), (0, .ref x)]) C.1 C.2.1 dX10_may_24 rfl hl (by decide) rfl (fun ls hl => ?_)
                  refine lv_iinc (v := iI 4) (lv' := [(2, .int (iI 4)), (1, .int (iI 14)), (0, .ref x)]) C.1 C.2.1 dX10_may_25 hl (k := 1) rfl (iI_add _ _) (by decide) rfl (fun ls hl => ?_)
                  refine lv_goto (tgt := 4) C.1 C.2.1 dX10_may_28 (by decide) ?_
                  refine lv_iload_n C.1 C.2.1 dX10_may_4 rfl (lv_at hl 0 rfl) ?_
                  refine lv_iconst (v := iI 4) C.1 C.2.1 dX10_may_5 rfl ?_
                  refine z_icmp_ge (tgt := 31) C dX10_may_6 (by decide) (by omega) (fun c_6 => ?_) (fun c_6 => ?_)
                  ·
                    refine lv_iload_n C.1 C.2.1 dX10_may_31 rfl (lv_at hl 1 rfl) ?_
                    rw [hQ]
                    have hP9 : ∃ z : Int, (some (Value.int (iI 14))) = some (.int (iI z)) ∧ (∃ b0 b1 b2 b3, BrkR g2_11 L2_11 nf nn b0 ∧ BrkR g2_11v2 L2_11v2 nf nn b1 ∧ BrkR g2_11v3 L2_11v3 nf nn b2 ∧ BrkR g2_11v4 L2_11v4 nf nn b3 ∧ z = (if b0 = -4 then 1 else 0) + (if b1 = -4 then 2 else 0) + (if b2 = -4 then 4 else 0) + (if b3 = -4 then 8 else 0)) ∧ (RowR S0 n0 B0 L2_11 g2_11) ∧ (BD g2_11) ∧ (RowR S1 n1 B1 L2_11v2 g2_11v2) ∧ (BD g2_11v2) ∧ (RowR S2 n2 B2 L2_11v3 g2_11v3) ∧ (BD g2_11v3) ∧ (RowR S3 n3 B3 L2_11v4 g2_11v4) ∧ (BD g2_11v4) ∧ (BD f2_11v4) ∧ (BD e2_11v4) := ⟨_, rfl, ⟨_, _, _, _, hz_11_0, hz_11v2_0, hz_11v3_0, hz_11v4_0, by (repeat' split) <;> omega⟩, hz_11_2, hz_11_5, hz_11v2_2, hz_11v2_5, hz_11v3_2, hz_11v3_5, hz_11v4_2, hz_11v4_5, hz_11v4_3, hz_11v4_4⟩
                    exact z_iret C hr hlocks hW (f2_11v4, e2_11v4, L2_11, g2_11, L2_11v2, g2_11v2, L2_11v3, g2_11v3, L2_11v4, g2_11v4) rfl hP9 dX10_may_32
                  ·
                    exfalso; exact absurd c_6 (by decide)
    ·
      refine lv_iload_n C.1 C.2.1 dX10_may_19 rfl (lv_at hl 1 rfl) ?_
      refine lv_iconst (v := iI 1) C.1 C.2.1 dX10_may_20 rfl ?_
      refine lv_iload_n C.1 C.2.1 dX10_may_21 rfl (lv_at hl 0 rfl) ?_
      refine z_ishl (z := 1) C (by decide) dX10_may_22 ?_
      refine z_ior (z := 1) C (by decide) dX10_may_23 ?_
      refine lv_istore_n (lv' := [(1, .int (iI 1)), (2, .int (iI 0)), (0, .ref x)]) C.1 C.2.1 dX10_may_24 rfl hl (by decide) rfl (fun ls hl => ?_)
      refine lv_iinc (v := iI 1) (lv' := [(2, .int (iI 1)), (1, .int (iI 1)), (0, .ref x)]) C.1 C.2.1 dX10_may_25 hl (k := 1) rfl (iI_add _ _) (by decide) rfl (fun ls hl => ?_)
      refine lv_goto (tgt := 4) C.1 C.2.1 dX10_may_28 (by decide) ?_
      refine lv_iload_n C.1 C.2.1 dX10_may_4 rfl (lv_at hl 0 rfl) ?_
      refine lv_iconst (v := iI 4) C.1 C.2.1 dX10_may_5 rfl ?_
      refine z_icmp_ge (tgt := 31) C dX10_may_6 (by decide) (by omega) (fun c_6 => ?_) (fun c_6 => ?_)
      ·
        exfalso; exact absurd c_6 (by decide)
      ·
        refine lv_aload_n C.1 C.2.1 dX10_may_9 rfl (lv_at hl 2 rfl) ?_
        refine lv_iload_n C.1 C.2.1 dX10_may_10 rfl (lv_at hl 0 rfl) ?_
        refine z_call (va_runV (As := [.int (iI 1)]) (rest := []) C (c_X10_breaks l G x rg mk mh th ih nh fh sh ro ts rw 1 ma ae bo1 bi1 no1 S1 f2_11 e2_11 M1 L1 n1 B1 g1 na nn nf (by first | omega | assumption | (intros; first | rfl | omega | assumption | (and_intros <;> first | rfl | omega | assumption))) hS1 hVB1 hz_11_3 hz_11_4 hg1 hB1 hM1 hnn hnfb hnf H.size) (cwV 1 C.2.2.2.2 gX10_may_X10_breaks rfl rfl rfl (by decide +kernel) ⟨Nat.le_of_ble_eq_true rfl, Nat.le_of_ble_eq_true rfl⟩) (z_preV hK hW hA [0, 1, 2, 3, 4, 5, 10, 11, 12, 13, 22, 23] rfl (by decide) (ci := 8) (q0 := 0) rfl rfl) rfl rfl hl.1 rfl (lv_room (Nat.le_of_ble_eq_true rfl)) dX10_may_11 ⟨Nat.zero_le _, Nat.zero_le _⟩) hW hA [0, 1, 2, 3, 4, 5, 10, 11, 12, 13, 22, 23] rfl (by decide) (fun _ => rfl) (fun r u H locs hp hW => ?_)
        obtain ⟨f2_11v2, e2_11v2, L2_11v2, g2_11v2⟩ := u
        have hp : ∃ z : Int, r = some (.int (iI z)) ∧ (BrkR g2_11v2 L2_11v2 nf nn z) ∧ (z ≠ -1) ∧ (RowR S1 n1 B1 L2_11v2 g2_11v2) ∧ (BD f2_11v2) ∧ (BD e2_11v2) ∧ (BD g2_11v2) := hp
        obtain ⟨z_11v2, rfl, hz_11v2_0, hz_11v2_1, hz_11v2_2, hz_11v2_3, hz_11v2_4, hz_11v2_5⟩ := hp
        have hW : Wd G A s9.heap [(x, .inr (8, [.ref rg, .ref mk, .ref mh, .ref th, .ref ih, .ref nh, .ref fh, .ref sh, .ref ro, .ref ts])), (rg, .inl (G.2.1 3, 4, .inr (.inr (.inr (.inr (regF rw)))))), (mh, .inr (1, [.ref mk, .ref ae])), (mk, .inr (2, [.ref ma])), (ma, .inl (G.2.1 0, 60001, .inl (iA f2_11v2))), (ae, .inl (G.2.1 0, 1000, .inl (iA e2_11v2))), (rw 0, .inr (4, [.ref bo0, .ref no0, .ref (G.2.2 S0), .int (iI 1), .int (iI L2_11)])), (bo0, .inr (5, [.ref bi0, .int (iI n0)])), (bi0, .inl (G.2.1 0, 6, .inl (iA B0))), (no0, .inl (G.2.1 0, 2000, .inl (iA g2_11))), (rw 1, .inr (4, [.ref bo1, .ref no1, .ref (G.2.2 S1), .int (iI 1), .int (iI L2_11v2)])), (bo1, .inr (5, [.ref bi1, .int (iI n1)])), (bi1, .inl (G.2.1 0, 6, .inl (iA B1))), (no1, .inl (G.2.1 0, 2000, .inl (iA g2_11v2))), (rw 2, .inr (4, [.ref bo2, .ref no2, .ref (G.2.2 S2), .int (iI M2), .int (iI L2)])), (bo2, .inr (5, [.ref bi2, .int (iI n2)])), (bi2, .inl (G.2.1 0, 6, .inl (iA B2))), (no2, .inl (G.2.1 0, 2000, .inl (iA g2))), (rw 3, .inr (4, [.ref bo3, .ref no3, .ref (G.2.2 S3), .int (iI M3), .int (iI L3)])), (bo3, .inr (5, [.ref bi3, .int (iI n3)])), (bi3, .inl (G.2.1 0, 6, .inl (iA B3))), (no3, .inl (G.2.1 0, 2000, .inl (iA g3))), (nh, .inr (5, [.ref na, .int (iI nn)])), (na, .inl (G.2.1 0, 40, .inl (iA nf)))] H locs := hW
        have hb_11v2 := BrkR_b hz_11v2_0 hnn
        refine lv_bipush (v := iI (-4)) C.1 C.2.1 dX10_may_14 (by decide +kernel) ?_
        refine z_icmp_ne (tgt := 25) C dX10_may_16 (by decide) (by omega) (fun c_16 => ?_) (fun c_16 => ?_)
        ·
          refine lv_iinc (v := iI 2) (lv' := [(2, .int (iI 2)), (1, .int (iI 1)), (0, .ref x)]) C.1 C.2.1 dX10_may_25 hl (k := 0) rfl (iI_add _ _) (by decide) rfl (fun ls hl => ?_)
          refine lv_goto (tgt := 4) C.1 C.2.1 dX10_may_28 (by decide) ?_
          refine lv_iload_n C.1 C.2.1 dX10_may_4 rfl (lv_at hl 0 rfl) ?_
          refine lv_iconst (v := iI 4) C.1 C.2.1 dX10_may_5 rfl ?_
          refine z_icmp_ge (tgt := 31) C dX10_may_6 (by decide) (by omega) (fun c_6 => ?_) (fun c_6 => ?_)
          ·
            exfalso; exact absurd c_6 (by decide)
          ·
            refine lv_aload_n C.1 C.2.1 dX10_may_9 rfl (lv_at hl 2 rfl) ?_
            refine lv_iload_n C.1 C.2.1 dX10_may_10 rfl (lv_at hl 0 rfl) ?_
            refine z_call (va_runV (As := [.int (iI 2)]) (rest := []) C (c_X10_breaks l G x rg mk mh th ih nh fh sh ro ts rw 2 ma ae bo2 bi2 no2 S2 f2_11v2 e2_11v2 M2 L2 n2 B2 g2 na nn nf (by first | omega | assumption | (intros; first | rfl | omega | assumption | (and_intros <;> first | rfl | omega | assumption))) hS2 hVB2 hz_11v2_3 hz_11v2_4 hg2 hB2 hM2 hnn hnfb hnf H.size) (cwV 1 C.2.2.2.2 gX10_may_X10_breaks rfl rfl rfl (by decide +kernel) ⟨Nat.le_of_ble_eq_true rfl, Nat.le_of_ble_eq_true rfl⟩) (z_preV hK hW hA [0, 1, 2, 3, 4, 5, 14, 15, 16, 17, 22, 23] rfl (by decide) (ci := 8) (q0 := 0) rfl rfl) rfl rfl hl.1 rfl (lv_room (Nat.le_of_ble_eq_true rfl)) dX10_may_11 ⟨Nat.zero_le _, Nat.zero_le _⟩) hW hA [0, 1, 2, 3, 4, 5, 14, 15, 16, 17, 22, 23] rfl (by decide) (fun _ => rfl) (fun r u H locs hp hW => ?_)
            obtain ⟨f2_11v3, e2_11v3, L2_11v3, g2_11v3⟩ := u
            have hp : ∃ z : Int, r = some (.int (iI z)) ∧ (BrkR g2_11v3 L2_11v3 nf nn z) ∧ (z ≠ -1) ∧ (RowR S2 n2 B2 L2_11v3 g2_11v3) ∧ (BD f2_11v3) ∧ (BD e2_11v3) ∧ (BD g2_11v3) := hp
            obtain ⟨z_11v3, rfl, hz_11v3_0, hz_11v3_1, hz_11v3_2, hz_11v3_3, hz_11v3_4, hz_11v3_5⟩ := hp
            have hW : Wd G A s9.heap [(x, .inr (8, [.ref rg, .ref mk, .ref mh, .ref th, .ref ih, .ref nh, .ref fh, .ref sh, .ref ro, .ref ts])), (rg, .inl (G.2.1 3, 4, .inr (.inr (.inr (.inr (regF rw)))))), (mh, .inr (1, [.ref mk, .ref ae])), (mk, .inr (2, [.ref ma])), (ma, .inl (G.2.1 0, 60001, .inl (iA f2_11v3))), (ae, .inl (G.2.1 0, 1000, .inl (iA e2_11v3))), (rw 0, .inr (4, [.ref bo0, .ref no0, .ref (G.2.2 S0), .int (iI 1), .int (iI L2_11)])), (bo0, .inr (5, [.ref bi0, .int (iI n0)])), (bi0, .inl (G.2.1 0, 6, .inl (iA B0))), (no0, .inl (G.2.1 0, 2000, .inl (iA g2_11))), (rw 1, .inr (4, [.ref bo1, .ref no1, .ref (G.2.2 S1), .int (iI 1), .int (iI L2_11v2)])), (bo1, .inr (5, [.ref bi1, .int (iI n1)])), (bi1, .inl (G.2.1 0, 6, .inl (iA B1))), (no1, .inl (G.2.1 0, 2000, .inl (iA g2_11v2))), (rw 2, .inr (4, [.ref bo2, .ref no2, .ref (G.2.2 S2), .int (iI 1), .int (iI L2_11v3)])), (bo2, .inr (5, [.ref bi2, .int (iI n2)])), (bi2, .inl (G.2.1 0, 6, .inl (iA B2))), (no2, .inl (G.2.1 0, 2000, .inl (iA g2_11v3))), (rw 3, .inr (4, [.ref bo3, .ref no3, .ref (G.2.2 S3), .int (iI M3), .int (iI L3)])), (bo3, .inr (5, [.ref bi3, .int (iI n3)])), (bi3, .inl (G.2.1 0, 6, .inl (iA B3))), (no3, .inl (G.2.1 0, 2000, .inl (iA g3))), (nh, .inr (5, [.ref na, .int (iI nn)])), (na, .inl (G.2.1 0, 40, .inl (iA nf)))] H locs := hW
            have hb_11v3 := BrkR_b hz_11v3_0 hnn
            refine lv_bipush (v := iI (-4)) C.1 C.2.1 dX10_may_14 (by decide +kernel) ?_
            refine z_icmp_ne (tgt := 25) C dX10_may_16 (by decide) (by omega) (fun c_16 => ?_) (fun c_16 => ?_)
            ·
              refine lv_iinc (v := iI 3) (lv' := [(2, .int (iI 3)), (1, .int (iI 1)), (0, .ref x)]) C.1 C.2.1 dX10_may_25 hl (k := 0) rfl (iI_add _ _) (by decide) rfl (fun ls hl => ?_)
              refine lv_goto (tgt := 4) C.1 C.2.1 dX10_may_28 (by decide) ?_
              refine lv_iload_n C.1 C.2.1 dX10_may_4 rfl (lv_at hl 0 rfl) ?_
              refine lv_iconst (v := iI 4) C.1 C.2.1 dX10_may_5 rfl ?_
              refine z_icmp_ge (tgt := 31) C dX10_may_6 (by decide) (by omega) (fun c_6 => ?_) (fun c_6 => ?_)
              ·
                exfalso; exact absurd c_6 (by decide)
              ·
                refine lv_aload_n C.1 C.2.1 dX10_may_9 rfl (lv_at hl 2 rfl) ?_
                refine lv_iload_n C.1 C.2.1 dX10_may_10 rfl (lv_at hl 0 rfl) ?_
                refine z_call (va_runV (As := [.int (iI 3)]) (rest := []) C (c_X10_breaks l G x rg mk mh th ih nh fh sh ro ts rw 3 ma ae bo3 bi3 no3 S3 f2_11v3 e2_11v3 M3 L3 n3 B3 g3 na nn nf (by first | omega | assumption | (intros; first | rfl | omega | assumption | (and_intros <;> first | rfl | omega | assumption))) hS3 hVB3 hz_11v3_3 hz_11v3_4 hg3 hB3 hM3 hnn hnfb hnf H.size) (cwV 1 C.2.2.2.2 gX10_may_X10_breaks rfl rfl rfl (by decide +kernel) ⟨Nat.le_of_ble_eq_true rfl, Nat.le_of_ble_eq_true rfl⟩) (z_preV hK hW hA [0, 1, 2, 3, 4, 5, 18, 19, 20, 21, 22, 23] rfl (by decide) (ci := 8) (q0 := 0) rfl rfl) rfl rfl hl.1 rfl (lv_room (Nat.le_of_ble_eq_true rfl)) dX10_may_11 ⟨Nat.zero_le _, Nat.zero_le _⟩) hW hA [0, 1, 2, 3, 4, 5, 18, 19, 20, 21, 22, 23] rfl (by decide) (fun _ => rfl) (fun r u H locs hp hW => ?_)
                obtain ⟨f2_11v4, e2_11v4, L2_11v4, g2_11v4⟩ := u
                have hp : ∃ z : Int, r = some (.int (iI z)) ∧ (BrkR g2_11v4 L2_11v4 nf nn z) ∧ (z ≠ -1) ∧ (RowR S3 n3 B3 L2_11v4 g2_11v4) ∧ (BD f2_11v4) ∧ (BD e2_11v4) ∧ (BD g2_11v4) := hp
                obtain ⟨z_11v4, rfl, hz_11v4_0, hz_11v4_1, hz_11v4_2, hz_11v4_3, hz_11v4_4, hz_11v4_5⟩ := hp
                have hW : Wd G A s9.heap [(x, .inr (8, [.ref rg, .ref mk, .ref mh, .ref th, .ref ih, .ref nh, .ref fh, .ref sh, .ref ro, .ref ts])), (rg, .inl (G.2.1 3, 4, .inr (.inr (.inr (.inr (regF rw)))))), (mh, .inr (1, [.ref mk, .ref ae])), (mk, .inr (2, [.ref ma])), (ma, .inl (G.2.1 0, 60001, .inl (iA f2_11v4))), (ae, .inl (G.2.1 0, 1000, .inl (iA e2_11v4))), (rw 0, .inr (4, [.ref bo0, .ref no0, .ref (G.2.2 S0), .int (iI 1), .int (iI L2_11)])), (bo0, .inr (5, [.ref bi0, .int (iI n0)])), (bi0, .inl (G.2.1 0, 6, .inl (iA B0))), (no0, .inl (G.2.1 0, 2000, .inl (iA g2_11))), (rw 1, .inr (4, [.ref bo1, .ref no1, .ref (G.2.2 S1), .int (iI 1), .int (iI L2_11v2)])), (bo1, .inr (5, [.ref bi1, .int (iI n1)])), (bi1, .inl (G.2.1 0, 6, .inl (iA B1))), (no1, .inl (G.2.1 0, 2000, .inl (iA g2_11v2))), (rw 2, .inr (4, [.ref bo2, .ref no2, .ref (G.2.2 S2), .int (iI 1), .int (iI L2_11v3)])), (bo2, .inr (5, [.ref bi2, .int (iI n2)])), (bi2, .inl (G.2.1 0, 6, .inl (iA B2))), (no2, .inl (G.2.1 0, 2000, .inl (iA g2_11v3))), (rw 3, .inr (4, [.ref bo3, .ref no3, .ref (G.2.2 S3), .int (iI 1), .int (iI L2_11v4)])), (bo3, .inr (5, [.ref bi3, .int (iI n3)])), (bi3, .inl (G.2.1 0, 6, .inl (iA B3))), (no3, .inl (G.2.1 0, 2000, .inl (iA g2_11v4))), (nh, .inr (5, [.ref na, .int (iI nn)])), (na, .inl (G.2.1 0, 40, .inl (iA nf)))] H locs := hW
                have hb_11v4 := BrkR_b hz_11v4_0 hnn
                refine lv_bipush (v := iI (-4)) C.1 C.2.1 dX10_may_14 (by decide +kernel) ?_
                refine z_icmp_ne (tgt := 25) C dX10_may_16 (by decide) (by omega) (fun c_16 => ?_) (fun c_16 => ?_)
                ·
                  refine lv_iinc (v := iI 4) (lv' := [(2, .int (iI 4)), (1, .int (iI 1)), (0, .ref x)]) C.1 C.2.1 dX10_may_25 hl (k := 0) rfl (iI_add _ _) (by decide) rfl (fun ls hl => ?_)
                  refine lv_goto (tgt := 4) C.1 C.2.1 dX10_may_28 (by decide) ?_
                  refine lv_iload_n C.1 C.2.1 dX10_may_4 rfl (lv_at hl 0 rfl) ?_
                  refine lv_iconst (v := iI 4) C.1 C.2.1 dX10_may_5 rfl ?_
                  refine z_icmp_ge (tgt := 31) C dX10_may_6 (by decide) (by omega) (fun c_6 => ?_) (fun c_6 => ?_)
                  ·
                    refine lv_iload_n C.1 C.2.1 dX10_may_31 rfl (lv_at hl 1 rfl) ?_
                    rw [hQ]
                    have hP9 : ∃ z : Int, (some (Value.int (iI 1))) = some (.int (iI z)) ∧ (∃ b0 b1 b2 b3, BrkR g2_11 L2_11 nf nn b0 ∧ BrkR g2_11v2 L2_11v2 nf nn b1 ∧ BrkR g2_11v3 L2_11v3 nf nn b2 ∧ BrkR g2_11v4 L2_11v4 nf nn b3 ∧ z = (if b0 = -4 then 1 else 0) + (if b1 = -4 then 2 else 0) + (if b2 = -4 then 4 else 0) + (if b3 = -4 then 8 else 0)) ∧ (RowR S0 n0 B0 L2_11 g2_11) ∧ (BD g2_11) ∧ (RowR S1 n1 B1 L2_11v2 g2_11v2) ∧ (BD g2_11v2) ∧ (RowR S2 n2 B2 L2_11v3 g2_11v3) ∧ (BD g2_11v3) ∧ (RowR S3 n3 B3 L2_11v4 g2_11v4) ∧ (BD g2_11v4) ∧ (BD f2_11v4) ∧ (BD e2_11v4) := ⟨_, rfl, ⟨_, _, _, _, hz_11_0, hz_11v2_0, hz_11v3_0, hz_11v4_0, by (repeat' split) <;> omega⟩, hz_11_2, hz_11_5, hz_11v2_2, hz_11v2_5, hz_11v3_2, hz_11v3_5, hz_11v4_2, hz_11v4_5, hz_11v4_3, hz_11v4_4⟩
                    exact z_iret C hr hlocks hW (f2_11v4, e2_11v4, L2_11, g2_11, L2_11v2, g2_11v2, L2_11v3, g2_11v3, L2_11v4, g2_11v4) rfl hP9 dX10_may_32
                  ·
                    exfalso; exact absurd c_6 (by decide)
                ·
                  refine lv_iload_n C.1 C.2.1 dX10_may_19 rfl (lv_at hl 1 rfl) ?_
                  refine lv_iconst (v := iI 1) C.1 C.2.1 dX10_may_20 rfl ?_
                  refine lv_iload_n C.1 C.2.1 dX10_may_21 rfl (lv_at hl 0 rfl) ?_
                  refine z_ishl (z := 8) C (by decide) dX10_may_22 ?_
                  refine z_ior (z := 9) C (by decide) dX10_may_23 ?_
                  refine lv_istore_n (lv' := [(1, .int (iI 9)), (2, .int (iI 3)), (0, .ref x)]) C.1 C.2.1 dX10_may_24 rfl hl (by decide) rfl (fun ls hl => ?_)
                  refine lv_iinc (v := iI 4) (lv' := [(2, .int (iI 4)), (1, .int (iI 9)), (0, .ref x)]) C.1 C.2.1 dX10_may_25 hl (k := 1) rfl (iI_add _ _) (by decide) rfl (fun ls hl => ?_)
                  refine lv_goto (tgt := 4) C.1 C.2.1 dX10_may_28 (by decide) ?_
                  refine lv_iload_n C.1 C.2.1 dX10_may_4 rfl (lv_at hl 0 rfl) ?_
                  refine lv_iconst (v := iI 4) C.1 C.2.1 dX10_may_5 rfl ?_
                  refine z_icmp_ge (tgt := 31) C dX10_may_6 (by decide) (by omega) (fun c_6 => ?_) (fun c_6 => ?_)
                  ·
                    refine lv_iload_n C.1 C.2.1 dX10_may_31 rfl (lv_at hl 1 rfl) ?_
                    rw [hQ]
                    have hP9 : ∃ z : Int, (some (Value.int (iI 9))) = some (.int (iI z)) ∧ (∃ b0 b1 b2 b3, BrkR g2_11 L2_11 nf nn b0 ∧ BrkR g2_11v2 L2_11v2 nf nn b1 ∧ BrkR g2_11v3 L2_11v3 nf nn b2 ∧ BrkR g2_11v4 L2_11v4 nf nn b3 ∧ z = (if b0 = -4 then 1 else 0) + (if b1 = -4 then 2 else 0) + (if b2 = -4 then 4 else 0) + (if b3 = -4 then 8 else 0)) ∧ (RowR S0 n0 B0 L2_11 g2_11) ∧ (BD g2_11) ∧ (RowR S1 n1 B1 L2_11v2 g2_11v2) ∧ (BD g2_11v2) ∧ (RowR S2 n2 B2 L2_11v3 g2_11v3) ∧ (BD g2_11v3) ∧ (RowR S3 n3 B3 L2_11v4 g2_11v4) ∧ (BD g2_11v4) ∧ (BD f2_11v4) ∧ (BD e2_11v4) := ⟨_, rfl, ⟨_, _, _, _, hz_11_0, hz_11v2_0, hz_11v3_0, hz_11v4_0, by (repeat' split) <;> omega⟩, hz_11_2, hz_11_5, hz_11v2_2, hz_11v2_5, hz_11v3_2, hz_11v3_5, hz_11v4_2, hz_11v4_5, hz_11v4_3, hz_11v4_4⟩
                    exact z_iret C hr hlocks hW (f2_11v4, e2_11v4, L2_11, g2_11, L2_11v2, g2_11v2, L2_11v3, g2_11v3, L2_11v4, g2_11v4) rfl hP9 dX10_may_32
                  ·
                    exfalso; exact absurd c_6 (by decide)
            ·
              refine lv_iload_n C.1 C.2.1 dX10_may_19 rfl (lv_at hl 1 rfl) ?_
              refine lv_iconst (v := iI 1) C.1 C.2.1 dX10_may_20 rfl ?_
              refine lv_iload_n C.1 C.2.1 dX10_may_21 rfl (lv_at hl 0 rfl) ?_
              refine z_ishl (z := 4) C (by decide) dX10_may_22 ?_
              refine z_ior (z := 5) C (by decide) dX10_may_23 ?_
              refine lv_istore_n (lv' := [(1, .int (iI 5)), (2, .int (iI 2)), (0, .ref x)]) C.1 C.2.1 dX10_may_24 rfl hl (by decide) rfl (fun ls hl => ?_)
              refine lv_iinc (v := iI 3) (lv' := [(2, .int (iI 3)), (1, .int (iI 5)), (0, .ref x)]) C.1 C.2.1 dX10_may_25 hl (k := 1) rfl (iI_add _ _) (by decide) rfl (fun ls hl => ?_)
              refine lv_goto (tgt := 4) C.1 C.2.1 dX10_may_28 (by decide) ?_
              refine lv_iload_n C.1 C.2.1 dX10_may_4 rfl (lv_at hl 0 rfl) ?_
              refine lv_iconst (v := iI 4) C.1 C.2.1 dX10_may_5 rfl ?_
              refine z_icmp_ge (tgt := 31) C dX10_may_6 (by decide) (by omega) (fun c_6 => ?_) (fun c_6 => ?_)
              ·
                exfalso; exact absurd c_6 (by decide)
              ·
                refine lv_aload_n C.1 C.2.1 dX10_may_9 rfl (lv_at hl 2 rfl) ?_
                refine lv_iload_n C.1 C.2.1 dX10_may_10 rfl (lv_at hl 0 rfl) ?_
                refine z_call (va_runV (As := [.int (iI 3)]) (rest := []) C (c_X10_breaks l G x rg mk mh th ih nh fh sh ro ts rw 3 ma ae bo3 bi3 no3 S3 f2_11v3 e2_11v3 M3 L3 n3 B3 g3 na nn nf (by first | omega | assumption | (intros; first | rfl | omega | assumption | (and_intros <;> first | rfl | omega | assumption))) hS3 hVB3 hz_11v3_3 hz_11v3_4 hg3 hB3 hM3 hnn hnfb hnf H.size) (cwV 1 C.2.2.2.2 gX10_may_X10_breaks rfl rfl rfl (by decide +kernel) ⟨Nat.le_of_ble_eq_true rfl, Nat.le_of_ble_eq_true rfl⟩) (z_preV hK hW hA [0, 1, 2, 3, 4, 5, 18, 19, 20, 21, 22, 23] rfl (by decide) (ci := 8) (q0 := 0) rfl rfl) rfl rfl hl.1 rfl (lv_room (Nat.le_of_ble_eq_true rfl)) dX10_may_11 ⟨Nat.zero_le _, Nat.zero_le _⟩) hW hA [0, 1, 2, 3, 4, 5, 18, 19, 20, 21, 22, 23] rfl (by decide) (fun _ => rfl) (fun r u H locs hp hW => ?_)
                obtain ⟨f2_11v4, e2_11v4, L2_11v4, g2_11v4⟩ := u
                have hp : ∃ z : Int, r = some (.int (iI z)) ∧ (BrkR g2_11v4 L2_11v4 nf nn z) ∧ (z ≠ -1) ∧ (RowR S3 n3 B3 L2_11v4 g2_11v4) ∧ (BD f2_11v4) ∧ (BD e2_11v4) ∧ (BD g2_11v4) := hp
                obtain ⟨z_11v4, rfl, hz_11v4_0, hz_11v4_1, hz_11v4_2, hz_11v4_3, hz_11v4_4, hz_11v4_5⟩ := hp
                have hW : Wd G A s9.heap [(x, .inr (8, [.ref rg, .ref mk, .ref mh, .ref th, .ref ih, .ref nh, .ref fh, .ref sh, .ref ro, .ref ts])), (rg, .inl (G.2.1 3, 4, .inr (.inr (.inr (.inr (regF rw)))))), (mh, .inr (1, [.ref mk, .ref ae])), (mk, .inr (2, [.ref ma])), (ma, .inl (G.2.1 0, 60001, .inl (iA f2_11v4))), (ae, .inl (G.2.1 0, 1000, .inl (iA e2_11v4))), (rw 0, .inr (4, [.ref bo0, .ref no0, .ref (G.2.2 S0), .int (iI 1), .int (iI L2_11)])), (bo0, .inr (5, [.ref bi0, .int (iI n0)])), (bi0, .inl (G.2.1 0, 6, .inl (iA B0))), (no0, .inl (G.2.1 0, 2000, .inl (iA g2_11))), (rw 1, .inr (4, [.ref bo1, .ref no1, .ref (G.2.2 S1), .int (iI 1), .int (iI L2_11v2)])), (bo1, .inr (5, [.ref bi1, .int (iI n1)])), (bi1, .inl (G.2.1 0, 6, .inl (iA B1))), (no1, .inl (G.2.1 0, 2000, .inl (iA g2_11v2))), (rw 2, .inr (4, [.ref bo2, .ref no2, .ref (G.2.2 S2), .int (iI 1), .int (iI L2_11v3)])), (bo2, .inr (5, [.ref bi2, .int (iI n2)])), (bi2, .inl (G.2.1 0, 6, .inl (iA B2))), (no2, .inl (G.2.1 0, 2000, .inl (iA g2_11v3))), (rw 3, .inr (4, [.ref bo3, .ref no3, .ref (G.2.2 S3), .int (iI 1), .int (iI L2_11v4)])), (bo3, .inr (5, [.ref bi3, .int (iI n3)])), (bi3, .inl (G.2.1 0, 6, .inl (iA B3))), (no3, .inl (G.2.1 0, 2000, .inl (iA g2_11v4))), (nh, .inr (5, [.ref na, .int (iI nn)])), (na, .inl (G.2.1 0, 40, .inl (iA nf)))] H locs := hW
                have hb_11v4 := BrkR_b hz_11v4_0 hnn
                refine lv_bipush (v := iI (-4)) C.1 C.2.1 dX10_may_14 (by decide +kernel) ?_
                refine z_icmp_ne (tgt := 25) C dX10_may_16 (by decide) (by omega) (fun c_16 => ?_) (fun c_16 => ?_)
                ·
                  refine lv_iinc (v := iI 4) (lv' := [(2, .int (iI 4)), (1, .int (iI 5)), (0, .ref x)]) C.1 C.2.1 dX10_may_25 hl (k := 0) rfl (iI_add _ _) (by decide) rfl (fun ls hl => ?_)
                  refine lv_goto (tgt := 4) C.1 C.2.1 dX10_may_28 (by decide) ?_
                  refine lv_iload_n C.1 C.2.1 dX10_may_4 rfl (lv_at hl 0 rfl) ?_
                  refine lv_iconst (v := iI 4) C.1 C.2.1 dX10_may_5 rfl ?_
                  refine z_icmp_ge (tgt := 31) C dX10_may_6 (by decide) (by omega) (fun c_6 => ?_) (fun c_6 => ?_)
                  ·
                    refine lv_iload_n C.1 C.2.1 dX10_may_31 rfl (lv_at hl 1 rfl) ?_
                    rw [hQ]
                    have hP9 : ∃ z : Int, (some (Value.int (iI 5))) = some (.int (iI z)) ∧ (∃ b0 b1 b2 b3, BrkR g2_11 L2_11 nf nn b0 ∧ BrkR g2_11v2 L2_11v2 nf nn b1 ∧ BrkR g2_11v3 L2_11v3 nf nn b2 ∧ BrkR g2_11v4 L2_11v4 nf nn b3 ∧ z = (if b0 = -4 then 1 else 0) + (if b1 = -4 then 2 else 0) + (if b2 = -4 then 4 else 0) + (if b3 = -4 then 8 else 0)) ∧ (RowR S0 n0 B0 L2_11 g2_11) ∧ (BD g2_11) ∧ (RowR S1 n1 B1 L2_11v2 g2_11v2) ∧ (BD g2_11v2) ∧ (RowR S2 n2 B2 L2_11v3 g2_11v3) ∧ (BD g2_11v3) ∧ (RowR S3 n3 B3 L2_11v4 g2_11v4) ∧ (BD g2_11v4) ∧ (BD f2_11v4) ∧ (BD e2_11v4) := ⟨_, rfl, ⟨_, _, _, _, hz_11_0, hz_11v2_0, hz_11v3_0, hz_11v4_0, by (repeat' split) <;> omega⟩, hz_11_2, hz_11_5, hz_11v2_2, hz_11v2_5, hz_11v3_2, hz_11v3_5, hz_11v4_2, hz_11v4_5, hz_11v4_3, hz_11v4_4⟩
                    exact z_iret C hr hlocks hW (f2_11v4, e2_11v4, L2_11, g2_11, L2_11v2, g2_11v2, L2_11v3, g2_11v3, L2_11v4, g2_11v4) rfl hP9 dX10_may_32
                  ·
                    exfalso; exact absurd c_6 (by decide)
                ·
                  refine lv_iload_n C.1 C.2.1 dX10_may_19 rfl (lv_at hl 1 rfl) ?_
                  refine lv_iconst (v := iI 1) C.1 C.2.1 dX10_may_20 rfl ?_
                  refine lv_iload_n C.1 C.2.1 dX10_may_21 rfl (lv_at hl 0 rfl) ?_
                  refine z_ishl (z := 8) C (by decide) dX10_may_22 ?_
                  refine z_ior (z := 13) C (by decide) dX10_may_23 ?_
                  refine lv_istore_n (lv' := [(1, .int (iI 13)), (2, .int (iI 3)), (0, .ref x)]) C.1 C.2.1 dX10_may_24 rfl hl (by decide) rfl (fun ls hl => ?_)
                  refine lv_iinc (v := iI 4) (lv' := [(2, .int (iI 4)), (1, .int (iI 13)), (0, .ref x)]) C.1 C.2.1 dX10_may_25 hl (k := 1) rfl (iI_add _ _) (by decide) rfl (fun ls hl => ?_)
                  refine lv_goto (tgt := 4) C.1 C.2.1 dX10_may_28 (by decide) ?_
                  refine lv_iload_n C.1 C.2.1 dX10_may_4 rfl (lv_at hl 0 rfl) ?_
                  refine lv_iconst (v := iI 4) C.1 C.2.1 dX10_may_5 rfl ?_
                  refine z_icmp_ge (tgt := 31) C dX10_may_6 (by decide) (by omega) (fun c_6 => ?_) (fun c_6 => ?_)
                  ·
                    refine lv_iload_n C.1 C.2.1 dX10_may_31 rfl (lv_at hl 1 rfl) ?_
                    rw [hQ]
                    have hP9 : ∃ z : Int, (some (Value.int (iI 13))) = some (.int (iI z)) ∧ (∃ b0 b1 b2 b3, BrkR g2_11 L2_11 nf nn b0 ∧ BrkR g2_11v2 L2_11v2 nf nn b1 ∧ BrkR g2_11v3 L2_11v3 nf nn b2 ∧ BrkR g2_11v4 L2_11v4 nf nn b3 ∧ z = (if b0 = -4 then 1 else 0) + (if b1 = -4 then 2 else 0) + (if b2 = -4 then 4 else 0) + (if b3 = -4 then 8 else 0)) ∧ (RowR S0 n0 B0 L2_11 g2_11) ∧ (BD g2_11) ∧ (RowR S1 n1 B1 L2_11v2 g2_11v2) ∧ (BD g2_11v2) ∧ (RowR S2 n2 B2 L2_11v3 g2_11v3) ∧ (BD g2_11v3) ∧ (RowR S3 n3 B3 L2_11v4 g2_11v4) ∧ (BD g2_11v4) ∧ (BD f2_11v4) ∧ (BD e2_11v4) := ⟨_, rfl, ⟨_, _, _, _, hz_11_0, hz_11v2_0, hz_11v3_0, hz_11v4_0, by (repeat' split) <;> omega⟩, hz_11_2, hz_11_5, hz_11v2_2, hz_11v2_5, hz_11v3_2, hz_11v3_5, hz_11v4_2, hz_11v4_5, hz_11v4_3, hz_11v4_4⟩
                    exact z_iret C hr hlocks hW (f2_11v4, e2_11v4, L2_11, g2_11, L2_11v2, g2_11v2, L2_11v3, g2_11v3, L2_11v4, g2_11v4) rfl hP9 dX10_may_32
                  ·
                    exfalso; exact absurd c_6 (by decide)
        ·
          refine lv_iload_n C.1 C.2.1 dX10_may_19 rfl (lv_at hl 1 rfl) ?_
          refine lv_iconst (v := iI 1) C.1 C.2.1 dX10_may_20 rfl ?_
          refine lv_iload_n C.1 C.2.1 dX10_may_21 rfl (lv_at hl 0 rfl) ?_
          refine z_ishl (z := 2) C (by decide) dX10_may_22 ?_
          refine z_ior (z := 3) C (by decide) dX10_may_23 ?_
          refine lv_istore_n (lv' := [(1, .int (iI 3)), (2, .int (iI 1)), (0, .ref x)]) C.1 C.2.1 dX10_may_24 rfl hl (by decide) rfl (fun ls hl => ?_)
          refine lv_iinc (v := iI 2) (lv' := [(2, .int (iI 2)), (1, .int (iI 3)), (0, .ref x)]) C.1 C.2.1 dX10_may_25 hl (k := 1) rfl (iI_add _ _) (by decide) rfl (fun ls hl => ?_)
          refine lv_goto (tgt := 4) C.1 C.2.1 dX10_may_28 (by decide) ?_
          refine lv_iload_n C.1 C.2.1 dX10_may_4 rfl (lv_at hl 0 rfl) ?_
          refine lv_iconst (v := iI 4) C.1 C.2.1 dX10_may_5 rfl ?_
          refine z_icmp_ge (tgt := 31) C dX10_may_6 (by decide) (by omega) (fun c_6 => ?_) (fun c_6 => ?_)
          ·
            exfalso; exact absurd c_6 (by decide)
          ·
            refine lv_aload_n C.1 C.2.1 dX10_may_9 rfl (lv_at hl 2 rfl) ?_
            refine lv_iload_n C.1 C.2.1 dX10_may_10 rfl (lv_at hl 0 rfl) ?_
            refine z_call (va_runV (As := [.int (iI 2)]) (rest := []) C (c_X10_breaks l G x rg mk mh th ih nh fh sh ro ts rw 2 ma ae bo2 bi2 no2 S2 f2_11v2 e2_11v2 M2 L2 n2 B2 g2 na nn nf (by first | omega | assumption | (intros; first | rfl | omega | assumption | (and_intros <;> first | rfl | omega | assumption))) hS2 hVB2 hz_11v2_3 hz_11v2_4 hg2 hB2 hM2 hnn hnfb hnf H.size) (cwV 1 C.2.2.2.2 gX10_may_X10_breaks rfl rfl rfl (by decide +kernel) ⟨Nat.le_of_ble_eq_true rfl, Nat.le_of_ble_eq_true rfl⟩) (z_preV hK hW hA [0, 1, 2, 3, 4, 5, 14, 15, 16, 17, 22, 23] rfl (by decide) (ci := 8) (q0 := 0) rfl rfl) rfl rfl hl.1 rfl (lv_room (Nat.le_of_ble_eq_true rfl)) dX10_may_11 ⟨Nat.zero_le _, Nat.zero_le _⟩) hW hA [0, 1, 2, 3, 4, 5, 14, 15, 16, 17, 22, 23] rfl (by decide) (fun _ => rfl) (fun r u H locs hp hW => ?_)
            obtain ⟨f2_11v3, e2_11v3, L2_11v3, g2_11v3⟩ := u
            have hp : ∃ z : Int, r = some (.int (iI z)) ∧ (BrkR g2_11v3 L2_11v3 nf nn z) ∧ (z ≠ -1) ∧ (RowR S2 n2 B2 L2_11v3 g2_11v3) ∧ (BD f2_11v3) ∧ (BD e2_11v3) ∧ (BD g2_11v3) := hp
            obtain ⟨z_11v3, rfl, hz_11v3_0, hz_11v3_1, hz_11v3_2, hz_11v3_3, hz_11v3_4, hz_11v3_5⟩ := hp
            have hW : Wd G A s9.heap [(x, .inr (8, [.ref rg, .ref mk, .ref mh, .ref th, .ref ih, .ref nh, .ref fh, .ref sh, .ref ro, .ref ts])), (rg, .inl (G.2.1 3, 4, .inr (.inr (.inr (.inr (regF rw)))))), (mh, .inr (1, [.ref mk, .ref ae])), (mk, .inr (2, [.ref ma])), (ma, .inl (G.2.1 0, 60001, .inl (iA f2_11v3))), (ae, .inl (G.2.1 0, 1000, .inl (iA e2_11v3))), (rw 0, .inr (4, [.ref bo0, .ref no0, .ref (G.2.2 S0), .int (iI 1), .int (iI L2_11)])), (bo0, .inr (5, [.ref bi0, .int (iI n0)])), (bi0, .inl (G.2.1 0, 6, .inl (iA B0))), (no0, .inl (G.2.1 0, 2000, .inl (iA g2_11))), (rw 1, .inr (4, [.ref bo1, .ref no1, .ref (G.2.2 S1), .int (iI 1), .int (iI L2_11v2)])), (bo1, .inr (5, [.ref bi1, .int (iI n1)])), (bi1, .inl (G.2.1 0, 6, .inl (iA B1))), (no1, .inl (G.2.1 0, 2000, .inl (iA g2_11v2))), (rw 2, .inr (4, [.ref bo2, .ref no2, .ref (G.2.2 S2), .int (iI 1), .int (iI L2_11v3)])), (bo2, .inr (5, [.ref bi2, .int (iI n2)])), (bi2, .inl (G.2.1 0, 6, .inl (iA B2))), (no2, .inl (G.2.1 0, 2000, .inl (iA g2_11v3))), (rw 3, .inr (4, [.ref bo3, .ref no3, .ref (G.2.2 S3), .int (iI M3), .int (iI L3)])), (bo3, .inr (5, [.ref bi3, .int (iI n3)])), (bi3, .inl (G.2.1 0, 6, .inl (iA B3))), (no3, .inl (G.2.1 0, 2000, .inl (iA g3))), (nh, .inr (5, [.ref na, .int (iI nn)])), (na, .inl (G.2.1 0, 40, .inl (iA nf)))] H locs := hW
            have hb_11v3 := BrkR_b hz_11v3_0 hnn
            refine lv_bipush (v := iI (-4)) C.1 C.2.1 dX10_may_14 (by decide +kernel) ?_
            refine z_icmp_ne (tgt := 25) C dX10_may_16 (by decide) (by omega) (fun c_16 => ?_) (fun c_16 => ?_)
            ·
              refine lv_iinc (v := iI 3) (lv' := [(2, .int (iI 3)), (1, .int (iI 3)), (0, .ref x)]) C.1 C.2.1 dX10_may_25 hl (k := 0) rfl (iI_add _ _) (by decide) rfl (fun ls hl => ?_)
              refine lv_goto (tgt := 4) C.1 C.2.1 dX10_may_28 (by decide) ?_
              refine lv_iload_n C.1 C.2.1 dX10_may_4 rfl (lv_at hl 0 rfl) ?_
              refine lv_iconst (v := iI 4) C.1 C.2.1 dX10_may_5 rfl ?_
              refine z_icmp_ge (tgt := 31) C dX10_may_6 (by decide) (by omega) (fun c_6 => ?_) (fun c_6 => ?_)
              ·
                exfalso; exact absurd c_6 (by decide)
              ·
                refine lv_aload_n C.1 C.2.1 dX10_may_9 rfl (lv_at hl 2 rfl) ?_
                refine lv_iload_n C.1 C.2.1 dX10_may_10 rfl (lv_at hl 0 rfl) ?_
                refine z_call (va_runV (As := [.int (iI 3)]) (rest := []) C (c_X10_breaks l G x rg mk mh th ih nh fh sh ro ts rw 3 ma ae bo3 bi3 no3 S3 f2_11v3 e2_11v3 M3 L3 n3 B3 g3 na nn nf (by first | omega | assumption | (intros; first | rfl | omega | assumption | (and_intros <;> first | rfl | omega | assumption))) hS3 hVB3 hz_11v3_3 hz_11v3_4 hg3 hB3 hM3 hnn hnfb hnf H.size) (cwV 1 C.2.2.2.2 gX10_may_X10_breaks rfl rfl rfl (by decide +kernel) ⟨Nat.le_of_ble_eq_true rfl, Nat.le_of_ble_eq_true rfl⟩) (z_preV hK hW hA [0, 1, 2, 3, 4, 5, 18, 19, 20, 21, 22, 23] rfl (by decide) (ci := 8) (q0 := 0) rfl rfl) rfl rfl hl.1 rfl (lv_room (Nat.le_of_ble_eq_true rfl)) dX10_may_11 ⟨Nat.zero_le _, Nat.zero_le _⟩) hW hA [0, 1, 2, 3, 4, 5, 18, 19, 20, 21, 22, 23] rfl (by decide) (fun _ => rfl) (fun r u H locs hp hW => ?_)
                obtain ⟨f2_11v4, e2_11v4, L2_11v4, g2_11v4⟩ := u
                have hp : ∃ z : Int, r = some (.int (iI z)) ∧ (BrkR g2_11v4 L2_11v4 nf nn z) ∧ (z ≠ -1) ∧ (RowR S3 n3 B3 L2_11v4 g2_11v4) ∧ (BD f2_11v4) ∧ (BD e2_11v4) ∧ (BD g2_11v4) := hp
                obtain ⟨z_11v4, rfl, hz_11v4_0, hz_11v4_1, hz_11v4_2, hz_11v4_3, hz_11v4_4, hz_11v4_5⟩ := hp
                have hW : Wd G A s9.heap [(x, .inr (8, [.ref rg, .ref mk, .ref mh, .ref th, .ref ih, .ref nh, .ref fh, .ref sh, .ref ro, .ref ts])), (rg, .inl (G.2.1 3, 4, .inr (.inr (.inr (.inr (regF rw)))))), (mh, .inr (1, [.ref mk, .ref ae])), (mk, .inr (2, [.ref ma])), (ma, .inl (G.2.1 0, 60001, .inl (iA f2_11v4))), (ae, .inl (G.2.1 0, 1000, .inl (iA e2_11v4))), (rw 0, .inr (4, [.ref bo0, .ref no0, .ref (G.2.2 S0), .int (iI 1), .int (iI L2_11)])), (bo0, .inr (5, [.ref bi0, .int (iI n0)])), (bi0, .inl (G.2.1 0, 6, .inl (iA B0))), (no0, .inl (G.2.1 0, 2000, .inl (iA g2_11))), (rw 1, .inr (4, [.ref bo1, .ref no1, .ref (G.2.2 S1), .int (iI 1), .int (iI L2_11v2)])), (bo1, .inr (5, [.ref bi1, .int (iI n1)])), (bi1, .inl (G.2.1 0, 6, .inl (iA B1))), (no1, .inl (G.2.1 0, 2000, .inl (iA g2_11v2))), (rw 2, .inr (4, [.ref bo2, .ref no2, .ref (G.2.2 S2), .int (iI 1), .int (iI L2_11v3)])), (bo2, .inr (5, [.ref bi2, .int (iI n2)])), (bi2, .inl (G.2.1 0, 6, .inl (iA B2))), (no2, .inl (G.2.1 0, 2000, .inl (iA g2_11v3))), (rw 3, .inr (4, [.ref bo3, .ref no3, .ref (G.2.2 S3), .int (iI 1), .int (iI L2_11v4)])), (bo3, .inr (5, [.ref bi3, .int (iI n3)])), (bi3, .inl (G.2.1 0, 6, .inl (iA B3))), (no3, .inl (G.2.1 0, 2000, .inl (iA g2_11v4))), (nh, .inr (5, [.ref na, .int (iI nn)])), (na, .inl (G.2.1 0, 40, .inl (iA nf)))] H locs := hW
                have hb_11v4 := BrkR_b hz_11v4_0 hnn
                refine lv_bipush (v := iI (-4)) C.1 C.2.1 dX10_may_14 (by decide +kernel) ?_
                refine z_icmp_ne (tgt := 25) C dX10_may_16 (by decide) (by omega) (fun c_16 => ?_) (fun c_16 => ?_)
                ·
                  refine lv_iinc (v := iI 4) (lv' := [(2, .int (iI 4)), (1, .int (iI 3)), (0, .ref x)]) C.1 C.2.1 dX10_may_25 hl (k := 0) rfl (iI_add _ _) (by decide) rfl (fun ls hl => ?_)
                  refine lv_goto (tgt := 4) C.1 C.2.1 dX10_may_28 (by decide) ?_
                  refine lv_iload_n C.1 C.2.1 dX10_may_4 rfl (lv_at hl 0 rfl) ?_
                  refine lv_iconst (v := iI 4) C.1 C.2.1 dX10_may_5 rfl ?_
                  refine z_icmp_ge (tgt := 31) C dX10_may_6 (by decide) (by omega) (fun c_6 => ?_) (fun c_6 => ?_)
                  ·
                    refine lv_iload_n C.1 C.2.1 dX10_may_31 rfl (lv_at hl 1 rfl) ?_
                    rw [hQ]
                    have hP9 : ∃ z : Int, (some (Value.int (iI 3))) = some (.int (iI z)) ∧ (∃ b0 b1 b2 b3, BrkR g2_11 L2_11 nf nn b0 ∧ BrkR g2_11v2 L2_11v2 nf nn b1 ∧ BrkR g2_11v3 L2_11v3 nf nn b2 ∧ BrkR g2_11v4 L2_11v4 nf nn b3 ∧ z = (if b0 = -4 then 1 else 0) + (if b1 = -4 then 2 else 0) + (if b2 = -4 then 4 else 0) + (if b3 = -4 then 8 else 0)) ∧ (RowR S0 n0 B0 L2_11 g2_11) ∧ (BD g2_11) ∧ (RowR S1 n1 B1 L2_11v2 g2_11v2) ∧ (BD g2_11v2) ∧ (RowR S2 n2 B2 L2_11v3 g2_11v3) ∧ (BD g2_11v3) ∧ (RowR S3 n3 B3 L2_11v4 g2_11v4) ∧ (BD g2_11v4) ∧ (BD f2_11v4) ∧ (BD e2_11v4) := ⟨_, rfl, ⟨_, _, _, _, hz_11_0, hz_11v2_0, hz_11v3_0, hz_11v4_0, by (repeat' split) <;> omega⟩, hz_11_2, hz_11_5, hz_11v2_2, hz_11v2_5, hz_11v3_2, hz_11v3_5, hz_11v4_2, hz_11v4_5, hz_11v4_3, hz_11v4_4⟩
                    exact z_iret C hr hlocks hW (f2_11v4, e2_11v4, L2_11, g2_11, L2_11v2, g2_11v2, L2_11v3, g2_11v3, L2_11v4, g2_11v4) rfl hP9 dX10_may_32
                  ·
                    exfalso; exact absurd c_6 (by decide)
                ·
                  refine lv_iload_n C.1 C.2.1 dX10_may_19 rfl (lv_at hl 1 rfl) ?_
                  refine lv_iconst (v := iI 1) C.1 C.2.1 dX10_may_20 rfl ?_
                  refine lv_iload_n C.1 C.2.1 dX10_may_21 rfl (lv_at hl 0 rfl) ?_
                  refine z_ishl (z := 8) C (by decide) dX10_may_22 ?_
                  refine z_ior (z := 11) C (by decide) dX10_may_23 ?_
                  refine lv_istore_n (lv' := [(1, .int (iI 11)), (2, .int (iI 3)), (0, .ref x)]) C.1 C.2.1 dX10_may_24 rfl hl (by decide) rfl (fun ls hl => ?_)
                  refine lv_iinc (v := iI 4) (lv' := [(2, .int (iI 4)), (1, .int (iI 11)), (0, .ref x)]) C.1 C.2.1 dX10_may_25 hl (k := 1) rfl (iI_add _ _) (by decide) rfl (fun ls hl => ?_)
                  refine lv_goto (tgt := 4) C.1 C.2.1 dX10_may_28 (by decide) ?_
                  refine lv_iload_n C.1 C.2.1 dX10_may_4 rfl (lv_at hl 0 rfl) ?_
                  refine lv_iconst (v := iI 4) C.1 C.2.1 dX10_may_5 rfl ?_
                  refine z_icmp_ge (tgt := 31) C dX10_may_6 (by decide) (by omega) (fun c_6 => ?_) (fun c_6 => ?_)
                  ·
                    refine lv_iload_n C.1 C.2.1 dX10_may_31 rfl (lv_at hl 1 rfl) ?_
                    rw [hQ]
                    have hP9 : ∃ z : Int, (some (Value.int (iI 11))) = some (.int (iI z)) ∧ (∃ b0 b1 b2 b3, BrkR g2_11 L2_11 nf nn b0 ∧ BrkR g2_11v2 L2_11v2 nf nn b1 ∧ BrkR g2_11v3 L2_11v3 nf nn b2 ∧ BrkR g2_11v4 L2_11v4 nf nn b3 ∧ z = (if b0 = -4 then 1 else 0) + (if b1 = -4 then 2 else 0) + (if b2 = -4 then 4 else 0) + (if b3 = -4 then 8 else 0)) ∧ (RowR S0 n0 B0 L2_11 g2_11) ∧ (BD g2_11) ∧ (RowR S1 n1 B1 L2_11v2 g2_11v2) ∧ (BD g2_11v2) ∧ (RowR S2 n2 B2 L2_11v3 g2_11v3) ∧ (BD g2_11v3) ∧ (RowR S3 n3 B3 L2_11v4 g2_11v4) ∧ (BD g2_11v4) ∧ (BD f2_11v4) ∧ (BD e2_11v4) := ⟨_, rfl, ⟨_, _, _, _, hz_11_0, hz_11v2_0, hz_11v3_0, hz_11v4_0, by (repeat' split) <;> omega⟩, hz_11_2, hz_11_5, hz_11v2_2, hz_11v2_5, hz_11v3_2, hz_11v3_5, hz_11v4_2, hz_11v4_5, hz_11v4_3, hz_11v4_4⟩
                    exact z_iret C hr hlocks hW (f2_11v4, e2_11v4, L2_11, g2_11, L2_11v2, g2_11v2, L2_11v3, g2_11v3, L2_11v4, g2_11v4) rfl hP9 dX10_may_32
                  ·
                    exfalso; exact absurd c_6 (by decide)
            ·
              refine lv_iload_n C.1 C.2.1 dX10_may_19 rfl (lv_at hl 1 rfl) ?_
              refine lv_iconst (v := iI 1) C.1 C.2.1 dX10_may_20 rfl ?_
              refine lv_iload_n C.1 C.2.1 dX10_may_21 rfl (lv_at hl 0 rfl) ?_
              refine z_ishl (z := 4) C (by decide) dX10_may_22 ?_
              refine z_ior (z := 7) C (by decide) dX10_may_23 ?_
              refine lv_istore_n (lv' := [(1, .int (iI 7)), (2, .int (iI 2)), (0, .ref x)]) C.1 C.2.1 dX10_may_24 rfl hl (by decide) rfl (fun ls hl => ?_)
              refine lv_iinc (v := iI 3) (lv' := [(2, .int (iI 3)), (1, .int (iI 7)), (0, .ref x)]) C.1 C.2.1 dX10_may_25 hl (k := 1) rfl (iI_add _ _) (by decide) rfl (fun ls hl => ?_)
              refine lv_goto (tgt := 4) C.1 C.2.1 dX10_may_28 (by decide) ?_
              refine lv_iload_n C.1 C.2.1 dX10_may_4 rfl (lv_at hl 0 rfl) ?_
              refine lv_iconst (v := iI 4) C.1 C.2.1 dX10_may_5 rfl ?_
              refine z_icmp_ge (tgt := 31) C dX10_may_6 (by decide) (by omega) (fun c_6 => ?_) (fun c_6 => ?_)
              ·
                exfalso; exact absurd c_6 (by decide)
              ·
                refine lv_aload_n C.1 C.2.1 dX10_may_9 rfl (lv_at hl 2 rfl) ?_
                refine lv_iload_n C.1 C.2.1 dX10_may_10 rfl (lv_at hl 0 rfl) ?_
                refine z_call (va_runV (As := [.int (iI 3)]) (rest := []) C (c_X10_breaks l G x rg mk mh th ih nh fh sh ro ts rw 3 ma ae bo3 bi3 no3 S3 f2_11v3 e2_11v3 M3 L3 n3 B3 g3 na nn nf (by first | omega | assumption | (intros; first | rfl | omega | assumption | (and_intros <;> first | rfl | omega | assumption))) hS3 hVB3 hz_11v3_3 hz_11v3_4 hg3 hB3 hM3 hnn hnfb hnf H.size) (cwV 1 C.2.2.2.2 gX10_may_X10_breaks rfl rfl rfl (by decide +kernel) ⟨Nat.le_of_ble_eq_true rfl, Nat.le_of_ble_eq_true rfl⟩) (z_preV hK hW hA [0, 1, 2, 3, 4, 5, 18, 19, 20, 21, 22, 23] rfl (by decide) (ci := 8) (q0 := 0) rfl rfl) rfl rfl hl.1 rfl (lv_room (Nat.le_of_ble_eq_true rfl)) dX10_may_11 ⟨Nat.zero_le _, Nat.zero_le _⟩) hW hA [0, 1, 2, 3, 4, 5, 18, 19, 20, 21, 22, 23] rfl (by decide) (fun _ => rfl) (fun r u H locs hp hW => ?_)
                obtain ⟨f2_11v4, e2_11v4, L2_11v4, g2_11v4⟩ := u
                have hp : ∃ z : Int, r = some (.int (iI z)) ∧ (BrkR g2_11v4 L2_11v4 nf nn z) ∧ (z ≠ -1) ∧ (RowR S3 n3 B3 L2_11v4 g2_11v4) ∧ (BD f2_11v4) ∧ (BD e2_11v4) ∧ (BD g2_11v4) := hp
                obtain ⟨z_11v4, rfl, hz_11v4_0, hz_11v4_1, hz_11v4_2, hz_11v4_3, hz_11v4_4, hz_11v4_5⟩ := hp
                have hW : Wd G A s9.heap [(x, .inr (8, [.ref rg, .ref mk, .ref mh, .ref th, .ref ih, .ref nh, .ref fh, .ref sh, .ref ro, .ref ts])), (rg, .inl (G.2.1 3, 4, .inr (.inr (.inr (.inr (regF rw)))))), (mh, .inr (1, [.ref mk, .ref ae])), (mk, .inr (2, [.ref ma])), (ma, .inl (G.2.1 0, 60001, .inl (iA f2_11v4))), (ae, .inl (G.2.1 0, 1000, .inl (iA e2_11v4))), (rw 0, .inr (4, [.ref bo0, .ref no0, .ref (G.2.2 S0), .int (iI 1), .int (iI L2_11)])), (bo0, .inr (5, [.ref bi0, .int (iI n0)])), (bi0, .inl (G.2.1 0, 6, .inl (iA B0))), (no0, .inl (G.2.1 0, 2000, .inl (iA g2_11))), (rw 1, .inr (4, [.ref bo1, .ref no1, .ref (G.2.2 S1), .int (iI 1), .int (iI L2_11v2)])), (bo1, .inr (5, [.ref bi1, .int (iI n1)])), (bi1, .inl (G.2.1 0, 6, .inl (iA B1))), (no1, .inl (G.2.1 0, 2000, .inl (iA g2_11v2))), (rw 2, .inr (4, [.ref bo2, .ref no2, .ref (G.2.2 S2), .int (iI 1), .int (iI L2_11v3)])), (bo2, .inr (5, [.ref bi2, .int (iI n2)])), (bi2, .inl (G.2.1 0, 6, .inl (iA B2))), (no2, .inl (G.2.1 0, 2000, .inl (iA g2_11v3))), (rw 3, .inr (4, [.ref bo3, .ref no3, .ref (G.2.2 S3), .int (iI 1), .int (iI L2_11v4)])), (bo3, .inr (5, [.ref bi3, .int (iI n3)])), (bi3, .inl (G.2.1 0, 6, .inl (iA B3))), (no3, .inl (G.2.1 0, 2000, .inl (iA g2_11v4))), (nh, .inr (5, [.ref na, .int (iI nn)])), (na, .inl (G.2.1 0, 40, .inl (iA nf)))] H locs := hW
                have hb_11v4 := BrkR_b hz_11v4_0 hnn
                refine lv_bipush (v := iI (-4)) C.1 C.2.1 dX10_may_14 (by decide +kernel) ?_
                refine z_icmp_ne (tgt := 25) C dX10_may_16 (by decide) (by omega) (fun c_16 => ?_) (fun c_16 => ?_)
                ·
                  refine lv_iinc (v := iI 4) (lv' := [(2, .int (iI 4)), (1, .int (iI 7)), (0, .ref x)]) C.1 C.2.1 dX10_may_25 hl (k := 0) rfl (iI_add _ _) (by decide) rfl (fun ls hl => ?_)
                  refine lv_goto (tgt := 4) C.1 C.2.1 dX10_may_28 (by decide) ?_
                  refine lv_iload_n C.1 C.2.1 dX10_may_4 rfl (lv_at hl 0 rfl) ?_
                  refine lv_iconst (v := iI 4) C.1 C.2.1 dX10_may_5 rfl ?_
                  refine z_icmp_ge (tgt := 31) C dX10_may_6 (by decide) (by omega) (fun c_6 => ?_) (fun c_6 => ?_)
                  ·
                    refine lv_iload_n C.1 C.2.1 dX10_may_31 rfl (lv_at hl 1 rfl) ?_
                    rw [hQ]
                    have hP9 : ∃ z : Int, (some (Value.int (iI 7))) = some (.int (iI z)) ∧ (∃ b0 b1 b2 b3, BrkR g2_11 L2_11 nf nn b0 ∧ BrkR g2_11v2 L2_11v2 nf nn b1 ∧ BrkR g2_11v3 L2_11v3 nf nn b2 ∧ BrkR g2_11v4 L2_11v4 nf nn b3 ∧ z = (if b0 = -4 then 1 else 0) + (if b1 = -4 then 2 else 0) + (if b2 = -4 then 4 else 0) + (if b3 = -4 then 8 else 0)) ∧ (RowR S0 n0 B0 L2_11 g2_11) ∧ (BD g2_11) ∧ (RowR S1 n1 B1 L2_11v2 g2_11v2) ∧ (BD g2_11v2) ∧ (RowR S2 n2 B2 L2_11v3 g2_11v3) ∧ (BD g2_11v3) ∧ (RowR S3 n3 B3 L2_11v4 g2_11v4) ∧ (BD g2_11v4) ∧ (BD f2_11v4) ∧ (BD e2_11v4) := ⟨_, rfl, ⟨_, _, _, _, hz_11_0, hz_11v2_0, hz_11v3_0, hz_11v4_0, by (repeat' split) <;> omega⟩, hz_11_2, hz_11_5, hz_11v2_2, hz_11v2_5, hz_11v3_2, hz_11v3_5, hz_11v4_2, hz_11v4_5, hz_11v4_3, hz_11v4_4⟩
                    exact z_iret C hr hlocks hW (f2_11v4, e2_11v4, L2_11, g2_11, L2_11v2, g2_11v2, L2_11v3, g2_11v3, L2_11v4, g2_11v4) rfl hP9 dX10_may_32
                  ·
                    exfalso; exact absurd c_6 (by decide)
                ·
                  refine lv_iload_n C.1 C.2.1 dX10_may_19 rfl (lv_at hl 1 rfl) ?_
                  refine lv_iconst (v := iI 1) C.1 C.2.1 dX10_may_20 rfl ?_
                  refine lv_iload_n C.1 C.2.1 dX10_may_21 rfl (lv_at hl 0 rfl) ?_
                  refine z_ishl (z := 8) C (by decide) dX10_may_22 ?_
                  refine z_ior (z := 15) C (by decide) dX10_may_23 ?_
                  refine lv_istore_n (lv' := [(1, .int (iI 15)), (2, .int (iI 3)), (0, .ref x)]) C.1 C.2.1 dX10_may_24 rfl hl (by decide) rfl (fun ls hl => ?_)
                  refine lv_iinc (v := iI 4) (lv' := [(2, .int (iI 4)), (1, .int (iI 15)), (0, .ref x)]) C.1 C.2.1 dX10_may_25 hl (k := 1) rfl (iI_add _ _) (by decide) rfl (fun ls hl => ?_)
                  refine lv_goto (tgt := 4) C.1 C.2.1 dX10_may_28 (by decide) ?_
                  refine lv_iload_n C.1 C.2.1 dX10_may_4 rfl (lv_at hl 0 rfl) ?_
                  refine lv_iconst (v := iI 4) C.1 C.2.1 dX10_may_5 rfl ?_
                  refine z_icmp_ge (tgt := 31) C dX10_may_6 (by decide) (by omega) (fun c_6 => ?_) (fun c_6 => ?_)
                  ·
                    refine lv_iload_n C.1 C.2.1 dX10_may_31 rfl (lv_at hl 1 rfl) ?_
                    rw [hQ]
                    have hP9 : ∃ z : Int, (some (Value.int (iI 15))) = some (.int (iI z)) ∧ (∃ b0 b1 b2 b3, BrkR g2_11 L2_11 nf nn b0 ∧ BrkR g2_11v2 L2_11v2 nf nn b1 ∧ BrkR g2_11v3 L2_11v3 nf nn b2 ∧ BrkR g2_11v4 L2_11v4 nf nn b3 ∧ z = (if b0 = -4 then 1 else 0) + (if b1 = -4 then 2 else 0) + (if b2 = -4 then 4 else 0) + (if b3 = -4 then 8 else 0)) ∧ (RowR S0 n0 B0 L2_11 g2_11) ∧ (BD g2_11) ∧ (RowR S1 n1 B1 L2_11v2 g2_11v2) ∧ (BD g2_11v2) ∧ (RowR S2 n2 B2 L2_11v3 g2_11v3) ∧ (BD g2_11v3) ∧ (RowR S3 n3 B3 L2_11v4 g2_11v4) ∧ (BD g2_11v4) ∧ (BD f2_11v4) ∧ (BD e2_11v4) := ⟨_, rfl, ⟨_, _, _, _, hz_11_0, hz_11v2_0, hz_11v3_0, hz_11v4_0, by (repeat' split) <;> omega⟩, hz_11_2, hz_11_5, hz_11v2_2, hz_11v2_5, hz_11v3_2, hz_11v3_5, hz_11v4_2, hz_11v4_5, hz_11v4_3, hz_11v4_4⟩
                    exact z_iret C hr hlocks hW (f2_11v4, e2_11v4, L2_11, g2_11, L2_11v2, g2_11v2, L2_11v3, g2_11v3, L2_11v4, g2_11v4) rfl hP9 dX10_may_32
                  ·
                    exfalso; exact absurd c_6 (by decide)
