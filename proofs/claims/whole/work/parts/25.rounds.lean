set_option maxHeartbeats 4000000 in
set_option maxRecDepth 100000 in
/-- X4_tail -/
theorem c_X4_tail (l : Launch) (G : GG) (h : Nat) (sr : Nat) (tl : Int) (ln : Int) : MRc l yX4_tail wsX4_tail 0 G [.ref h] [(h, .inr (3, [.ref sr, .int (iI tl), .int (iI ln)]))] (fun r => ∃ z : Int, r = some (.int (iI z)) ∧ (z = tl)) := by
  refine MRc.start (own := RX4) (by decide) rfl rfl (Nat.le_of_ble_eq_true rfl) ?_
  intro p9 e9 s9 m9 args below meth c9 A Q C hK hW hA hr hlocks hQ ls hl
  have hl : lv_has ls 1 [(0, .ref h)] := hl
  have hin4 : ∀ w ∈ wsX40, w ∈ wsX4_tail := by decide +kernel
  refine lv_aload_n C.1 C.2.1 dX4_tail_0 rfl (lv_at hl 0 rfl) ?_
  refine z_get C hK hW hin4 (v := .int (iI tl)) 0 rfl rfl 1 (by decide) (C.2.2.2.2 (.fieldLink RX4 20 "TellingRows$Rounds" "tail" "I") (List.mem_of_getElem? (i := 1) rfl)) (fun _ h9 => h9) rfl dX4_tail_1 ?_
  rw [hQ]
  have hP9 : ∃ z : Int, (some (Value.int (iI tl))) = some (.int (iI z)) ∧ (z = tl) := ⟨_, rfl, (by first | omega | assumption | (intros; first | rfl | omega | assumption | (and_intros <;> first | rfl | omega | assumption)))⟩
  exact z_iretR C hr hlocks hP9 dX4_tail_4
set_option maxHeartbeats 4000000 in
set_option maxRecDepth 100000 in
/-- X4_length -/
theorem c_X4_length (l : Launch) (G : GG) (h : Nat) (sr : Nat) (tl : Int) (ln : Int) : MRc l yX4_length wsX4_length 0 G [.ref h] [(h, .inr (3, [.ref sr, .int (iI tl), .int (iI ln)]))] (fun r => ∃ z : Int, r = some (.int (iI z)) ∧ (z = ln)) := by
  refine MRc.start (own := RX4) (by decide) rfl rfl (Nat.le_of_ble_eq_true rfl) ?_
  intro p9 e9 s9 m9 args below meth c9 A Q C hK hW hA hr hlocks hQ ls hl
  have hl : lv_has ls 1 [(0, .ref h)] := hl
  have hin4 : ∀ w ∈ wsX40, w ∈ wsX4_length := by decide +kernel
  refine lv_aload_n C.1 C.2.1 dX4_length_0 rfl (lv_at hl 0 rfl) ?_
  refine z_get C hK hW hin4 (v := .int (iI ln)) 0 rfl rfl 2 (by decide) (C.2.2.2.2 (.fieldLink RX4 24 "TellingRows$Rounds" "length" "I") (List.mem_of_getElem? (i := 1) rfl)) (fun _ h9 => h9) rfl dX4_length_1 ?_
  rw [hQ]
  have hP9 : ∃ z : Int, (some (Value.int (iI ln))) = some (.int (iI z)) ∧ (z = ln) := ⟨_, rfl, (by first | omega | assumption | (intros; first | rfl | omega | assumption | (and_intros <;> first | rfl | omega | assumption)))⟩
  exact z_iretR C hr hlocks hP9 dX4_length_4
set_option maxHeartbeats 4000000 in
set_option maxRecDepth 100000 in
/-- Rounds.find -/
theorem c_X4_find (l : Launch) (G : GG) (h : Nat) (sr : Nat) (sh : Int → Nat) (sa : Int → Nat) (fh : Nat) (fa : Nat) (tl : Int) (ln : Int) (n : Int) (f : Int → Int) (N : Int → Int) (F : Int → Int → Int) (hn : 0 ≤ n ∧ n ≤ 40) (hf : BD f) (hF : ∀ i, BD (F i)) : MQc l yX4_find wsX4_find 2 G [.ref h, .ref fh] ([(h, .inr (3, [.ref sr, .int (iI tl), .int (iI ln)])), (sr, .inl (G.2.1 4, 61, .inr (.inr (.inr (.inr (regF sh)))))), (fh, .inr (5, [.ref fa, .int (iI n)])), (fa, .inl (G.2.1 0, 40, .inl (iA f)))] ++ plF G sh sa N F 61 0) (fun r (u : Int × Int × (Int → Int) × (Int → Int → Int)) => ∃ z : Int, r = some (.int (iI z)) ∧ ((z = 1 ∧ RoundR f n u.1 u.2.1) ∨ (z = 0 ∧ RoundN f n)) ∧ (∀ i, BD (u.2.2.2 i))) (fun u => ([(h, .inr (3, [.ref sr, .int (iI u.1), .int (iI u.2.1)])), (sr, .inl (G.2.1 4, 61, .inr (.inr (.inr (.inr (regF sh)))))), (fh, .inr (5, [.ref fa, .int (iI n)])), (fa, .inl (G.2.1 0, 40, .inl (iA f)))] ++ plF G sh sa u.2.2.1 u.2.2.2 61 0)) := by
  refine MQc.start (own := RX4) (by decide) rfl rfl (Nat.le_of_ble_eq_true rfl) ?_
  intro p9 e9 s9 m9 args below meth c9 A Q C hK hW hA hr hlocks hQ ls hl
  have hl : lv_has ls 4 [(0, .ref h), (1, .ref fh)] := hl
  have hin4 : ∀ w ∈ wsX40, w ∈ wsX4_find := by decide +kernel
  have hin6 : ∀ w ∈ wsX60, w ∈ wsX4_find := by decide +kernel
  refine lv_aload_n C.1 C.2.1 dX4_find_0 rfl (lv_at hl 0 rfl) ?_
  refine z_get C hK hW hin4 (v := .ref sr) 0 rfl rfl 0 (by decide) (C.2.2.2.2 (.fieldLink RX4 11 "TellingRows$Rounds" "steps" "[LTellingRows$Sequence;") (List.mem_of_getElem? (i := 1) rfl)) (fun _ h9 => h9) rfl dX4_find_1 ?_
  refine lv_iconst (v := iI 0) C.1 C.2.1 dX4_find_4 rfl ?_
  refine z_aaldq C hK hW 1 4 rfl rfl (by omega) (by omega) dX4_find_5 ?_
  rw [regF_at (by omega)]
  refine lv_aload_n C.1 C.2.1 dX4_find_6 rfl (lv_at hl 1 rfl) ?_
  refine z_call (va_runV (As := [.ref fh]) (rest := []) C (c_X6_copy l G (sh 0) (sa 0) 40 (N 0) (F 0) fh fa 40 n f (by first | omega | assumption | (intros; first | rfl | omega | assumption | (and_intros <;> first | rfl | omega | assumption))) (by first | omega | assumption | (intros; first | rfl | omega | assumption | (and_intros <;> first | rfl | omega | assumption))) (by first | omega | assumption | (intros; first | rfl | omega | assumption | (and_intros <;> first | rfl | omega | assumption))) (hF 0) hf s9.heap.size) (cwV 1 C.2.2.2.2 gX4_find_X6_copy rfl rfl rfl (by decide +kernel) ⟨Nat.le_of_ble_eq_true rfl, Nat.le_of_ble_eq_true rfl⟩) (z_preV hK hW hA [4, 5, 2, 3] rfl (by decide) (ci := 5) (q0 := 4) rfl rfl) rfl rfl hl.1 rfl (lv_room (Nat.le_of_ble_eq_true rfl)) dX4_find_7 ⟨Nat.zero_le _, Nat.zero_le _⟩) hW hA [4, 5, 2, 3] rfl (by decide) (fun _ => rfl) (fun r u H locs hp hW => ?_)
  obtain ⟨f_7, rfl⟩ : ∃ q9, q9 = u := ⟨_, rfl⟩
  have hp : r = none ∧ (BD f_7) ∧ ((∀ j, 0 ≤ j → j < n → f_7 j = f j)) := hp
  obtain ⟨rfl, hz_7_0, hz_7_1⟩ := hp
  have hW : Wd G A s9.heap ([(h, .inr (3, [.ref sr, .int (iI tl), .int (iI ln)])), (sr, .inl (G.2.1 4, 61, .inr (.inr (.inr (.inr (regF sh)))))), (fh, .inr (5, [.ref fa, .int (iI n)])), (fa, .inl (G.2.1 0, 40, .inl (iA f)))] ++ plF G sh sa (up N 0 n) (upF F 0 f_7) 61 0) H locs := (congrArg (fun w => Wd G A s9.heap w H locs) pl_cp).mp hW
  have hF1 : ∀ i, BD (upF F 0 f_7 i) := fun i => if q : i = 0 then (by rw [q, upF_s]; exact hz_7_0) else (by rw [upF_n _ _ q]; exact hF i)
  refine lv_iconst (v := iI 1) C.1 C.2.1 dX4_find_10 rfl ?_
  refine lv_istore_n (lv' := [(2, .int (iI 1)), (0, .ref h), (1, .ref fh)]) C.1 C.2.1 dX4_find_11 rfl hl (by decide) rfl (fun ls hl => ?_)
  have cut_12 : ∀ (n9 : Nat) (s : Int) (N1 : Int → Int) (F1 : Int → Int → Int), (1 ≤ s ∧ s ≤ 61) → (∀ i, BD (F1 i)) → (∀ u, 0 ≤ u → u < s → It 1 f n u.toNat (F1 u) (N1 u) ∧ (0 ≤ N1 u ∧ N1 u ≤ 40)) → (∀ u v, 0 ≤ u → u < v → v < s → ¬ Alike f n u v) → (61 - s < (n9 : Int)) → ∀ (H : Heap) (locs : List Loc) (ls : Array Slot), Wd G A s9.heap ([(h, .inr (3, [.ref sr, .int (iI tl), .int (iI ln)])), (sr, .inl (G.2.1 4, 61, .inr (.inr (.inr (.inr (regF sh)))))), (fh, .inr (5, [.ref fa, .int (iI n)])), (fa, .inl (G.2.1 0, 40, .inl (iA f)))] ++ plF G sh sa N1 F1 61 0) H locs → lv_has ls 4 [(2, .int (iI s)), (0, .ref h), (1, .ref fh)] → W p9 l e9 (rmL 2) s9 m9 args below meth c9 H locs 0 0 Q (F0 m9 12 ls []) := by
    intro n9
    induction n9 with
    | zero => intro s N1 F1 hs hF1 hSt hNo hmu; intros; exfalso; omega
    | succ n9 ih_12 =>
      intro s N1 F1 hs hF1 hSt hNo hmu H locs ls hW hl
      refine lv_iload_n C.1 C.2.1 dX4_find_12 rfl (lv_at hl 0 rfl) ?_
      refine lv_aload_n C.1 C.2.1 dX4_find_13 rfl (lv_at hl 1 rfl) ?_
      refine z_get C hK hW hin4 (v := .ref sr) 0 rfl rfl 0 (by decide) (C.2.2.2.2 (.fieldLink RX4 11 "TellingRows$Rounds" "steps" "[LTellingRows$Sequence;") (List.mem_of_getElem? (i := 1) rfl)) (fun _ h9 => h9) rfl dX4_find_14 ?_
      refine z_alen C hK hW 1 4 rfl rfl dX4_find_17 ?_
      refine z_icmp_ge (tgt := 94) C dX4_find_18 (by decide) (by omega) (fun c_18 => ?_) (fun c_18 => ?_)
      ·
        refine lv_iconst (v := iI 0) C.1 C.2.1 dX4_find_94 rfl ?_
        rw [hQ]
        have hP9 : ∃ z : Int, (some (Value.int (iI 0))) = some (.int (iI z)) ∧ ((z = 1 ∧ RoundR f n tl ln) ∨ (z = 0 ∧ RoundN f n)) ∧ (∀ i, BD (F1 i)) := ⟨_, rfl, (Or.inr ⟨rfl, fun u v u0 u1 u2 => hNo u v u0 u1 (by omega)⟩), hF1⟩
        exact z_zret C hr rfl hlocks hW (tl, ln, N1, F1) rfl hP9 dX4_find_95
      ·
        refine lv_aload_n C.1 C.2.1 dX4_find_21 rfl (lv_at hl 1 rfl) ?_
        refine z_get C hK hW hin4 (v := .ref sr) 0 rfl rfl 0 (by decide) (C.2.2.2.2 (.fieldLink RX4 11 "TellingRows$Rounds" "steps" "[LTellingRows$Sequence;") (List.mem_of_getElem? (i := 1) rfl)) (fun _ h9 => h9) rfl dX4_find_22 ?_
        refine lv_iload_n C.1 C.2.1 dX4_find_25 rfl (lv_at hl 0 rfl) ?_
        refine lv_iconst (v := iI 1) C.1 C.2.1 dX4_find_26 rfl ?_
        refine z_isub C dX4_find_27 ?_
        refine z_aaldq C hK hW 1 4 rfl rfl (by omega) (by omega) dX4_find_28 ?_
        rw [regF_at (by omega)]
        refine lv_aload_n C.1 C.2.1 dX4_find_29 rfl (lv_at hl 1 rfl) ?_
        refine z_get C hK hW hin4 (v := .ref sr) 0 rfl rfl 0 (by decide) (C.2.2.2.2 (.fieldLink RX4 11 "TellingRows$Rounds" "steps" "[LTellingRows$Sequence;") (List.mem_of_getElem? (i := 1) rfl)) (fun _ h9 => h9) rfl dX4_find_30 ?_
        refine lv_iload_n C.1 C.2.1 dX4_find_33 rfl (lv_at hl 0 rfl) ?_
        refine z_aaldq C hK hW 1 4 rfl rfl (by omega) (by omega) dX4_find_34 ?_
        rw [regF_at (by omega)]
        refine z_call (va_runS (As := [.ref (sh (s - 1)), .ref (sh s)]) (rest := []) C (c_X8_tally l G (sh (s - 1)) (sa (s - 1)) 40 (N1 (s - 1)) (F1 (s - 1)) (sh s) (sa s) 40 (N1 s) (F1 s) (by omega) (hSt (s - 1) (by omega) (by omega)).2 (hF1 (s - 1)) (by omega) (hF1 s) H.size) (va_cwS 2 C.2.2.2.2 gX4_find_X8_tally rfl rfl rfl (by decide +kernel) ⟨Nat.le_of_ble_eq_true rfl, Nat.le_of_ble_eq_true rfl⟩) (z_preS hK hW hA [4 + 2 * (s - 1).toNat, 5 + 2 * (s - 1).toNat, 4 + 2 * s.toNat, 5 + 2 * s.toNat] (pl_map2 rfl (by omega) (by omega)) (pl_nd2 (by omega) (by omega) (by omega))) rfl rfl hl.1 rfl (lv_room (Nat.le_of_ble_eq_true rfl)) dX4_find_35 ⟨Nat.zero_le _, Nat.zero_le _⟩) hW hA [4 + 2 * (s - 1).toNat, 5 + 2 * (s - 1).toNat, 4 + 2 * s.toNat, 5 + 2 * s.toNat] (pl_map2 rfl (by omega) (by omega)) (pl_nd2 (by omega) (by omega) (by omega)) (fun _ => rfl) (fun r u H locs hp hW => ?_)
        obtain ⟨m_35, g_35⟩ := u
        have hp : ∃ z : Int, r = some (.int (iI z)) ∧ ((z = 1 ∧ TalR (F1 (s - 1)) (N1 (s - 1)) g_35 m_35) ∨ (z = 0 ∧ TalB (F1 (s - 1)) (N1 (s - 1)))) ∧ (BD g_35) ∧ (0 ≤ m_35 ∧ m_35 ≤ 18) := hp
        obtain ⟨z_35, rfl, hz_35_0, hz_35_1, hz_35_2⟩ := hp
        have hW : Wd G A s9.heap ([(h, .inr (3, [.ref sr, .int (iI tl), .int (iI ln)])), (sr, .inl (G.2.1 4, 61, .inr (.inr (.inr (.inr (regF sh)))))), (fh, .inr (5, [.ref fa, .int (iI n)])), (fa, .inl (G.2.1 0, 40, .inl (iA f)))] ++ plF G sh sa (up N1 s m_35) (upF F1 s g_35) 61 0) H locs := (congrArg (fun w => Wd G A s9.heap w H locs) (pl_up2 rfl (by omega) (by omega))).mp hW
        have hIs := hSt (s - 1) (by omega) (by omega)
        refine z_if_ne (tgt := 43) C dX4_find_38 (by decide) (by omega) (fun c_38 => ?_) (fun c_38 => ?_)
        ·
          have hT := hz_35_0.elim (fun x => x.2) (fun x => absurd x.1 (by omega))
          have hIt : It 1 f n s.toNat g_35 m_35 := by rw [show s.toNat = (s - 1).toNat + 1 by omega]; exact ⟨_, _, hIs.1, Or.inl ⟨by omega, hT⟩⟩
          have hF2 : ∀ i, BD (upF F1 s g_35 i) := fun i => if q : i = s then (by rw [q, upF_s]; exact hz_35_1) else (by rw [upF_n _ _ q]; exact hF1 i)
          refine lv_iconst (v := iI 0) C.1 C.2.1 dX4_find_43 rfl ?_
          refine lv_istore_n (lv' := [(3, .int (iI 0)), (2, .int (iI s)), (0, .ref h), (1, .ref fh)]) C.1 C.2.1 dX4_find_44 rfl hl (by decide) rfl (fun ls hl => ?_)
          have cut_45 : ∀ (n9 : Nat) (e : Int), (0 ≤ e ∧ e ≤ s) → (∀ u, 0 ≤ u → u < e → ¬ Alike f n u s) → (s - e < (n9 : Int)) → ∀ (H : Heap) (locs : List Loc) (ls : Array Slot), Wd G A s9.heap ([(h, .inr (3, [.ref sr, .int (iI tl), .int (iI ln)])), (sr, .inl (G.2.1 4, 61, .inr (.inr (.inr (.inr (regF sh)))))), (fh, .inr (5, [.ref fa, .int (iI n)])), (fa, .inl (G.2.1 0, 40, .inl (iA f)))] ++ plF G sh sa (up N1 s m_35) (upF F1 s g_35) 61 0) H locs → lv_has ls 4 [(3, .int (iI e)), (2, .int (iI s)), (0, .ref h), (1, .ref fh)] → W p9 l e9 (rmL 2) s9 m9 args below meth c9 H locs 0 0 Q (F0 m9 45 ls []) := by
            intro n9
            induction n9 with
            | zero => intro e he hNe hmu; intros; exfalso; omega
            | succ n9 ih_45 =>
              intro e he hNe hmu H locs ls hW hl
              refine lv_iload_n C.1 C.2.1 dX4_find_45 rfl (lv_at hl 0 rfl) ?_
              refine lv_iload_n C.1 C.2.1 dX4_find_46 rfl (lv_at hl 1 rfl) ?_
              refine z_icmp_ge (tgt := 88) C dX4_find_47 (by decide) (by omega) (fun c_47 => ?_) (fun c_47 => ?_)
              ·
                refine lv_iinc (v := iI (s + 1)) (lv' := [(2, .int (iI (s + 1))), (3, .int (iI e)), (0, .ref h), (1, .ref fh)]) C.1 C.2.1 dX4_find_88 hl (k := 1) rfl (iI_add _ _) (by decide) rfl (fun ls hl => ?_)
                refine lv_goto (tgt := 12) C.1 C.2.1 dX4_find_91 (by decide) ?_
                exact ih_12 (s + 1) (up N1 s m_35) (upF F1 s g_35) (by first | omega | assumption | (intros; first | rfl | omega | assumption | (and_intros <;> first | rfl | omega | assumption))) hF2 (fun u u0 u1 => if q : u = s then (by rw [q, up_s, upF_s]; exact ⟨hIt, by omega⟩) else (by rw [up_n _ _ q, upF_n _ _ q]; exact hSt u u0 (by omega))) (fun u v u0 u1 u2 => if q : v = s then (by rw [q]; exact hNe u u0 (by omega)) else hNo u v u0 u1 (by omega)) (by omega) _ _ _ hW (lv_sub hl [0, 2, 3] rfl)
              ·
                refine lv_aload_n C.1 C.2.1 dX4_find_50 rfl (lv_at hl 2 rfl) ?_
                refine z_get C hK hW hin4 (v := .ref sr) 0 rfl rfl 0 (by decide) (C.2.2.2.2 (.fieldLink RX4 11 "TellingRows$Rounds" "steps" "[LTellingRows$Sequence;") (List.mem_of_getElem? (i := 1) rfl)) (fun _ h9 => h9) rfl dX4_find_51 ?_
                refine lv_iload_n C.1 C.2.1 dX4_find_54 rfl (lv_at hl 0 rfl) ?_
                refine z_aaldq C hK hW 1 4 rfl rfl (by omega) (by omega) dX4_find_55 ?_
                rw [regF_at (by omega)]
                refine lv_aload_n C.1 C.2.1 dX4_find_56 rfl (lv_at hl 2 rfl) ?_
                refine z_get C hK hW hin4 (v := .ref sr) 0 rfl rfl 0 (by decide) (C.2.2.2.2 (.fieldLink RX4 11 "TellingRows$Rounds" "steps" "[LTellingRows$Sequence;") (List.mem_of_getElem? (i := 1) rfl)) (fun _ h9 => h9) rfl dX4_find_57 ?_
                refine lv_iload_n C.1 C.2.1 dX4_find_60 rfl (lv_at hl 1 rfl) ?_
                refine z_aaldq C hK hW 1 4 rfl rfl (by omega) (by omega) dX4_find_61 ?_
                rw [regF_at (by omega)]
                refine z_callR (va_runV (As := [.ref (sh s)]) (rest := []) C (c_X6_same l G (sh e) (sa e) 40 ((up N1 s m_35) e) ((upF F1 s g_35) e) (sh s) (sa s) 40 ((up N1 s m_35) s) ((upF F1 s g_35) s) (by omega) (by rw [up_n _ _ (by omega)]; exact (hSt e (by omega) (by omega)).2) (hF2 e) (by omega) (by rw [up_s]; omega) (hF2 s) H.size) (cwV 1 C.2.2.2.2 gX4_find_X6_same rfl rfl rfl (by decide +kernel) ⟨Nat.le_of_ble_eq_true rfl, Nat.le_of_ble_eq_true rfl⟩) (z_preV hK hW hA [4 + 2 * e.toNat, 5 + 2 * e.toNat, 4 + 2 * s.toNat, 5 + 2 * s.toNat] (pl_map2 rfl (by omega) (by omega)) (pl_nd2 (by omega) (by omega) (by omega)) (ci := 5) (q0 := 4 + 2 * e.toNat) rfl (pl_h rfl (by omega))) rfl rfl hl.1 rfl (lv_room (Nat.le_of_ble_eq_true rfl)) dX4_find_62 ⟨Nat.zero_le _, Nat.zero_le _⟩) (fun r hp => ?_)
                have hp : ∃ z : Int, r = some (.int (iI z)) ∧ ((z = 1 ∧ ((up N1 s m_35) e) = ((up N1 s m_35) s) ∧ (∀ j, 0 ≤ j → j < ((up N1 s m_35) e) → ((upF F1 s g_35) e) j = ((upF F1 s g_35) s) j)) ∨ (z = 0 ∧ ¬ (((up N1 s m_35) e) = ((up N1 s m_35) s) ∧ (∀ j, 0 ≤ j → j < ((up N1 s m_35) e) → ((upF F1 s g_35) e) j = ((upF F1 s g_35) s) j)))) := hp
                obtain ⟨z_62, rfl, hz_62_0⟩ := hp
                rw [up_n _ _ (show e ≠ s by omega), up_s, upF_n _ _ (show e ≠ s by omega), upF_s] at hz_62_0
                have hIe := (hSt e (by omega) (by omega)).1
                refine z_if_eq (tgt := 82) C dX4_find_65 (by decide) (by omega) (fun c_65 => ?_) (fun c_65 => ?_)
                ·
                  refine lv_iinc (v := iI (e + 1)) (lv' := [(3, .int (iI (e + 1))), (2, .int (iI s)), (0, .ref h), (1, .ref fh)]) C.1 C.2.1 dX4_find_82 hl (k := 0) rfl (iI_add _ _) (by decide) rfl (fun ls hl => ?_)
                  refine lv_goto (tgt := 45) C.1 C.2.1 dX4_find_85 (by decide) ?_
                  exact ih_45 (e + 1) (by first | omega | assumption | (intros; first | rfl | omega | assumption | (and_intros <;> first | rfl | omega | assumption))) (fun u u0 u1 => if q : u = e then (by rw [q]; exact Alike_no hIe hIt (hz_62_0.elim (fun x => absurd x.1 (by omega)) (fun x => x.2))) else hNe u u0 (by omega)) (by omega) _ _ _ hW (lv_sub hl [0, 1, 2, 3] rfl)
                ·
                  have hsm := hz_62_0.elim (fun x => x.2) (fun x => absurd x.1 (by omega))
                  refine lv_aload_n C.1 C.2.1 dX4_find_68 rfl (lv_at hl 2 rfl) ?_
                  refine lv_iload_n C.1 C.2.1 dX4_find_69 rfl (lv_at hl 0 rfl) ?_
                  refine z_put C hK hW hin4 tyX4 tyX4_ok nmX4 0 rfl rfl 1 (by decide) (C.2.2.2.2 (.fieldLink RX4 20 "TellingRows$Rounds" "tail" "I") (List.mem_of_getElem? (i := 2) rfl)) (fun _ h9 => h9) rfl rfl rfl (Nat.le_of_ble_eq_true rfl) dX4_find_70 (fun H locs hW => ?_)
                  have hW : Wd G A s9.heap ([(h, .inr (3, [.ref sr, .int (iI e), .int (iI ln)])), (sr, .inl (G.2.1 4, 61, .inr (.inr (.inr (.inr (regF sh)))))), (fh, .inr (5, [.ref fa, .int (iI n)])), (fa, .inl (G.2.1 0, 40, .inl (iA f)))] ++ plF G sh sa (up N1 s m_35) (upF F1 s g_35) 61 0) H locs := hW
                  refine lv_aload_n C.1 C.2.1 dX4_find_73 rfl (lv_at hl 2 rfl) ?_
                  refine lv_iload_n C.1 C.2.1 dX4_find_74 rfl (lv_at hl 1 rfl) ?_
                  refine lv_iload_n C.1 C.2.1 dX4_find_75 rfl (lv_at hl 0 rfl) ?_
                  refine z_isub C dX4_find_76 ?_
                  refine z_put C hK hW hin4 tyX4 tyX4_ok nmX4 0 rfl rfl 2 (by decide) (C.2.2.2.2 (.fieldLink RX4 24 "TellingRows$Rounds" "length" "I") (List.mem_of_getElem? (i := 3) rfl)) (fun _ h9 => h9) rfl rfl rfl (Nat.le_of_ble_eq_true rfl) dX4_find_77 (fun H locs hW => ?_)
                  have hW : Wd G A s9.heap ([(h, .inr (3, [.ref sr, .int (iI e), .int (iI (s - e))])), (sr, .inl (G.2.1 4, 61, .inr (.inr (.inr (.inr (regF sh)))))), (fh, .inr (5, [.ref fa, .int (iI n)])), (fa, .inl (G.2.1 0, 40, .inl (iA f)))] ++ plF G sh sa (up N1 s m_35) (upF F1 s g_35) 61 0) H locs := hW
                  refine lv_iconst (v := iI 1) C.1 C.2.1 dX4_find_80 rfl ?_
                  rw [hQ]
                  have hP9 : ∃ z : Int, (some (Value.int (iI 1))) = some (.int (iI z)) ∧ ((z = 1 ∧ RoundR f n e (s - e)) ∨ (z = 0 ∧ RoundN f n)) ∧ (∀ i, BD ((upF F1 s g_35) i)) := ⟨_, rfl, (Or.inl ⟨rfl, he.1, by omega, by omega, by rw [show e + (s - e) = s by omega]; exact ⟨_, _, _, _, hIe, hIt, hsm.1, hsm.2⟩, fun u u0 u1 => by rw [show e + (s - e) = s by omega]; exact hNe u u0 u1, fun u v u0 u1 u2 => hNo u v u0 u1 (by omega)⟩), hF2⟩
                  exact z_zret C hr rfl hlocks hW (e, s - e, (up N1 s m_35), (upF F1 s g_35)) rfl hP9 dX4_find_81
          exact cut_45 (((s - 0) + 1 : Int)).toNat 0 (by first | omega | assumption | (intros; first | rfl | omega | assumption | (and_intros <;> first | rfl | omega | assumption))) (fun u u0 u1 => by omega) (by omega) _ _ _ hW (lv_sub hl [0, 1, 2, 3] rfl)
        ·
          have hT := hz_35_0.elim (fun x => absurd x.1 (by omega)) (fun x => x.2)
          have hF2 : ∀ i, BD (upF F1 s g_35 i) := fun i => if q : i = s then (by rw [q, upF_s]; exact hz_35_1) else (by rw [upF_n _ _ q]; exact hF1 i)
          refine lv_iconst (v := iI 0) C.1 C.2.1 dX4_find_41 rfl ?_
          rw [hQ]
          have hP9 : ∃ z : Int, (some (Value.int (iI 0))) = some (.int (iI z)) ∧ ((z = 1 ∧ RoundR f n tl ln) ∨ (z = 0 ∧ RoundN f n)) ∧ (∀ i, BD ((upF F1 s g_35) i)) := ⟨_, rfl, (Or.inr ⟨rfl, fun u v u0 u1 u2 => if q : v < s then hNo u v u0 u1 q else (fun hal => by obtain ⟨a1, a2, a3, a4, b1, b2, b3, b4⟩ := hal; exact It1_no hIs.1 hT (by omega) b2)⟩), hF2⟩
          exact z_zret C hr rfl hlocks hW (tl, ln, (up N1 s m_35), (upF F1 s g_35)) rfl hP9 dX4_find_42
  exact cut_12 (((61 - 1) + 1 : Int)).toNat 1 (up N 0 n) (upF F 0 f_7) (by first | omega | assumption | (intros; first | rfl | omega | assumption | (and_intros <;> first | rfl | omega | assumption))) hF1 (fun u u0 u1 => by rw [show u = 0 by omega, up_s, upF_s]; exact ⟨⟨rfl, hz_7_1⟩, hn⟩) (fun u v u0 u1 u2 => by omega) (by omega) _ _ _ hW (lv_sub hl [0, 1, 2] rfl)
