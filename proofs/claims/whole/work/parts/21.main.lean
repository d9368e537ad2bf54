set_option maxHeartbeats 4000000 in
set_option maxRecDepth 100000 in
/-- registerOf -/
theorem c_X10_registerOf (l : Launch) (G : GG) (x : Nat) (rg : Nat) (mk : Nat) (mh : Nat) (th : Nat) (ih : Nat) (nh : Nat) (fh : Nat) (sh : Nat) (ro : Nat) (ts : Nat) (rw : Int → Nat) (rr : Int) (hr9 : 0 ≤ rr ∧ rr ≤ 3) : MRc l yX10_registerOf wsX10_registerOf 0 G [.ref x, .int (iI rr)] [(x, .inr (8, [.ref rg, .ref mk, .ref mh, .ref th, .ref ih, .ref nh, .ref fh, .ref sh, .ref ro, .ref ts])), (rg, .inl (G.2.1 3, 4, .inr (.inr (.inr (.inr (regF rw))))))] (fun r => (r = some (.ref (rw rr)) ∧ True)) := by
  refine MRc.start (own := RX10) (by decide) rfl rfl (Nat.le_of_ble_eq_true rfl) ?_
  intro p9 e9 s9 m9 args below meth c9 A Q C hK hW hA hr hlocks hQ ls hl
  have hl : lv_has ls 2 [(0, .ref x), (1, .int (iI rr))] := hl
  have hin10 : ∀ w ∈ wsX100, w ∈ wsX10_registerOf := by decide +kernel
  refine lv_iload_n C.1 C.2.1 dX10_registerOf_0 rfl (lv_at hl 1 rfl) ?_
  refine z_if_lt (tgt := 18) C dX10_registerOf_1 (by decide) (by omega) (fun c_1 => ?_) (fun c_1 => ?_)
  ·
    exfalso; omega
  ·
    refine lv_iload_n C.1 C.2.1 dX10_registerOf_4 rfl (lv_at hl 1 rfl) ?_
    refine lv_iconst (v := iI 4) C.1 C.2.1 dX10_registerOf_5 rfl ?_
    refine z_icmp_ge (tgt := 18) C dX10_registerOf_6 (by decide) (by omega) (fun c_6 => ?_) (fun c_6 => ?_)
    ·
      exfalso; omega
    ·
      refine lv_aload_n C.1 C.2.1 dX10_registerOf_9 rfl (lv_at hl 0 rfl) ?_
      refine z_get C hK hW hin10 (v := .ref rg) 0 rfl rfl 0 (by decide) (C.2.2.2.2 (.fieldLink RX10 11 "TellingRows" "registers" "[LTellingRows$Row;") (List.mem_of_getElem? (i := 1) rfl)) (fun _ h9 => h9) rfl dX10_registerOf_10 ?_
      refine lv_iload_n C.1 C.2.1 dX10_registerOf_13 rfl (lv_at hl 1 rfl) ?_
      refine z_aaldq C hK hW 1 3 rfl rfl (by omega) (by omega) dX10_registerOf_14 ?_
      rw [regF_at hr9.1]
      refine lv_goto (tgt := 19) C.1 C.2.1 dX10_registerOf_15 (by decide) ?_
      rw [hQ]
      have hP9 : ((some (Value.ref (rw rr))) = some (.ref (rw rr)) ∧ True) := ⟨rfl, trivial⟩
      exact z_aretR C hr (Or.inl ⟨_, rfl⟩) (Or.inr ⟨_, rfl⟩) hlocks hP9 dX10_registerOf_19
set_option maxHeartbeats 4000000 in
set_option maxRecDepth 100000 in
/-- registerOf, none -/
theorem c_X10_registerOf_bad (l : Launch) (G : GG) (x : Nat) (rg : Nat) (mk : Nat) (mh : Nat) (th : Nat) (ih : Nat) (nh : Nat) (fh : Nat) (sh : Nat) (ro : Nat) (ts : Nat) (rw : Int → Nat) (rr : Int) (hr9 : ¬ (0 ≤ rr ∧ rr ≤ 3)) (hrr : -2147483648 ≤ rr ∧ rr ≤ 2147483647) : MRc l yX10_registerOf wsX10_registerOf 0 G [.ref x, .int (iI rr)] [(x, .inr (8, [.ref rg, .ref mk, .ref mh, .ref th, .ref ih, .ref nh, .ref fh, .ref sh, .ref ro, .ref ts])), (rg, .inl (G.2.1 3, 4, .inr (.inr (.inr (.inr (regF rw))))))] (fun r => (r = some .null ∧ True)) := by
  refine MRc.start (own := RX10) (by decide) rfl rfl (Nat.le_of_ble_eq_true rfl) ?_
  intro p9 e9 s9 m9 args below meth c9 A Q C hK hW hA hr hlocks hQ ls hl
  have hl : lv_has ls 2 [(0, .ref x), (1, .int (iI rr))] := hl
  have hin10 : ∀ w ∈ wsX100, w ∈ wsX10_registerOf := by decide +kernel
  refine lv_iload_n C.1 C.2.1 dX10_registerOf_0 rfl (lv_at hl 1 rfl) ?_
  refine z_if_lt (tgt := 18) C dX10_registerOf_1 (by decide) (by omega) (fun c_1 => ?_) (fun c_1 => ?_)
  ·
    refine lv_null C.1 C.2.1 dX10_registerOf_18 ?_
    rw [hQ]
    have hP9 : ((some Value.null) = some .null ∧ True) := ⟨rfl, trivial⟩
    exact z_aretR C hr (Or.inl ⟨_, rfl⟩) (Or.inl rfl) hlocks hP9 dX10_registerOf_19
  ·
    refine lv_iload_n C.1 C.2.1 dX10_registerOf_4 rfl (lv_at hl 1 rfl) ?_
    refine lv_iconst (v := iI 4) C.1 C.2.1 dX10_registerOf_5 rfl ?_
    refine z_icmp_ge (tgt := 18) C dX10_registerOf_6 (by decide) (by omega) (fun c_6 => ?_) (fun c_6 => ?_)
    ·
      refine lv_null C.1 C.2.1 dX10_registerOf_18 ?_
      rw [hQ]
      have hP9 : ((some Value.null) = some .null ∧ True) := ⟨rfl, trivial⟩
      exact z_aretR C hr (Or.inl ⟨_, rfl⟩) (Or.inl rfl) hlocks hP9 dX10_registerOf_19
    ·
      exfalso; omega
set_option maxHeartbeats 4000000 in
set_option maxRecDepth 100000 in
/-- madeRow -/
theorem c_X10_madeRow (l : Launch) (G : GG) (x : Nat) (rg : Nat) (mk : Nat) (mh : Nat) (th : Nat) (ih : Nat) (nh : Nat) (fh : Nat) (sh : Nat) (ro : Nat) (ts : Nat) (rw : Int → Nat) (rr : Int) (ma : Nat) (ae : Nat) (bo : Nat) (bi : Nat) (no : Nat) (S : Nat) (f : Int → Int) (e : Int → Int) (M : Int) (L : Int) (n : Int) (B : Int → Int) (g : Int → Int) (hr9 : 0 ≤ rr ∧ rr ≤ 3) (hS : S < 7) (hVB : AllowsR S n B) (hf : BD f) (he : BD e) (hg : BD g) (hB : BD B) (hM : M = 0 ∨ (M = 1 ∧ RowR S n B L g)) : MQc l yX10_madeRow wsX10_madeRow 4 G [.ref x, .int (iI rr)] [(x, .inr (8, [.ref rg, .ref mk, .ref mh, .ref th, .ref ih, .ref nh, .ref fh, .ref sh, .ref ro, .ref ts])), (rg, .inl (G.2.1 3, 4, .inr (.inr (.inr (.inr (regF rw)))))), (mh, .inr (1, [.ref mk, .ref ae])), (mk, .inr (2, [.ref ma])), (ma, .inl (G.2.1 0, 60001, .inl (iA f))), (ae, .inl (G.2.1 0, 1000, .inl (iA e))), (rw rr, .inr (4, [.ref bo, .ref no, .ref (G.2.2 S), .int (iI M), .int (iI L)])), (bo, .inr (5, [.ref bi, .int (iI n)])), (bi, .inl (G.2.1 0, 6, .inl (iA B))), (no, .inl (G.2.1 0, 2000, .inl (iA g)))] (fun r (u : (Int → Int) × (Int → Int) × Int × (Int → Int)) => (r = some (.ref (rw rr)) ∧ True) ∧ (RowR S n B u.2.2.1 u.2.2.2) ∧ (BD u.1) ∧ (BD u.2.1) ∧ (BD u.2.2.2)) (fun u => [(x, .inr (8, [.ref rg, .ref mk, .ref mh, .ref th, .ref ih, .ref nh, .ref fh, .ref sh, .ref ro, .ref ts])), (rg, .inl (G.2.1 3, 4, .inr (.inr (.inr (.inr (regF rw)))))), (mh, .inr (1, [.ref mk, .ref ae])), (mk, .inr (2, [.ref ma])), (ma, .inl (G.2.1 0, 60001, .inl (iA u.1))), (ae, .inl (G.2.1 0, 1000, .inl (iA u.2.1))), (rw rr, .inr (4, [.ref bo, .ref no, .ref (G.2.2 S), .int (iI 1), .int (iI u.2.2.1)])), (bo, .inr (5, [.ref bi, .int (iI n)])), (bi, .inl (G.2.1 0, 6, .inl (iA B))), (no, .inl (G.2.1 0, 2000, .inl (iA u.2.2.2)))]) := by
  refine MQc.start (own := RX10) (by decide) rfl rfl (Nat.le_of_ble_eq_true rfl) ?_
  intro p9 e9 s9 m9 args below meth c9 A Q C hK hW hA hr hlocks hQ ls hl
  have hl : lv_has ls 3 [(0, .ref x), (1, .int (iI rr))] := hl
  have hin2 : ∀ w ∈ wsX20, w ∈ wsX10_madeRow := by decide +kernel
  have hin3 : ∀ w ∈ wsX30, w ∈ wsX10_madeRow := by decide +kernel
  have hin5 : ∀ w ∈ wsX50, w ∈ wsX10_madeRow := by decide +kernel
  have hin6 : ∀ w ∈ wsX60, w ∈ wsX10_madeRow := by decide +kernel
  have hin10 : ∀ w ∈ wsX100, w ∈ wsX10_madeRow := by decide +kernel
  refine lv_aload_n C.1 C.2.1 dX10_madeRow_0 rfl (lv_at hl 0 rfl) ?_
  refine lv_iload_n C.1 C.2.1 dX10_madeRow_1 rfl (lv_at hl 1 rfl) ?_
  refine z_callR (va_runV (As := [.int (iI rr)]) (rest := []) C (c_X10_registerOf l G x rg mk mh th ih nh fh sh ro ts rw rr hr9 s9.heap.size) (cwV 1 C.2.2.2.2 gX10_madeRow_X10_registerOf rfl rfl rfl (by decide +kernel) ⟨Nat.le_of_ble_eq_true rfl, Nat.le_of_ble_eq_true rfl⟩) (z_preV hK hW hA [0, 1] rfl (by decide) (ci := 8) (q0 := 0) rfl rfl) rfl rfl hl.1 rfl (lv_room (Nat.le_of_ble_eq_true rfl)) dX10_madeRow_2 ⟨Nat.zero_le _, Nat.zero_le _⟩) (fun r hp => ?_)
  have hp : (r = some (.ref (rw rr)) ∧ True) := hp
  have hq_2 := hp
  obtain ⟨rfl, hd_2⟩ := hq_2
  refine lv_astore_n (lv' := [(2, .ref (rw rr)), (0, .ref x), (1, .int (iI rr))]) C.1 C.2.1 dX10_madeRow_5 rfl hl (by decide) rfl (fun ls hl => ?_)
  refine lv_aload_n C.1 C.2.1 dX10_madeRow_6 rfl (lv_at hl 0 rfl) ?_
  refine lv_ifnull C.1 C.2.1 dX10_madeRow_7 ?_
  refine lv_aload_n C.1 C.2.1 dX10_madeRow_10 rfl (lv_at hl 0 rfl) ?_
  refine z_getN C hK hW hin5 (v := .int (iI M)) 6 rfl rfl 3 (by decide) (nw_f_RX10_202 hK.2.1) (fun _ h9 => h9) rfl dX10_madeRow_11 ?_
  refine z_if_ne (tgt := 25) C dX10_madeRow_14 (by decide) (by omega) (fun c_14 => ?_) (fun c_14 => ?_)
  ·
    have hM1 : M = 1 := by omega
    have hRow : RowR S n B L g := hM.elim (fun q => absurd q (by omega)) (fun q => q.2)
    refine lv_aload_n C.1 C.2.1 dX10_madeRow_25 rfl (lv_at hl 0 rfl) ?_
    try subst hM1
    rw [hQ]
    have hP9 : ((some (Value.ref (rw rr))) = some (.ref (rw rr)) ∧ True) ∧ (RowR S n B L g) ∧ (BD f) ∧ (BD e) ∧ (BD g) := ⟨⟨rfl, trivial⟩, (by first | exact hz_22_0 | exact hRow), hf, he, hg⟩
    exact z_aret C hr (Or.inl ⟨_, rfl⟩) (Or.inr ⟨_, rfl⟩) hlocks hW (f, e, L, g) rfl hP9 dX10_madeRow_26
  ·
    refine lv_aload_n C.1 C.2.1 dX10_madeRow_17 rfl (lv_at hl 1 rfl) ?_
    refine z_get C hK hW hin10 (v := .ref mh) 0 rfl rfl 2 (by decide) (C.2.2.2.2 (.fieldLink RX10 27 "TellingRows" "maker" "LTellingRows$Maker;") (List.mem_of_getElem? (i := 1) rfl)) (fun _ h9 => h9) rfl dX10_madeRow_18 ?_
    refine lv_aload_n C.1 C.2.1 dX10_madeRow_21 rfl (lv_at hl 0 rfl) ?_
    refine z_call (va_runV (As := [.ref (rw rr)]) (rest := []) C (c_X2_make l G mh mk ma ae (rw rr) bo bi no S f e M L n B g hS hVB hf he hg hB s9.heap.size) (cwV 1 C.2.2.2.2 gX10_madeRow_X2_make rfl rfl rfl (by decide +kernel) ⟨Nat.le_of_ble_eq_true rfl, Nat.le_of_ble_eq_true rfl⟩) (z_preV hK hW hA [2, 3, 4, 5, 6, 7, 8, 9] rfl (by decide) (ci := 1) (q0 := 2) rfl rfl) rfl rfl hl.1 rfl (lv_room (Nat.le_of_ble_eq_true rfl)) dX10_madeRow_22 ⟨Nat.zero_le _, Nat.zero_le _⟩) hW hA [2, 3, 4, 5, 6, 7, 8, 9] rfl (by decide) (fun _ => rfl) (fun r u H locs hp hW => ?_)
    obtain ⟨f2_22, e2_22, L2_22, g2_22⟩ := u
    have hp : r = none ∧ (RowR S n B L2_22 g2_22) ∧ (BD f2_22) ∧ (BD e2_22) ∧ (BD g2_22) := hp
    obtain ⟨rfl, hz_22_0, hz_22_1, hz_22_2, hz_22_3⟩ := hp
    have hW : Wd G A s9.heap [(x, .inr (8, [.ref rg, .ref mk, .ref mh, .ref th, .ref ih, .ref nh, .ref fh, .ref sh, .ref ro, .ref ts])), (rg, .inl (G.2.1 3, 4, .inr (.inr (.inr (.inr (regF rw)))))), (mh, .inr (1, [.ref mk, .ref ae])), (mk, .inr (2, [.ref ma])), (ma, .inl (G.2.1 0, 60001, .inl (iA f2_22))), (ae, .inl (G.2.1 0, 1000, .inl (iA e2_22))), (rw rr, .inr (4, [.ref bo, .ref no, .ref (G.2.2 S), .int (iI 1), .int (iI L2_22)])), (bo, .inr (5, [.ref bi, .int (iI n)])), (bi, .inl (G.2.1 0, 6, .inl (iA B))), (no, .inl (G.2.1 0, 2000, .inl (iA g2_22)))] H locs := hW
    refine lv_aload_n C.1 C.2.1 dX10_madeRow_25 rfl (lv_at hl 0 rfl) ?_
    try subst hM1
    rw [hQ]
    have hP9 : ((some (Value.ref (rw rr))) = some (.ref (rw rr)) ∧ True) ∧ (RowR S n B L2_22 g2_22) ∧ (BD f2_22) ∧ (BD e2_22) ∧ (BD g2_22) := ⟨⟨rfl, trivial⟩, (by first | exact hz_22_0 | exact hRow), hz_22_1, hz_22_2, hz_22_3⟩
    exact z_aret C hr (Or.inl ⟨_, rfl⟩) (Or.inr ⟨_, rfl⟩) hlocks hW (f2_22, e2_22, L2_22, g2_22) rfl hP9 dX10_madeRow_26
set_option maxHeartbeats 4000000 in
set_option maxRecDepth 100000 in
/-- madeRow, none -/
theorem c_X10_madeRow_bad (l : Launch) (G : GG) (x : Nat) (rg : Nat) (mk : Nat) (mh : Nat) (th : Nat) (ih : Nat) (nh : Nat) (fh : Nat) (sh : Nat) (ro : Nat) (ts : Nat) (rw : Int → Nat) (rr : Int) (hr9 : ¬ (0 ≤ rr ∧ rr ≤ 3)) (hrr : -2147483648 ≤ rr ∧ rr ≤ 2147483647) : MRc l yX10_madeRow wsX10_madeRow 4 G [.ref x, .int (iI rr)] [(x, .inr (8, [.ref rg, .ref mk, .ref mh, .ref th, .ref ih, .ref nh, .ref fh, .ref sh, .ref ro, .ref ts])), (rg, .inl (G.2.1 3, 4, .inr (.inr (.inr (.inr (regF rw))))))] (fun r => (r = some .null ∧ True)) := by
  refine MRc.start (own := RX10) (by decide) rfl rfl (Nat.le_of_ble_eq_true rfl) ?_
  intro p9 e9 s9 m9 args below meth c9 A Q C hK hW hA hr hlocks hQ ls hl
  have hl : lv_has ls 3 [(0, .ref x), (1, .int (iI rr))] := hl
  have hin2 : ∀ w ∈ wsX20, w ∈ wsX10_madeRow := by decide +kernel
  have hin3 : ∀ w ∈ wsX30, w ∈ wsX10_madeRow := by decide +kernel
  have hin5 : ∀ w ∈ wsX50, w ∈ wsX10_madeRow := by decide +kernel
  have hin6 : ∀ w ∈ wsX60, w ∈ wsX10_madeRow := by decide +kernel
  have hin10 : ∀ w ∈ wsX100, w ∈ wsX10_madeRow := by decide +kernel
  refine lv_aload_n C.1 C.2.1 dX10_madeRow_0 rfl (lv_at hl 0 rfl) ?_
  refine lv_iload_n C.1 C.2.1 dX10_madeRow_1 rfl (lv_at hl 1 rfl) ?_
  refine z_callR (va_runV (As := [.int (iI rr)]) (rest := []) C (c_X10_registerOf_bad l G x rg mk mh th ih nh fh sh ro ts rw rr hr9 hrr s9.heap.size) (cwV 1 C.2.2.2.2 gX10_madeRow_X10_registerOf rfl rfl rfl (by decide +kernel) ⟨Nat.le_of_ble_eq_true rfl, Nat.le_of_ble_eq_true rfl⟩) (z_preV hK hW hA [0, 1] rfl (by decide) (ci := 8) (q0 := 0) rfl rfl) rfl rfl hl.1 rfl (lv_room (Nat.le_of_ble_eq_true rfl)) dX10_madeRow_2 ⟨Nat.zero_le _, Nat.zero_le _⟩) (fun r hp => ?_)
  have hp : (r = some .null ∧ True) := hp
  have hq_2 := hp
  obtain ⟨rfl, hd_2⟩ := hq_2
  refine lv_astore_nN (lv' := [(2, .null), (0, .ref x), (1, .int (iI rr))]) C.1 C.2.1 dX10_madeRow_5 rfl hl (by decide) rfl (fun ls hl => ?_)
  refine lv_aload_nN C.1 C.2.1 dX10_madeRow_6 rfl (lv_at hl 0 rfl) ?_
  refine lv_ifnullN (tgt := 25) C.1 C.2.1 dX10_madeRow_7 (by decide) ?_
  refine lv_aload_nN C.1 C.2.1 dX10_madeRow_25 rfl (lv_at hl 0 rfl) ?_
  rw [hQ]
  have hP9 : ((some Value.null) = some .null ∧ True) := ⟨rfl, trivial⟩
  exact z_aretR C hr (Or.inl ⟨_, rfl⟩) (Or.inl rfl) hlocks hP9 dX10_madeRow_26
set_option maxHeartbeats 4000000 in
set_option maxRecDepth 100000 in
/-- X10_at -/
theorem c_X10_at (l : Launch) (G : GG) (x : Nat) (rg : Nat) (mk : Nat) (mh : Nat) (th : Nat) (ih : Nat) (nh : Nat) (fh : Nat) (sh : Nat) (ro : Nat) (ts : Nat) (rw : Int → Nat) (rr : Int) (ma : Nat) (ae : Nat) (bo : Nat) (bi : Nat) (no : Nat) (S : Nat) (f : Int → Int) (e : Int → Int) (M : Int) (L : Int) (n : Int) (B : Int → Int) (g : Int → Int) (i : Int) (hr9 : 0 ≤ rr ∧ rr ≤ 3) (hS : S < 7) (hVB : AllowsR S n B) (hf : BD f) (he : BD e) (hg : BD g) (hB : BD B) (hM : M = 0 ∨ (M = 1 ∧ RowR S n B L g)) (hi : -2147483648 ≤ i ∧ i ≤ 2147483647) : MQc l yX10_at wsX10_at 5 G [.ref x, .int (iI rr), .int (iI i)] [(x, .inr (8, [.ref rg, .ref mk, .ref mh, .ref th, .ref ih, .ref nh, .ref fh, .ref sh, .ref ro, .ref ts])), (rg, .inl (G.2.1 3, 4, .inr (.inr (.inr (.inr (regF rw)))))), (mh, .inr (1, [.ref mk, .ref ae])), (mk, .inr (2, [.ref ma])), (ma, .inl (G.2.1 0, 60001, .inl (iA f))), (ae, .inl (G.2.1 0, 1000, .inl (iA e))), (rw rr, .inr (4, [.ref bo, .ref no, .ref (G.2.2 S), .int (iI M), .int (iI L)])), (bo, .inr (5, [.ref bi, .int (iI n)])), (bi, .inl (G.2.1 0, 6, .inl (iA B))), (no, .inl (G.2.1 0, 2000, .inl (iA g)))] (fun r (u : (Int → Int) × (Int → Int) × Int × (Int → Int)) => ∃ z : Int, r = some (.int (iI z)) ∧ (0 ≤ i ∧ i < u.2.2.1 → z = u.2.2.2 i) ∧ (u.2.2.1 ≤ i ∧ i < 2000 ∧ 0 ≤ i → z = -4) ∧ (¬ (0 ≤ i ∧ i < 2000) → z = -1) ∧ (RowR S n B u.2.2.1 u.2.2.2) ∧ (BD u.1) ∧ (BD u.2.1) ∧ (BD u.2.2.2)) (fun u => [(x, .inr (8, [.ref rg, .ref mk, .ref mh, .ref th, .ref ih, .ref nh, .ref fh, .ref sh, .ref ro, .ref ts])), (rg, .inl (G.2.1 3, 4, .inr (.inr (.inr (.inr (regF rw)))))), (mh, .inr (1, [.ref mk, .ref ae])), (mk, .inr (2, [.ref ma])), (ma, .inl (G.2.1 0, 60001, .inl (iA u.1))), (ae, .inl (G.2.1 0, 1000, .inl (iA u.2.1))), (rw rr, .inr (4, [.ref bo, .ref no, .ref (G.2.2 S), .int (iI 1), .int (iI u.2.2.1)])), (bo, .inr (5, [.ref bi, .int (iI n)])), (bi, .inl (G.2.1 0, 6, .inl (iA B))), (no, .inl (G.2.1 0, 2000, .inl (iA u.2.2.2)))]) := by
  refine MQc.start (own := RX10) (by decide) rfl rfl (Nat.le_of_ble_eq_true rfl) ?_
  intro p9 e9 s9 m9 args below meth c9 A Q C hK hW hA hr hlocks hQ ls hl
  have hl : lv_has ls 4 [(0, .ref x), (1, .int (iI rr)), (2, .int (iI i))] := hl
  have hin2 : ∀ w ∈ wsX20, w ∈ wsX10_at := by decide +kernel
  have hin3 : ∀ w ∈ wsX30, w ∈ wsX10_at := by decide +kernel
  have hin5 : ∀ w ∈ wsX50, w ∈ wsX10_at := by decide +kernel
  have hin6 : ∀ w ∈ wsX60, w ∈ wsX10_at := by decide +kernel
  have hin10 : ∀ w ∈ wsX100, w ∈ wsX10_at := by decide +kernel
  refine lv_aload_n C.1 C.2.1 dX10_at_0 rfl (lv_at hl 0 rfl) ?_
  refine lv_iload_n C.1 C.2.1 dX10_at_1 rfl (lv_at hl 1 rfl) ?_
  refine z_call (va_runV (As := [.int (iI rr)]) (rest := []) C (c_X10_madeRow l G x rg mk mh th ih nh fh sh ro ts rw rr ma ae bo bi no S f e M L n B g hr9 hS hVB hf he hg hB hM s9.heap.size) (cwV 1 C.2.2.2.2 gX10_at_X10_madeRow rfl rfl rfl (by decide +kernel) ⟨Nat.le_of_ble_eq_true rfl, Nat.le_of_ble_eq_true rfl⟩) (z_preV hK hW hA [0, 1, 2, 3, 4, 5, 6, 7, 8, 9] rfl (by decide) (ci := 8) (q0 := 0) rfl rfl) rfl rfl hl.1 rfl (lv_room (Nat.le_of_ble_eq_true rfl)) dX10_at_2 ⟨Nat.zero_le _, Nat.zero_le _⟩) hW hA [0, 1, 2, 3, 4, 5, 6, 7, 8, 9] rfl (by decide) (fun _ => rfl) (fun r u H locs hp hW => ?_)
  obtain ⟨f2_2, e2_2, L2_2, g2_2⟩ := u
  have hW : Wd G A s9.heap [(x, .inr (8, [.ref rg, .ref mk, .ref mh, .ref th, .ref ih, .ref nh, .ref fh, .ref sh, .ref ro, .ref ts])), (rg, .inl (G.2.1 3, 4, .inr (.inr (.inr (.inr (regF rw)))))), (mh, .inr (1, [.ref mk, .ref ae])), (mk, .inr (2, [.ref ma])), (ma, .inl (G.2.1 0, 60001, .inl (iA f2_2))), (ae, .inl (G.2.1 0, 1000, .inl (iA e2_2))), (rw rr, .inr (4, [.ref bo, .ref no, .ref (G.2.2 S), .int (iI 1), .int (iI L2_2)])), (bo, .inr (5, [.ref bi, .int (iI n)])), (bi, .inl (G.2.1 0, 6, .inl (iA B))), (no, .inl (G.2.1 0, 2000, .inl (iA g2_2)))] H locs := hW
  have hp : (r = some (.ref (rw rr)) ∧ True) ∧ (RowR S n B L2_2 g2_2) ∧ (BD f2_2) ∧ (BD e2_2) ∧ (BD g2_2) := hp
  obtain ⟨hq_2, hz_2_1, hz_2_2, hz_2_3, hz_2_4⟩ := hp
  have hRV := hz_2_1.2.2.2.1
  have hRL := hz_2_1.2.1
  have hRL2 := hz_2_1.2.2.1
  obtain ⟨rfl, hd_2⟩ := hq_2
  refine lv_astore_n (lv' := [(3, .ref (rw rr)), (0, .ref x), (1, .int (iI rr)), (2, .int (iI i))]) C.1 C.2.1 dX10_at_5 rfl hl (by decide) rfl (fun ls hl => ?_)
  refine lv_aload_n C.1 C.2.1 dX10_at_6 rfl (lv_at hl 0 rfl) ?_
  refine lv_ifnull C.1 C.2.1 dX10_at_7 ?_
  refine lv_iload_n C.1 C.2.1 dX10_at_10 rfl (lv_at hl 3 rfl) ?_
  refine z_if_lt (tgt := 21) C dX10_at_11 (by decide) (by omega) (fun c_11 => ?_) (fun c_11 => ?_)
  ·
    refine lv_iconst (v := iI (-1)) C.1 C.2.1 dX10_at_21 rfl ?_
    rw [hQ]
    have hP9 : ∃ z : Int, (some (Value.int (iI (-1)))) = some (.int (iI z)) ∧ (0 ≤ i ∧ i < L2_2 → z = g2_2 i) ∧ (L2_2 ≤ i ∧ i < 2000 ∧ 0 ≤ i → z = -4) ∧ (¬ (0 ≤ i ∧ i < 2000) → z = -1) ∧ (RowR S n B L2_2 g2_2) ∧ (BD f2_2) ∧ (BD e2_2) ∧ (BD g2_2) := ⟨_, rfl, (fun q9 => by omega), (fun q9 => by omega), (by first | omega | assumption | (intros; first | rfl | omega | assumption | (and_intros <;> first | rfl | omega | assumption))), hz_2_1, hz_2_2, hz_2_3, hz_2_4⟩
    exact z_iret C hr hlocks hW (f2_2, e2_2, L2_2, g2_2) rfl hP9 dX10_at_22
  ·
    refine lv_iload_n C.1 C.2.1 dX10_at_14 rfl (lv_at hl 3 rfl) ?_
    refine lv_sipush (v := iI 2000) C.1 C.2.1 dX10_at_15 (by decide +kernel) ?_
    refine z_icmp_lt (tgt := 23) C dX10_at_18 (by decide) (by omega) (fun c_18 => ?_) (fun c_18 => ?_)
    ·
      refine lv_aload_n C.1 C.2.1 dX10_at_23 rfl (lv_at hl 0 rfl) ?_
      refine lv_iload_n C.1 C.2.1 dX10_at_24 rfl (lv_at hl 3 rfl) ?_
      refine z_callR (va_runV (As := [.int (iI i)]) (rest := []) C (c_X5_numberAt l G (rw rr) bo no (G.2.2 S) 1 L2_2 g2_2 i (by first | omega | assumption | (intros; first | rfl | omega | assumption | (and_intros <;> first | rfl | omega | assumption))) hz_2_4 hi H.size) (cwV 1 C.2.2.2.2 gX10_at_X5_numberAt rfl rfl rfl (by decide +kernel) ⟨Nat.le_of_ble_eq_true rfl, Nat.le_of_ble_eq_true rfl⟩) (z_preV hK hW hA [6, 9] rfl (by decide) (ci := 4) (q0 := 6) rfl rfl) rfl rfl hl.1 rfl (lv_room (Nat.le_of_ble_eq_true rfl)) dX10_at_25 ⟨Nat.zero_le _, Nat.zero_le _⟩) (fun r hp => ?_)
      have hp : ∃ z : Int, r = some (.int (iI z)) ∧ (0 ≤ i ∧ i < L2_2 → z = g2_2 i) ∧ (¬ (0 ≤ i ∧ i < L2_2) → z = -4) ∧ (-2147483648 ≤ z ∧ z ≤ 2147483647) := hp
      obtain ⟨z_25, rfl, hz_25_0, hz_25_1, hz_25_2⟩ := hp
      rw [hQ]
      have hP9 : ∃ z : Int, (some (Value.int (iI z_25))) = some (.int (iI z)) ∧ (0 ≤ i ∧ i < L2_2 → z = g2_2 i) ∧ (L2_2 ≤ i ∧ i < 2000 ∧ 0 ≤ i → z = -4) ∧ (¬ (0 ≤ i ∧ i < 2000) → z = -1) ∧ (RowR S n B L2_2 g2_2) ∧ (BD f2_2) ∧ (BD e2_2) ∧ (BD g2_2) := ⟨_, rfl, (fun q9 => hz_25_0 q9), (fun q9 => hz_25_1 (by omega)), (fun q9 => by omega), hz_2_1, hz_2_2, hz_2_3, hz_2_4⟩
      exact z_iret C hr hlocks hW (f2_2, e2_2, L2_2, g2_2) rfl hP9 dX10_at_28
    ·
      refine lv_iconst (v := iI (-1)) C.1 C.2.1 dX10_at_21 rfl ?_
      rw [hQ]
      have hP9 : ∃ z : Int, (some (Value.int (iI (-1)))) = some (.int (iI z)) ∧ (0 ≤ i ∧ i < L2_2 → z = g2_2 i) ∧ (L2_2 ≤ i ∧ i < 2000 ∧ 0 ≤ i → z = -4) ∧ (¬ (0 ≤ i ∧ i < 2000) → z = -1) ∧ (RowR S n B L2_2 g2_2) ∧ (BD f2_2) ∧ (BD e2_2) ∧ (BD g2_2) := ⟨_, rfl, (fun q9 => by omega), (fun q9 => by omega), (by first | omega | assumption | (intros; first | rfl | omega | assumption | (and_intros <;> first | rfl | omega | assumption))), hz_2_1, hz_2_2, hz_2_3, hz_2_4⟩
      exact z_iret C hr hlocks hW (f2_2, e2_2, L2_2, g2_2) rfl hP9 dX10_at_22
set_option maxHeartbeats 4000000 in
set_option maxRecDepth 100000 in
/-- X10_at, none -/
theorem c_X10_at_bad (l : Launch) (G : GG) (x : Nat) (rg : Nat) (mk : Nat) (mh : Nat) (th : Nat) (ih : Nat) (nh : Nat) (fh : Nat) (sh : Nat) (ro : Nat) (ts : Nat) (rw : Int → Nat) (rr : Int) (i : Int) (hr9 : ¬ (0 ≤ rr ∧ rr ≤ 3)) (hrr : -2147483648 ≤ rr ∧ rr ≤ 2147483647) : MRc l yX10_at wsX10_at 5 G [.ref x, .int (iI rr), .int (iI i)] [(x, .inr (8, [.ref rg, .ref mk, .ref mh, .ref th, .ref ih, .ref nh, .ref fh, .ref sh, .ref ro, .ref ts])), (rg, .inl (G.2.1 3, 4, .inr (.inr (.inr (.inr (regF rw))))))] (fun r => ∃ z : Int, r = some (.int (iI z)) ∧ (z = -1)) := by
  refine MRc.start (own := RX10) (by decide) rfl rfl (Nat.le_of_ble_eq_true rfl) ?_
  intro p9 e9 s9 m9 args below meth c9 A Q C hK hW hA hr hlocks hQ ls hl
  have hl : lv_has ls 4 [(0, .ref x), (1, .int (iI rr)), (2, .int (iI i))] := hl
  have hin2 : ∀ w ∈ wsX20, w ∈ wsX10_at := by decide +kernel
  have hin3 : ∀ w ∈ wsX30, w ∈ wsX10_at := by decide +kernel
  have hin5 : ∀ w ∈ wsX50, w ∈ wsX10_at := by decide +kernel
  have hin6 : ∀ w ∈ wsX60, w ∈ wsX10_at := by decide +kernel
  have hin10 : ∀ w ∈ wsX100, w ∈ wsX10_at := by decide +kernel
  refine lv_aload_n C.1 C.2.1 dX10_at_0 rfl (lv_at hl 0 rfl) ?_
  refine lv_iload_n C.1 C.2.1 dX10_at_1 rfl (lv_at hl 1 rfl) ?_
  refine z_callR (va_runV (As := [.int (iI rr)]) (rest := []) C (c_X10_madeRow_bad l G x rg mk mh th ih nh fh sh ro ts rw rr hr9 hrr s9.heap.size) (cwV 1 C.2.2.2.2 gX10_at_X10_madeRow rfl rfl rfl (by decide +kernel) ⟨Nat.le_of_ble_eq_true rfl, Nat.le_of_ble_eq_true rfl⟩) (z_preV hK hW hA [0, 1] rfl (by decide) (ci := 8) (q0 := 0) rfl rfl) rfl rfl hl.1 rfl (lv_room (Nat.le_of_ble_eq_true rfl)) dX10_at_2 ⟨Nat.zero_le _, Nat.zero_le _⟩) (fun r hp => ?_)
  have hp : (r = some .null ∧ True) := hp
  have hq_2 := hp
  obtain ⟨rfl, hd_2⟩ := hq_2
  refine lv_astore_nN (lv' := [(3, .null), (0, .ref x), (1, .int (iI rr)), (2, .int (iI i))]) C.1 C.2.1 dX10_at_5 rfl hl (by decide) rfl (fun ls hl => ?_)
  refine lv_aload_nN C.1 C.2.1 dX10_at_6 rfl (lv_at hl 0 rfl) ?_
  refine lv_ifnullN (tgt := 21) C.1 C.2.1 dX10_at_7 (by decide) ?_
  refine lv_iconst (v := iI (-1)) C.1 C.2.1 dX10_at_21 rfl ?_
  rw [hQ]
  have hP9 : ∃ z : Int, (some (Value.int (iI (-1)))) = some (.int (iI z)) ∧ (z = -1) := ⟨_, rfl, (by first | omega | assumption | (intros; first | rfl | omega | assumption | (and_intros <;> first | rfl | omega | assumption)))⟩
  exact z_iretR C hr hlocks hP9 dX10_at_22
set_option maxHeartbeats 4000000 in
set_option maxRecDepth 100000 in
/-- X10_first -/
theorem c_X10_first (l : Launch) (G : GG) (x : Nat) (rg : Nat) (mk : Nat) (mh : Nat) (th : Nat) (ih : Nat) (nh : Nat) (fh : Nat) (sh : Nat) (ro : Nat) (ts : Nat) (rw : Int → Nat) (rr : Int) (ma : Nat) (ae : Nat) (bo : Nat) (bi : Nat) (no : Nat) (S : Nat) (f : Int → Int) (e : Int → Int) (M : Int) (L : Int) (n : Int) (B : Int → Int) (g : Int → Int) (v : Int) (hr9 : 0 ≤ rr ∧ rr ≤ 3) (hS : S < 7) (hVB : AllowsR S n B) (hf : BD f) (he : BD e) (hg : BD g) (hB : BD B) (hM : M = 0 ∨ (M = 1 ∧ RowR S n B L g)) (hv : -2147483648 ≤ v ∧ v ≤ 2147483647) : MQc l yX10_first wsX10_first 5 G [.ref x, .int (iI rr), .int (iI v)] [(x, .inr (8, [.ref rg, .ref mk, .ref mh, .ref th, .ref ih, .ref nh, .ref fh, .ref sh, .ref ro, .ref ts])), (rg, .inl (G.2.1 3, 4, .inr (.inr (.inr (.inr (regF rw)))))), (mh, .inr (1, [.ref mk, .ref ae])), (mk, .inr (2, [.ref ma])), (ma, .inl (G.2.1 0, 60001, .inl (iA f))), (ae, .inl (G.2.1 0, 1000, .inl (iA e))), (rw rr, .inr (4, [.ref bo, .ref no, .ref (G.2.2 S), .int (iI M), .int (iI L)])), (bo, .inr (5, [.ref bi, .int (iI n)])), (bi, .inl (G.2.1 0, 6, .inl (iA B))), (no, .inl (G.2.1 0, 2000, .inl (iA g)))] (fun r (u : (Int → Int) × (Int → Int) × Int × (Int → Int)) => ∃ z : Int, r = some (.int (iI z)) ∧ (0 ≤ v ∧ v ≤ 60000 → FirstR u.2.2.2 u.2.2.1 v z) ∧ (¬ (0 ≤ v ∧ v ≤ 60000) → z = -1) ∧ (RowR S n B u.2.2.1 u.2.2.2) ∧ (BD u.1) ∧ (BD u.2.1) ∧ (BD u.2.2.2)) (fun u => [(x, .inr (8, [.ref rg, .ref mk, .ref mh, .ref th, .ref ih, .ref nh, .ref fh, .ref sh, .ref ro, .ref ts])), (rg, .inl (G.2.1 3, 4, .inr (.inr (.inr (.inr (regF rw)))))), (mh, .inr (1, [.ref mk, .ref ae])), (mk, .inr (2, [.ref ma])), (ma, .inl (G.2.1 0, 60001, .inl (iA u.1))), (ae, .inl (G.2.1 0, 1000, .inl (iA u.2.1))), (rw rr, .inr (4, [.ref bo, .ref no, .ref (G.2.2 S), .int (iI 1), .int (iI u.2.2.1)])), (bo, .inr (5, [.ref bi, .int (iI n)])), (bi, .inl (G.2.1 0, 6, .inl (iA B))), (no, .inl (G.2.1 0, 2000, .inl (iA u.2.2.2)))]) := by
  refine MQc.start (own := RX10) (by decide) rfl rfl (Nat.le_of_ble_eq_true rfl) ?_
  intro p9 e9 s9 m9 args below meth c9 A Q C hK hW hA hr hlocks hQ ls hl
  have hl : lv_has ls 4 [(0, .ref x), (1, .int (iI rr)), (2, .int (iI v))] := hl
  have hin2 : ∀ w ∈ wsX20, w ∈ wsX10_first := by decide +kernel
  have hin3 : ∀ w ∈ wsX30, w ∈ wsX10_first := by decide +kernel
  have hin5 : ∀ w ∈ wsX50, w ∈ wsX10_first := by decide +kernel
  have hin6 : ∀ w ∈ wsX60, w ∈ wsX10_first := by decide +kernel
  have hin10 : ∀ w ∈ wsX100, w ∈ wsX10_first := by decide +kernel
  refine lv_aload_n C.1 C.2.1 dX10_first_0 rfl (lv_at hl 0 rfl) ?_
  refine lv_iload_n C.1 C.2.1 dX10_first_1 rfl (lv_at hl 1 rfl) ?_
  refine z_call (va_runV (As := [.int (iI rr)]) (rest := []) C (c_X10_madeRow l G x rg mk mh th ih nh fh sh ro ts rw rr ma ae bo bi no S f e M L n B g hr9 hS hVB hf he hg hB hM s9.heap.size) (cwV 1 C.2.2.2.2 gX10_first_X10_madeRow rfl rfl rfl (by decide +kernel) ⟨Nat.le_of_ble_eq_true rfl, Nat.le_of_ble_eq_true rfl⟩) (z_preV hK hW hA [0, 1, 2, 3, 4, 5, 6, 7, 8, 9] rfl (by decide) (ci := 8) (q0 := 0) rfl rfl) rfl rfl hl.1 rfl (lv_room (Nat.le_of_ble_eq_true rfl)) dX10_first_2 ⟨Nat.zero_le _, Nat.zero_le _⟩) hW hA [0, 1, 2, 3, 4, 5, 6, 7, 8, 9] rfl (by decide) (fun _ => rfl) (fun r u H locs hp hW => ?_)
  obtain ⟨f2_2, e2_2, L2_2, g2_2⟩ := u
  have hW : Wd G A s9.heap [(x, .inr (8, [.ref rg, .ref mk, .ref mh, .ref th, .ref ih, .ref nh, .ref fh, .ref sh, .ref ro, .ref ts])), (rg, .inl (G.2.1 3, 4, .inr (.inr (.inr (.inr (regF rw)))))), (mh, .inr (1, [.ref mk, .ref ae])), (mk, .inr (2, [.ref ma])), (ma, .inl (G.2.1 0, 60001, .inl (iA f2_2))), (ae, .inl (G.2.1 0, 1000, .inl (iA e2_2))), (rw rr, .inr (4, [.ref bo, .ref no, .ref (G.2.2 S), .int (iI 1), .int (iI L2_2)])), (bo, .inr (5, [.ref bi, .int (iI n)])), (bi, .inl (G.2.1 0, 6, .inl (iA B))), (no, .inl (G.2.1 0, 2000, .inl (iA g2_2)))] H locs := hW
  have hp : (r = some (.ref (rw rr)) ∧ True) ∧ (RowR S n B L2_2 g2_2) ∧ (BD f2_2) ∧ (BD e2_2) ∧ (BD g2_2) := hp
  obtain ⟨hq_2, hz_2_1, hz_2_2, hz_2_3, hz_2_4⟩ := hp
  have hRV := hz_2_1.2.2.2.1
  have hRL := hz_2_1.2.1
  have hRL2 := hz_2_1.2.2.1
  obtain ⟨rfl, hd_2⟩ := hq_2
  refine lv_astore_n (lv' := [(3, .ref (rw rr)), (0, .ref x), (1, .int (iI rr)), (2, .int (iI v))]) C.1 C.2.1 dX10_first_5 rfl hl (by decide) rfl (fun ls hl => ?_)
  refine lv_aload_n C.1 C.2.1 dX10_first_6 rfl (lv_at hl 0 rfl) ?_
  refine lv_ifnull C.1 C.2.1 dX10_first_7 ?_
  refine lv_iload_n C.1 C.2.1 dX10_first_10 rfl (lv_at hl 3 rfl) ?_
  refine z_callR (va_runS (As := [.int (iI v)]) (rest := []) C (c_X10_isNumber l G v hv H.size) (va_cwS 1 C.2.2.2.2 gX10_first_X10_isNumber rfl rfl rfl (by decide +kernel) ⟨Nat.le_of_ble_eq_true rfl, Nat.le_of_ble_eq_true rfl⟩) (z_preS hK hW hA [] rfl (by decide)) rfl rfl hl.1 rfl (lv_room (Nat.le_of_ble_eq_true rfl)) dX10_first_11 ⟨Nat.zero_le _, Nat.zero_le _⟩) (fun r hp => ?_)
  have hp : ∃ z : Int, r = some (.int (iI z)) ∧ ((z = 1 ∧ 0 ≤ v ∧ v ≤ 60000) ∨ (z = 0 ∧ ¬ (0 ≤ v ∧ v ≤ 60000))) := hp
  obtain ⟨z_11, rfl, hz_11_0⟩ := hp
  refine z_if_ne (tgt := 19) C dX10_first_14 (by decide) (by omega) (fun c_14 => ?_) (fun c_14 => ?_)
  ·
    refine lv_aload_n C.1 C.2.1 dX10_first_19 rfl (lv_at hl 0 rfl) ?_
    refine lv_iload_n C.1 C.2.1 dX10_first_20 rfl (lv_at hl 3 rfl) ?_
    refine z_callR (va_runV (As := [.int (iI v)]) (rest := []) C (c_X5_placeOf l G (rw rr) bo no (G.2.2 S) 1 L2_2 g2_2 v (by first | omega | assumption | (intros; first | rfl | omega | assumption | (and_intros <;> first | rfl | omega | assumption))) hz_2_4 hv H.size) (cwV 1 C.2.2.2.2 gX10_first_X5_placeOf rfl rfl rfl (by decide +kernel) ⟨Nat.le_of_ble_eq_true rfl, Nat.le_of_ble_eq_true rfl⟩) (z_preV hK hW hA [6, 9] rfl (by decide) (ci := 4) (q0 := 6) rfl rfl) rfl rfl hl.1 rfl (lv_room (Nat.le_of_ble_eq_true rfl)) dX10_first_21 ⟨Nat.zero_le _, Nat.zero_le _⟩) (fun r hp => ?_)
    have hp : ∃ z : Int, r = some (.int (iI z)) ∧ (FirstR g2_2 L2_2 v z) := hp
    obtain ⟨z_21, rfl, hz_21_0⟩ := hp
    rw [hQ]
    have hP9 : ∃ z : Int, (some (Value.int (iI z_21))) = some (.int (iI z)) ∧ (0 ≤ v ∧ v ≤ 60000 → FirstR g2_2 L2_2 v z) ∧ (¬ (0 ≤ v ∧ v ≤ 60000) → z = -1) ∧ (RowR S n B L2_2 g2_2) ∧ (BD f2_2) ∧ (BD e2_2) ∧ (BD g2_2) := ⟨_, rfl, (fun _ => hz_21_0), (fun q9 => by omega), hz_2_1, hz_2_2, hz_2_3, hz_2_4⟩
    exact z_iret C hr hlocks hW (f2_2, e2_2, L2_2, g2_2) rfl hP9 dX10_first_24
  ·
    refine lv_iconst (v := iI (-1)) C.1 C.2.1 dX10_first_17 rfl ?_
    rw [hQ]
    have hP9 : ∃ z : Int, (some (Value.int (iI (-1)))) = some (.int (iI z)) ∧ (0 ≤ v ∧ v ≤ 60000 → FirstR g2_2 L2_2 v z) ∧ (¬ (0 ≤ v ∧ v ≤ 60000) → z = -1) ∧ (RowR S n B L2_2 g2_2) ∧ (BD f2_2) ∧ (BD e2_2) ∧ (BD g2_2) := ⟨_, rfl, (fun q9 => by omega), (by first | omega | assumption | (intros; first | rfl | omega | assumption | (and_intros <;> first | rfl | omega | assumption))), hz_2_1, hz_2_2, hz_2_3, hz_2_4⟩
    exact z_iret C hr hlocks hW (f2_2, e2_2, L2_2, g2_2) rfl hP9 dX10_first_18
set_option maxHeartbeats 4000000 in
set_option maxRecDepth 100000 in
/-- X10_first, none -/
theorem c_X10_first_bad (l : Launch) (G : GG) (x : Nat) (rg : Nat) (mk : Nat) (mh : Nat) (th : Nat) (ih : Nat) (nh : Nat) (fh : Nat) (sh : Nat) (ro : Nat) (ts : Nat) (rw : Int → Nat) (rr : Int) (v : Int) (hr9 : ¬ (0 ≤ rr ∧ rr ≤ 3)) (hrr : -2147483648 ≤ rr ∧ rr ≤ 2147483647) : MRc l yX10_first wsX10_first 5 G [.ref x, .int (iI rr), .int (iI v)] [(x, .inr (8, [.ref rg, .ref mk, .ref mh, .ref th, .ref ih, .ref nh, .ref fh, .ref sh, .ref ro, .ref ts])), (rg, .inl (G.2.1 3, 4, .inr (.inr (.inr (.inr (regF rw))))))] (fun r => ∃ z : Int, r = some (.int (iI z)) ∧ (z = -1)) := by
  refine MRc.start (own := RX10) (by decide) rfl rfl (Nat.le_of_ble_eq_true rfl) ?_
  intro p9 e9 s9 m9 args below meth c9 A Q C hK hW hA hr hlocks hQ ls hl
  have hl : lv_has ls 4 [(0, .ref x), (1, .int (iI rr)), (2, .int (iI v))] := hl
  have hin2 : ∀ w ∈ wsX20, w ∈ wsX10_first := by decide +kernel
  have hin3 : ∀ w ∈ wsX30, w ∈ wsX10_first := by decide +kernel
  have hin5 : ∀ w ∈ wsX50, w ∈ wsX10_first := by decide +kernel
  have hin6 : ∀ w ∈ wsX60, w ∈ wsX10_first := by decide +kernel
  have hin10 : ∀ w ∈ wsX100, w ∈ wsX10_first := by decide +kernel
  refine lv_aload_n C.1 C.2.1 dX10_first_0 rfl (lv_at hl 0 rfl) ?_
  refine lv_iload_n C.1 C.2.1 dX10_first_1 rfl (lv_at hl 1 rfl) ?_
  refine z_callR (va_runV (As := [.int (iI rr)]) (rest := []) C (c_X10_madeRow_bad l G x rg mk mh th ih nh fh sh ro ts rw rr hr9 hrr s9.heap.size) (cwV 1 C.2.2.2.2 gX10_first_X10_madeRow rfl rfl rfl (by decide +kernel) ⟨Nat.le_of_ble_eq_true rfl, Nat.le_of_ble_eq_true rfl⟩) (z_preV hK hW hA [0, 1] rfl (by decide) (ci := 8) (q0 := 0) rfl rfl) rfl rfl hl.1 rfl (lv_room (Nat.le_of_ble_eq_true rfl)) dX10_first_2 ⟨Nat.zero_le _, Nat.zero_le _⟩) (fun r hp => ?_)
  have hp : (r = some .null ∧ True) := hp
  have hq_2 := hp
  obtain ⟨rfl, hd_2⟩ := hq_2
  refine lv_astore_nN (lv' := [(3, .null), (0, .ref x), (1, .int (iI rr)), (2, .int (iI v))]) C.1 C.2.1 dX10_first_5 rfl hl (by decide) rfl (fun ls hl => ?_)
  refine lv_aload_nN C.1 C.2.1 dX10_first_6 rfl (lv_at hl 0 rfl) ?_
  refine lv_ifnullN (tgt := 17) C.1 C.2.1 dX10_first_7 (by decide) ?_
  refine lv_iconst (v := iI (-1)) C.1 C.2.1 dX10_first_17 rfl ?_
  rw [hQ]
  have hP9 : ∃ z : Int, (some (Value.int (iI (-1)))) = some (.int (iI z)) ∧ (z = -1) := ⟨_, rfl, (by first | omega | assumption | (intros; first | rfl | omega | assumption | (and_intros <;> first | rfl | omega | assumption)))⟩
  exact z_iretR C hr hlocks hP9 dX10_first_18
set_option maxHeartbeats 4000000 in
set_option maxRecDepth 100000 in
/-- X10_often -/
theorem c_X10_often (l : Launch) (G : GG) (x : Nat) (rg : Nat) (mk : Nat) (mh : Nat) (th : Nat) (ih : Nat) (nh : Nat) (fh : Nat) (sh : Nat) (ro : Nat) (ts : Nat) (rw : Int → Nat) (rr : Int) (ma : Nat) (ae : Nat) (bo : Nat) (bi : Nat) (no : Nat) (S : Nat) (f : Int → Int) (e : Int → Int) (M : Int) (L : Int) (n : Int) (B : Int → Int) (g : Int → Int) (v : Int) (k : Int) (hr9 : 0 ≤ rr ∧ rr ≤ 3) (hS : S < 7) (hVB : AllowsR S n B) (hf : BD f) (he : BD e) (hg : BD g) (hB : BD B) (hM : M = 0 ∨ (M = 1 ∧ RowR S n B L g)) (hv : -2147483648 ≤ v ∧ v ≤ 2147483647) (hk : -2147483648 ≤ k ∧ k ≤ 2147483647) : MQc l yX10_often wsX10_often 5 G [.ref x, .int (iI rr), .int (iI v), .int (iI k)] [(x, .inr (8, [.ref rg, .ref mk, .ref mh, .ref th, .ref ih, .ref nh, .ref fh, .ref sh, .ref ro, .ref ts])), (rg, .inl (G.2.1 3, 4, .inr (.inr (.inr (.inr (regF rw)))))), (mh, .inr (1, [.ref mk, .ref ae])), (mk, .inr (2, [.ref ma])), (ma, .inl (G.2.1 0, 60001, .inl (iA f))), (ae, .inl (G.2.1 0, 1000, .inl (iA e))), (rw rr, .inr (4, [.ref bo, .ref no, .ref (G.2.2 S), .int (iI M), .int (iI L)])), (bo, .inr (5, [.ref bi, .int (iI n)])), (bi, .inl (G.2.1 0, 6, .inl (iA B))), (no, .inl (G.2.1 0, 2000, .inl (iA g)))] (fun r (u : (Int → Int) × (Int → Int) × Int × (Int → Int)) => ∃ z : Int, r = some (.int (iI z)) ∧ ((0 ≤ v ∧ v ≤ 60000) ∧ (0 ≤ k ∧ k ≤ 2000) → z = oc u.2.2.2 v (min k u.2.2.1)) ∧ (¬ ((0 ≤ v ∧ v ≤ 60000) ∧ (0 ≤ k ∧ k ≤ 2000)) → z = -1) ∧ (RowR S n B u.2.2.1 u.2.2.2) ∧ (BD u.1) ∧ (BD u.2.1) ∧ (BD u.2.2.2)) (fun u => [(x, .inr (8, [.ref rg, .ref mk, .ref mh, .ref th, .ref ih, .ref nh, .ref fh, .ref sh, .ref ro, .ref ts])), (rg, .inl (G.2.1 3, 4, .inr (.inr (.inr (.inr (regF rw)))))), (mh, .inr (1, [.ref mk, .ref ae])), (mk, .inr (2, [.ref ma])), (ma, .inl (G.2.1 0, 60001, .inl (iA u.1))), (ae, .inl (G.2.1 0, 1000, .inl (iA u.2.1))), (rw rr, .inr (4, [.ref bo, .ref no, .ref (G.2.2 S), .int (iI 1), .int (iI u.2.2.1)])), (bo, .inr (5, [.ref bi, .int (iI n)])), (bi, .inl (G.2.1 0, 6, .inl (iA B))), (no, .inl (G.2.1 0, 2000, .inl (iA u.2.2.2)))]) := by
  refine MQc.start (own := RX10) (by decide) rfl rfl (Nat.le_of_ble_eq_true rfl) ?_
  intro p9 e9 s9 m9 args below meth c9 A Q C hK hW hA hr hlocks hQ ls hl
  have hl : lv_has ls 5 [(0, .ref x), (1, .int (iI rr)), (2, .int (iI v)), (3, .int (iI k))] := hl
  have hin2 : ∀ w ∈ wsX20, w ∈ wsX10_often := by decide +kernel
  have hin3 : ∀ w ∈ wsX30, w ∈ wsX10_often := by decide +kernel
  have hin5 : ∀ w ∈ wsX50, w ∈ wsX10_often := by decide +kernel
  have hin6 : ∀ w ∈ wsX60, w ∈ wsX10_often := by decide +kernel
  have hin10 : ∀ w ∈ wsX100, w ∈ wsX10_often := by decide +kernel
  refine lv_aload_n C.1 C.2.1 dX10_often_0 rfl (lv_at hl 0 rfl) ?_
  refine lv_iload_n C.1 C.2.1 dX10_often_1 rfl (lv_at hl 1 rfl) ?_
  refine z_call (va_runV (As := [.int (iI rr)]) (rest := []) C (c_X10_madeRow l G x rg mk mh th ih nh fh sh ro ts rw rr ma ae bo bi no S f e M L n B g hr9 hS hVB hf he hg hB hM s9.heap.size) (cwV 1 C.2.2.2.2 gX10_often_X10_madeRow rfl rfl rfl (by decide +kernel) ⟨Nat.le_of_ble_eq_true rfl, Nat.le_of_ble_eq_true rfl⟩) (z_preV hK hW hA [0, 1, 2, 3, 4, 5, 6, 7, 8, 9] rfl (by decide) (ci := 8) (q0 := 0) rfl rfl) rfl rfl hl.1 rfl (lv_room (Nat.le_of_ble_eq_true rfl)) dX10_often_2 ⟨Nat.zero_le _, Nat.zero_le _⟩) hW hA [0, 1, 2, 3, 4, 5, 6, 7, 8, 9] rfl (by decide) (fun _ => rfl) (fun r u H locs hp hW => ?_)
  obtain ⟨f2_2, e2_2, L2_2, g2_2⟩ := u
  have hW : Wd G A s9.heap [(x, .inr (8, [.ref rg, .ref mk, .ref mh, .ref th, .ref ih, .ref nh, .ref fh, .ref sh, .ref ro, .ref ts])), (rg, .inl (G.2.1 3, 4, .inr (.inr (.inr (.inr (regF rw)))))), (mh, .inr (1, [.ref mk, .ref ae])), (mk, .inr (2, [.ref ma])), (ma, .inl (G.2.1 0, 60001, .inl (iA f2_2))), (ae, .inl (G.2.1 0, 1000, .inl (iA e2_2))), (rw rr, .inr (4, [.ref bo, .ref no, .ref (G.2.2 S), .int (iI 1), .int (iI L2_2)])), (bo, .inr (5, [.ref bi, .int (iI n)])), (bi, .inl (G.2.1 0, 6, .inl (iA B))), (no, .inl (G.2.1 0, 2000, .inl (iA g2_2)))] H locs := hW
  have hp : (r = some (.ref (rw rr)) ∧ True) ∧ (RowR S n B L2_2 g2_2) ∧ (BD f2_2) ∧ (BD e2_2) ∧ (BD g2_2) := hp
  obtain ⟨hq_2, hz_2_1, hz_2_2, hz_2_3, hz_2_4⟩ := hp
  have hRV := hz_2_1.2.2.2.1
  have hRL := hz_2_1.2.1
  have hRL2 := hz_2_1.2.2.1
  obtain ⟨rfl, hd_2⟩ := hq_2
  refine lv_astore (lv' := [(4, .ref (rw rr)), (0, .ref x), (1, .int (iI rr)), (2, .int (iI v)), (3, .int (iI k))]) C.1 C.2.1 dX10_often_5 hl (by decide) rfl (fun ls hl => ?_)
  refine lv_aload C.1 C.2.1 dX10_often_7 (lv_at hl 0 rfl) ?_
  refine lv_ifnull C.1 C.2.1 dX10_often_9 ?_
  refine lv_iload_n C.1 C.2.1 dX10_often_12 rfl (lv_at hl 3 rfl) ?_
  refine z_callR (va_runS (As := [.int (iI v)]) (rest := []) C (c_X10_isNumber l G v hv H.size) (va_cwS 1 C.2.2.2.2 gX10_often_X10_isNumber rfl rfl rfl (by decide +kernel) ⟨Nat.le_of_ble_eq_true rfl, Nat.le_of_ble_eq_true rfl⟩) (z_preS hK hW hA [] rfl (by decide)) rfl rfl hl.1 rfl (lv_room (Nat.le_of_ble_eq_true rfl)) dX10_often_13 ⟨Nat.zero_le _, Nat.zero_le _⟩) (fun r hp => ?_)
  have hp : ∃ z : Int, r = some (.int (iI z)) ∧ ((z = 1 ∧ 0 ≤ v ∧ v ≤ 60000) ∨ (z = 0 ∧ ¬ (0 ≤ v ∧ v ≤ 60000))) := hp
  obtain ⟨z_13, rfl, hz_13_0⟩ := hp
  refine z_if_eq (tgt := 30) C dX10_often_16 (by decide) (by omega) (fun c_16 => ?_) (fun c_16 => ?_)
  ·
    refine lv_iconst (v := iI (-1)) C.1 C.2.1 dX10_often_30 rfl ?_
    rw [hQ]
    have hP9 : ∃ z : Int, (some (Value.int (iI (-1)))) = some (.int (iI z)) ∧ ((0 ≤ v ∧ v ≤ 60000) ∧ (0 ≤ k ∧ k ≤ 2000) → z = oc g2_2 v (min k L2_2)) ∧ (¬ ((0 ≤ v ∧ v ≤ 60000) ∧ (0 ≤ k ∧ k ≤ 2000)) → z = -1) ∧ (RowR S n B L2_2 g2_2) ∧ (BD f2_2) ∧ (BD e2_2) ∧ (BD g2_2) := ⟨_, rfl, (fun q9 => by omega), (by first | omega | assumption | (intros; first | rfl | omega | assumption | (and_intros <;> first | rfl | omega | assumption))), hz_2_1, hz_2_2, hz_2_3, hz_2_4⟩
    exact z_iret C hr hlocks hW (f2_2, e2_2, L2_2, g2_2) rfl hP9 dX10_often_31
  ·
    refine lv_iload_n C.1 C.2.1 dX10_often_19 rfl (lv_at hl 4 rfl) ?_
    refine z_if_lt (tgt := 30) C dX10_often_20 (by decide) (by omega) (fun c_20 => ?_) (fun c_20 => ?_)
    ·
      refine lv_iconst (v := iI (-1)) C.1 C.2.1 dX10_often_30 rfl ?_
      rw [hQ]
      have hP9 : ∃ z : Int, (some (Value.int (iI (-1)))) = some (.int (iI z)) ∧ ((0 ≤ v ∧ v ≤ 60000) ∧ (0 ≤ k ∧ k ≤ 2000) → z = oc g2_2 v (min k L2_2)) ∧ (¬ ((0 ≤ v ∧ v ≤ 60000) ∧ (0 ≤ k ∧ k ≤ 2000)) → z = -1) ∧ (RowR S n B L2_2 g2_2) ∧ (BD f2_2) ∧ (BD e2_2) ∧ (BD g2_2) := ⟨_, rfl, (fun q9 => by omega), (by first | omega | assumption | (intros; first | rfl | omega | assumption | (and_intros <;> first | rfl | omega | assumption))), hz_2_1, hz_2_2, hz_2_3, hz_2_4⟩
      exact z_iret C hr hlocks hW (f2_2, e2_2, L2_2, g2_2) rfl hP9 dX10_often_31
    ·
      refine lv_iload_n C.1 C.2.1 dX10_often_23 rfl (lv_at hl 4 rfl) ?_
      refine lv_sipush (v := iI 2000) C.1 C.2.1 dX10_often_24 (by decide +kernel) ?_
      refine z_icmp_le (tgt := 32) C dX10_often_27 (by decide) (by omega) (fun c_27 => ?_) (fun c_27 => ?_)
      ·
        refine lv_aload C.1 C.2.1 dX10_often_32 (lv_at hl 0 rfl) ?_
        refine lv_iload_n C.1 C.2.1 dX10_often_34 rfl (lv_at hl 3 rfl) ?_
        refine lv_iload_n C.1 C.2.1 dX10_often_35 rfl (lv_at hl 4 rfl) ?_
        refine z_callR (va_runV (As := [.int (iI v), .int (iI k)]) (rest := []) C (c_X5_countOf l G (rw rr) bo no (G.2.2 S) 1 L2_2 g2_2 v k (by first | omega | assumption | (intros; first | rfl | omega | assumption | (and_intros <;> first | rfl | omega | assumption))) hz_2_4 hv (by first | omega | assumption | (intros; first | rfl | omega | assumption | (and_intros <;> first | rfl | omega | assumption))) H.size) (cwV 2 C.2.2.2.2 gX10_often_X5_countOf rfl rfl rfl (by decide +kernel) ⟨Nat.le_of_ble_eq_true rfl, Nat.le_of_ble_eq_true rfl⟩) (z_preV hK hW hA [6, 9] rfl (by decide) (ci := 4) (q0 := 6) rfl rfl) rfl rfl hl.1 rfl (lv_room (Nat.le_of_ble_eq_true rfl)) dX10_often_36 ⟨Nat.zero_le _, Nat.zero_le _⟩) (fun r hp => ?_)
        have hp : ∃ z : Int, r = some (.int (iI z)) ∧ (z = oc g2_2 v (min k L2_2)) := hp
        obtain ⟨z_36, rfl, hz_36_0⟩ := hp
        rw [hQ]
        have hP9 : ∃ z : Int, (some (Value.int (iI z_36))) = some (.int (iI z)) ∧ ((0 ≤ v ∧ v ≤ 60000) ∧ (0 ≤ k ∧ k ≤ 2000) → z = oc g2_2 v (min k L2_2)) ∧ (¬ ((0 ≤ v ∧ v ≤ 60000) ∧ (0 ≤ k ∧ k ≤ 2000)) → z = -1) ∧ (RowR S n B L2_2 g2_2) ∧ (BD f2_2) ∧ (BD e2_2) ∧ (BD g2_2) := ⟨_, rfl, (fun _ => hz_36_0), (fun q9 => by omega), hz_2_1, hz_2_2, hz_2_3, hz_2_4⟩
        exact z_iret C hr hlocks hW (f2_2, e2_2, L2_2, g2_2) rfl hP9 dX10_often_39
      ·
        refine lv_iconst (v := iI (-1)) C.1 C.2.1 dX10_often_30 rfl ?_
        rw [hQ]
        have hP9 : ∃ z : Int, (some (Value.int (iI (-1)))) = some (.int (iI z)) ∧ ((0 ≤ v ∧ v ≤ 60000) ∧ (0 ≤ k ∧ k ≤ 2000) → z = oc g2_2 v (min k L2_2)) ∧ (¬ ((0 ≤ v ∧ v ≤ 60000) ∧ (0 ≤ k ∧ k ≤ 2000)) → z = -1) ∧ (RowR S n B L2_2 g2_2) ∧ (BD f2_2) ∧ (BD e2_2) ∧ (BD g2_2) := ⟨_, rfl, (fun q9 => by omega), (by first | omega | assumption | (intros; first | rfl | omega | assumption | (and_intros <;> first | rfl | omega | assumption))), hz_2_1, hz_2_2, hz_2_3, hz_2_4⟩
        exact z_iret C hr hlocks hW (f2_2, e2_2, L2_2, g2_2) rfl hP9 dX10_often_31
set_option maxHeartbeats 4000000 in
set_option maxRecDepth 100000 in
/-- X10_often, none -/
theorem c_X10_often_bad (l : Launch) (G : GG) (x : Nat) (rg : Nat) (mk : Nat) (mh : Nat) (th : Nat) (ih : Nat) (nh : Nat) (fh : Nat) (sh : Nat) (ro : Nat) (ts : Nat) (rw : Int → Nat) (rr : Int) (v : Int) (k : Int) (hr9 : ¬ (0 ≤ rr ∧ rr ≤ 3)) (hrr : -2147483648 ≤ rr ∧ rr ≤ 2147483647) : MRc l yX10_often wsX10_often 5 G [.ref x, .int (iI rr), .int (iI v), .int (iI k)] [(x, .inr (8, [.ref rg, .ref mk, .ref mh, .ref th, .ref ih, .ref nh, .ref fh, .ref sh, .ref ro, .ref ts])), (rg, .inl (G.2.1 3, 4, .inr (.inr (.inr (.inr (regF rw))))))] (fun r => ∃ z : Int, r = some (.int (iI z)) ∧ (z = -1)) := by
  refine MRc.start (own := RX10) (by decide) rfl rfl (Nat.le_of_ble_eq_true rfl) ?_
  intro p9 e9 s9 m9 args below meth c9 A Q C hK hW hA hr hlocks hQ ls hl
  have hl : lv_has ls 5 [(0, .ref x), (1, .int (iI rr)), (2, .int (iI v)), (3, .int (iI k))] := hl
  have hin2 : ∀ w ∈ wsX20, w ∈ wsX10_often := by decide +kernel
  have hin3 : ∀ w ∈ wsX30, w ∈ wsX10_often := by decide +kernel
  have hin5 : ∀ w ∈ wsX50, w ∈ wsX10_often := by decide +kernel
  have hin6 : ∀ w ∈ wsX60, w ∈ wsX10_often := by decide +kernel
  have hin10 : ∀ w ∈ wsX100, w ∈ wsX10_often := by decide +kernel
  refine lv_aload_n C.1 C.2.1 dX10_often_0 rfl (lv_at hl 0 rfl) ?_
  refine lv_iload_n C.1 C.2.1 dX10_often_1 rfl (lv_at hl 1 rfl) ?_
  refine z_callR (va_runV (As := [.int (iI rr)]) (rest := []) C (c_X10_madeRow_bad l G x rg mk mh th ih nh fh sh ro ts rw rr hr9 hrr s9.heap.size) (cwV 1 C.2.2.2.2 gX10_often_X10_madeRow rfl rfl rfl (by decide +kernel) ⟨Nat.le_of_ble_eq_true rfl, Nat.le_of_ble_eq_true rfl⟩) (z_preV hK hW hA [0, 1] rfl (by decide) (ci := 8) (q0 := 0) rfl rfl) rfl rfl hl.1 rfl (lv_room (Nat.le_of_ble_eq_true rfl)) dX10_often_2 ⟨Nat.zero_le _, Nat.zero_le _⟩) (fun r hp => ?_)
  have hp : (r = some .null ∧ True) := hp
  have hq_2 := hp
  obtain ⟨rfl, hd_2⟩ := hq_2
  refine lv_astoreN (lv' := [(4, .null), (0, .ref x), (1, .int (iI rr)), (2, .int (iI v)), (3, .int (iI k))]) C.1 C.2.1 dX10_often_5 hl (by decide) rfl (fun ls hl => ?_)
  refine lv_aloadN C.1 C.2.1 dX10_often_7 (lv_at hl 0 rfl) ?_
  refine lv_ifnullN (tgt := 30) C.1 C.2.1 dX10_often_9 (by decide) ?_
  refine lv_iconst (v := iI (-1)) C.1 C.2.1 dX10_often_30 rfl ?_
  rw [hQ]
  have hP9 : ∃ z : Int, (some (Value.int (iI (-1)))) = some (.int (iI z)) ∧ (z = -1) := ⟨_, rfl, (by first | omega | assumption | (intros; first | rfl | omega | assumption | (and_intros <;> first | rfl | omega | assumption)))⟩
  exact z_iretR C hr hlocks hP9 dX10_often_31
set_option maxHeartbeats 4000000 in
set_option maxRecDepth 100000 in
/-- X10_run -/
theorem c_X10_run (l : Launch) (G : GG) (x : Nat) (rg : Nat) (mk : Nat) (mh : Nat) (th : Nat) (ih : Nat) (nh : Nat) (fh : Nat) (sh : Nat) (ro : Nat) (ts : Nat) (rw : Int → Nat) (rr : Int) (ma : Nat) (ae : Nat) (bo : Nat) (bi : Nat) (no : Nat) (S : Nat) (f : Int → Int) (e : Int → Int) (M : Int) (L : Int) (n : Int) (B : Int → Int) (g : Int → Int) (k : Int) (w : Int) (hr9 : 0 ≤ rr ∧ rr ≤ 3) (hS : S < 7) (hVB : AllowsR S n B) (hf : BD f) (he : BD e) (hg : BD g) (hB : BD B) (hM : M = 0 ∨ (M = 1 ∧ RowR S n B L g)) (hk : -2147483648 ≤ k ∧ k ≤ 2147483647) (hw : -2147483648 ≤ w ∧ w ≤ 2147483647) : MQc l yX10_run wsX10_run 5 G [.ref x, .int (iI rr), .int (iI k), .int (iI w)] [(x, .inr (8, [.ref rg, .ref mk, .ref mh, .ref th, .ref ih, .ref nh, .ref fh, .ref sh, .ref ro, .ref ts])), (rg, .inl (G.2.1 3, 4, .inr (.inr (.inr (.inr (regF rw)))))), (mh, .inr (1, [.ref mk, .ref ae])), (mk, .inr (2, [.ref ma])), (ma, .inl (G.2.1 0, 60001, .inl (iA f))), (ae, .inl (G.2.1 0, 1000, .inl (iA e))), (rw rr, .inr (4, [.ref bo, .ref no, .ref (G.2.2 S), .int (iI M), .int (iI L)])), (bo, .inr (5, [.ref bi, .int (iI n)])), (bi, .inl (G.2.1 0, 6, .inl (iA B))), (no, .inl (G.2.1 0, 2000, .inl (iA g)))] (fun r (u : (Int → Int) × (Int → Int) × Int × (Int → Int)) => ∃ z : Int, r = some (.int (iI z)) ∧ (0 ≤ k ∧ 0 ≤ w ∧ w ≤ 2 → RunQ u.2.2.2 u.2.2.1 k w z) ∧ (¬ (0 ≤ k ∧ 0 ≤ w ∧ w ≤ 2) → z = -1) ∧ (RowR S n B u.2.2.1 u.2.2.2) ∧ (BD u.1) ∧ (BD u.2.1) ∧ (BD u.2.2.2)) (fun u => [(x, .inr (8, [.ref rg, .ref mk, .ref mh, .ref th, .ref ih, .ref nh, .ref fh, .ref sh, .ref ro, .ref ts])), (rg, .inl (G.2.1 3, 4, .inr (.inr (.inr (.inr (regF rw)))))), (mh, .inr (1, [.ref mk, .ref ae])), (mk, .inr (2, [.ref ma])), (ma, .inl (G.2.1 0, 60001, .inl (iA u.1))), (ae, .inl (G.2.1 0, 1000, .inl (iA u.2.1))), (rw rr, .inr (4, [.ref bo, .ref no, .ref (G.2.2 S), .int (iI 1), .int (iI u.2.2.1)])), (bo, .inr (5, [.ref bi, .int (iI n)])), (bi, .inl (G.2.1 0, 6, .inl (iA B))), (no, .inl (G.2.1 0, 2000, .inl (iA u.2.2.2)))]) := by
  refine MQc.start (own := RX10) (by decide) rfl rfl (Nat.le_of_ble_eq_true rfl) ?_
  intro p9 e9 s9 m9 args below meth c9 A Q C hK hW hA hr hlocks hQ ls hl
  have hl : lv_has ls 6 [(0, .ref x), (1, .int (iI rr)), (2, .int (iI k)), (3, .int (iI w))] := hl
  have hin2 : ∀ w ∈ wsX20, w ∈ wsX10_run := by decide +kernel
  have hin3 : ∀ w ∈ wsX30, w ∈ wsX10_run := by decide +kernel
  have hin5 : ∀ w ∈ wsX50, w ∈ wsX10_run := by decide +kernel
  have hin6 : ∀ w ∈ wsX60, w ∈ wsX10_run := by decide +kernel
  have hin10 : ∀ w ∈ wsX100, w ∈ wsX10_run := by decide +kernel
  refine lv_aload_n C.1 C.2.1 dX10_run_0 rfl (lv_at hl 0 rfl) ?_
  refine lv_iload_n C.1 C.2.1 dX10_run_1 rfl (lv_at hl 1 rfl) ?_
  refine z_call (va_runV (As := [.int (iI rr)]) (rest := []) C (c_X10_madeRow l G x rg mk mh th ih nh fh sh ro ts rw rr ma ae bo bi no S f e M L n B g hr9 hS hVB hf he hg hB hM s9.heap.size) (cwV 1 C.2.2.2.2 gX10_run_X10_madeRow rfl rfl rfl (by decide +kernel) ⟨Nat.le_of_ble_eq_true rfl, Nat.le_of_ble_eq_true rfl⟩) (z_preV hK hW hA [0, 1, 2, 3, 4, 5, 6, 7, 8, 9] rfl (by decide) (ci := 8) (q0 := 0) rfl rfl) rfl rfl hl.1 rfl (lv_room (Nat.le_of_ble_eq_true rfl)) dX10_run_2 ⟨Nat.zero_le _, Nat.zero_le _⟩) hW hA [0, 1, 2, 3, 4, 5, 6, 7, 8, 9] rfl (by decide) (fun _ => rfl) (fun r u H locs hp hW => ?_)
  obtain ⟨f2_2, e2_2, L2_2, g2_2⟩ := u
  have hW : Wd G A s9.heap [(x, .inr (8, [.ref rg, .ref mk, .ref mh, .ref th, .ref ih, .ref nh, .ref fh, .ref sh, .ref ro, .ref ts])), (rg, .inl (G.2.1 3, 4, .inr (.inr (.inr (.inr (regF rw)))))), (mh, .inr (1, [.ref mk, .ref ae])), (mk, .inr (2, [.ref ma])), (ma, .inl (G.2.1 0, 60001, .inl (iA f2_2))), (ae, .inl (G.2.1 0, 1000, .inl (iA e2_2))), (rw rr, .inr (4, [.ref bo, .ref no, .ref (G.2.2 S), .int (iI 1), .int (iI L2_2)])), (bo, .inr (5, [.ref bi, .int (iI n)])), (bi, .inl (G.2.1 0, 6, .inl (iA B))), (no, .inl (G.2.1 0, 2000, .inl (iA g2_2)))] H locs := hW
  have hp : (r = some (.ref (rw rr)) ∧ True) ∧ (RowR S n B L2_2 g2_2) ∧ (BD f2_2) ∧ (BD e2_2) ∧ (BD g2_2) := hp
  obtain ⟨hq_2, hz_2_1, hz_2_2, hz_2_3, hz_2_4⟩ := hp
  have hRV := hz_2_1.2.2.2.1
  have hRL := hz_2_1.2.1
  have hRL2 := hz_2_1.2.2.1
  obtain ⟨rfl, hd_2⟩ := hq_2
  refine lv_astore (lv' := [(4, .ref (rw rr)), (0, .ref x), (1, .int (iI rr)), (2, .int (iI k)), (3, .int (iI w))]) C.1 C.2.1 dX10_run_5 hl (by decide) rfl (fun ls hl => ?_)
  refine lv_aload C.1 C.2.1 dX10_run_7 (lv_at hl 0 rfl) ?_
  refine lv_ifnull C.1 C.2.1 dX10_run_9 ?_
  refine lv_iload_n C.1 C.2.1 dX10_run_12 rfl (lv_at hl 3 rfl) ?_
  refine z_if_lt (tgt := 25) C dX10_run_13 (by decide) (by omega) (fun c_13 => ?_) (fun c_13 => ?_)
  ·
    refine lv_iconst (v := iI (-1)) C.1 C.2.1 dX10_run_25 rfl ?_
    rw [hQ]
    have hP9 : ∃ z : Int, (some (Value.int (iI (-1)))) = some (.int (iI z)) ∧ (0 ≤ k ∧ 0 ≤ w ∧ w ≤ 2 → RunQ g2_2 L2_2 k w z) ∧ (¬ (0 ≤ k ∧ 0 ≤ w ∧ w ≤ 2) → z = -1) ∧ (RowR S n B L2_2 g2_2) ∧ (BD f2_2) ∧ (BD e2_2) ∧ (BD g2_2) := ⟨_, rfl, (fun q9 => by omega), (by first | omega | assumption | (intros; first | rfl | omega | assumption | (and_intros <;> first | rfl | omega | assumption))), hz_2_1, hz_2_2, hz_2_3, hz_2_4⟩
    exact z_iret C hr hlocks hW (f2_2, e2_2, L2_2, g2_2) rfl hP9 dX10_run_26
  ·
    refine lv_iload_n C.1 C.2.1 dX10_run_16 rfl (lv_at hl 4 rfl) ?_
    refine z_if_lt (tgt := 25) C dX10_run_17 (by decide) (by omega) (fun c_17 => ?_) (fun c_17 => ?_)
    ·
      refine lv_iconst (v := iI (-1)) C.1 C.2.1 dX10_run_25 rfl ?_
      rw [hQ]
      have hP9 : ∃ z : Int, (some (Value.int (iI (-1)))) = some (.int (iI z)) ∧ (0 ≤ k ∧ 0 ≤ w ∧ w ≤ 2 → RunQ g2_2 L2_2 k w z) ∧ (¬ (0 ≤ k ∧ 0 ≤ w ∧ w ≤ 2) → z = -1) ∧ (RowR S n B L2_2 g2_2) ∧ (BD f2_2) ∧ (BD e2_2) ∧ (BD g2_2) := ⟨_, rfl, (fun q9 => by omega), (by first | omega | assumption | (intros; first | rfl | omega | assumption | (and_intros <;> first | rfl | omega | assumption))), hz_2_1, hz_2_2, hz_2_3, hz_2_4⟩
      exact z_iret C hr hlocks hW (f2_2, e2_2, L2_2, g2_2) rfl hP9 dX10_run_26
    ·
      refine lv_iload_n C.1 C.2.1 dX10_run_20 rfl (lv_at hl 4 rfl) ?_
      refine lv_iconst (v := iI 2) C.1 C.2.1 dX10_run_21 rfl ?_
      refine z_icmp_le (tgt := 27) C dX10_run_22 (by decide) (by omega) (fun c_22 => ?_) (fun c_22 => ?_)
      ·
        refine lv_aload C.1 C.2.1 dX10_run_27 (lv_at hl 0 rfl) ?_
        refine lv_iload_n C.1 C.2.1 dX10_run_29 rfl (lv_at hl 3 rfl) ?_
        refine z_callR (va_runV (As := [.int (iI k)]) (rest := []) C (c_X5_runStart l G (rw rr) bo no (G.2.2 S) 1 L2_2 g2_2 k (by first | omega | assumption | (intros; first | rfl | omega | assumption | (and_intros <;> first | rfl | omega | assumption))) hz_2_4 (by first | omega | assumption | (intros; first | rfl | omega | assumption | (and_intros <;> first | rfl | omega | assumption))) H.size) (cwV 1 C.2.2.2.2 gX10_run_X5_runStart rfl rfl rfl (by decide +kernel) ⟨Nat.le_of_ble_eq_true rfl, Nat.le_of_ble_eq_true rfl⟩) (z_preV hK hW hA [6, 9] rfl (by decide) (ci := 4) (q0 := 6) rfl rfl) rfl rfl hl.1 rfl (lv_room (Nat.le_of_ble_eq_true rfl)) dX10_run_30 ⟨Nat.zero_le _, Nat.zero_le _⟩) (fun r hp => ?_)
        have hp : ∃ z : Int, r = some (.int (iI z)) ∧ (StartR g2_2 L2_2 k z) := hp
        obtain ⟨z_30, rfl, hz_30_0⟩ := hp
        have hst : (0 ≤ z_30 ∧ z_30 < L2_2) ∨ z_30 = -4 := hz_30_0.elim (fun q => Or.inl ⟨q.1, q.2.1⟩) (fun q => Or.inr q.1)
        refine lv_istore (lv' := [(5, .int (iI z_30)), (4, .ref (rw rr)), (0, .ref x), (1, .int (iI rr)), (2, .int (iI k)), (3, .int (iI w))]) C.1 C.2.1 dX10_run_33 hl (by decide) rfl (fun ls hl => ?_)
        refine lv_iload C.1 C.2.1 dX10_run_35 (lv_at hl 0 rfl) ?_
        refine lv_bipush (v := iI (-4)) C.1 C.2.1 dX10_run_37 (by decide +kernel) ?_
        refine z_icmp_eq (tgt := 47) C dX10_run_39 (by decide) (by omega) (fun c_39 => ?_) (fun c_39 => ?_)
        ·
          refine lv_iload C.1 C.2.1 dX10_run_47 (lv_at hl 0 rfl) ?_
          rw [hQ]
          have hP9 : ∃ z : Int, (some (Value.int (iI z_30))) = some (.int (iI z)) ∧ (0 ≤ k ∧ 0 ≤ w ∧ w ≤ 2 → RunQ g2_2 L2_2 k w z) ∧ (¬ (0 ≤ k ∧ 0 ≤ w ∧ w ≤ 2) → z = -1) ∧ (RowR S n B L2_2 g2_2) ∧ (BD f2_2) ∧ (BD e2_2) ∧ (BD g2_2) := ⟨_, rfl, (fun _ => ⟨z_30, hz_30_0, fun q9 => q9, fun q9 => ⟨fun q8 => by omega, fun q8 => by omega, fun _ => rfl⟩⟩), (fun q9 => by omega), hz_2_1, hz_2_2, hz_2_3, hz_2_4⟩
          exact z_iret C hr hlocks hW (f2_2, e2_2, L2_2, g2_2) rfl hP9 dX10_run_49
        ·
          refine lv_iload_n C.1 C.2.1 dX10_run_42 rfl (lv_at hl 5 rfl) ?_
          refine lv_iconst (v := iI 2) C.1 C.2.1 dX10_run_43 rfl ?_
          refine z_icmp_ne (tgt := 50) C dX10_run_44 (by decide) (by omega) (fun c_44 => ?_) (fun c_44 => ?_)
          ·
            refine lv_iload_n C.1 C.2.1 dX10_run_50 rfl (lv_at hl 5 rfl) ?_
            refine z_if_ne (tgt := 64) C dX10_run_51 (by decide) (by omega) (fun c_51 => ?_) (fun c_51 => ?_)
            ·
              refine lv_aload C.1 C.2.1 dX10_run_64 (lv_at hl 1 rfl) ?_
              refine lv_iload C.1 C.2.1 dX10_run_66 (lv_at hl 0 rfl) ?_
              refine lv_aload C.1 C.2.1 dX10_run_68 (lv_at hl 1 rfl) ?_
              refine z_getN C hK hW hin5 (v := .int (iI L2_2)) 6 rfl rfl 4 (by decide) (nw_f_RX10_143 hK.2.1) (fun _ h9 => h9) rfl dX10_run_70 ?_
              refine z_callR (va_runV (As := [.int (iI z_30), .int (iI L2_2)]) (rest := []) C (c_X5_runEnd l G (rw rr) bo no (G.2.2 S) 1 L2_2 g2_2 z_30 L2_2 (by first | omega | assumption | (intros; first | rfl | omega | assumption | (and_intros <;> first | rfl | omega | assumption))) hz_2_4 (by first | omega | assumption | (intros; first | rfl | omega | assumption | (and_intros <;> first | rfl | omega | assumption))) H.size) (cwV 2 C.2.2.2.2 gX10_run_X5_runEnd rfl rfl rfl (by decide +kernel) ⟨Nat.le_of_ble_eq_true rfl, Nat.le_of_ble_eq_true rfl⟩) (z_preV hK hW hA [6, 9] rfl (by decide) (ci := 4) (q0 := 6) rfl rfl) rfl rfl hl.1 rfl (lv_room (Nat.le_of_ble_eq_true rfl)) dX10_run_73 ⟨Nat.zero_le _, Nat.zero_le _⟩) (fun r hp => ?_)
              have hp : ∃ z : Int, r = some (.int (iI z)) ∧ (RunE g2_2 z_30 L2_2 z) := hp
              obtain ⟨z_73, rfl, hz_73_0⟩ := hp
              refine lv_iload C.1 C.2.1 dX10_run_76 (lv_at hl 0 rfl) ?_
              refine z_isub C dX10_run_78 ?_
              rw [hQ]
              have hP9 : ∃ z : Int, (some (Value.int (iI (z_73 - z_30)))) = some (.int (iI z)) ∧ (0 ≤ k ∧ 0 ≤ w ∧ w ≤ 2 → RunQ g2_2 L2_2 k w z) ∧ (¬ (0 ≤ k ∧ 0 ≤ w ∧ w ≤ 2) → z = -1) ∧ (RowR S n B L2_2 g2_2) ∧ (BD f2_2) ∧ (BD e2_2) ∧ (BD g2_2) := ⟨_, rfl, (fun _ => ⟨z_30, hz_30_0, fun q9 => by omega, fun q9 => ⟨fun q8 => by first | exact hz_58_0 (by omega) | omega, fun q8 => by first | exact ⟨z_73, hz_73_0, rfl⟩ | omega, fun q8 => by omega⟩⟩), (fun q9 => by omega), hz_2_1, hz_2_2, hz_2_3, hz_2_4⟩
              exact z_iret C hr hlocks hW (f2_2, e2_2, L2_2, g2_2) rfl hP9 dX10_run_79
            ·
              refine lv_aload C.1 C.2.1 dX10_run_54 (lv_at hl 1 rfl) ?_
              refine lv_iload C.1 C.2.1 dX10_run_56 (lv_at hl 0 rfl) ?_
              refine z_callR (va_runV (As := [.int (iI z_30)]) (rest := []) C (c_X5_numberAt l G (rw rr) bo no (G.2.2 S) 1 L2_2 g2_2 z_30 (by first | omega | assumption | (intros; first | rfl | omega | assumption | (and_intros <;> first | rfl | omega | assumption))) hz_2_4 (by first | omega | assumption | (intros; first | rfl | omega | assumption | (and_intros <;> first | rfl | omega | assumption))) H.size) (cwV 1 C.2.2.2.2 gX10_run_X5_numberAt rfl rfl rfl (by decide +kernel) ⟨Nat.le_of_ble_eq_true rfl, Nat.le_of_ble_eq_true rfl⟩) (z_preV hK hW hA [6, 9] rfl (by decide) (ci := 4) (q0 := 6) rfl rfl) rfl rfl hl.1 rfl (lv_room (Nat.le_of_ble_eq_true rfl)) dX10_run_58 ⟨Nat.zero_le _, Nat.zero_le _⟩) (fun r hp => ?_)
              have hp : ∃ z : Int, r = some (.int (iI z)) ∧ (0 ≤ z_30 ∧ z_30 < L2_2 → z = g2_2 z_30) ∧ (¬ (0 ≤ z_30 ∧ z_30 < L2_2) → z = -4) ∧ (-2147483648 ≤ z ∧ z ≤ 2147483647) := hp
              obtain ⟨z_58, rfl, hz_58_0, hz_58_1, hz_58_2⟩ := hp
              refine lv_goto (tgt := 79) C.1 C.2.1 dX10_run_61 (by decide) ?_
              rw [hQ]
              have hP9 : ∃ z : Int, (some (Value.int (iI z_58))) = some (.int (iI z)) ∧ (0 ≤ k ∧ 0 ≤ w ∧ w ≤ 2 → RunQ g2_2 L2_2 k w z) ∧ (¬ (0 ≤ k ∧ 0 ≤ w ∧ w ≤ 2) → z = -1) ∧ (RowR S n B L2_2 g2_2) ∧ (BD f2_2) ∧ (BD e2_2) ∧ (BD g2_2) := ⟨_, rfl, (fun _ => ⟨z_30, hz_30_0, fun q9 => by omega, fun q9 => ⟨fun q8 => by first | exact hz_58_0 (by omega) | omega, fun q8 => by first | exact ⟨z_73, hz_73_0, rfl⟩ | omega, fun q8 => by omega⟩⟩), (fun q9 => by omega), hz_2_1, hz_2_2, hz_2_3, hz_2_4⟩
              exact z_iret C hr hlocks hW (f2_2, e2_2, L2_2, g2_2) rfl hP9 dX10_run_79
          ·
            refine lv_iload C.1 C.2.1 dX10_run_47 (lv_at hl 0 rfl) ?_
            rw [hQ]
            have hP9 : ∃ z : Int, (some (Value.int (iI z_30))) = some (.int (iI z)) ∧ (0 ≤ k ∧ 0 ≤ w ∧ w ≤ 2 → RunQ g2_2 L2_2 k w z) ∧ (¬ (0 ≤ k ∧ 0 ≤ w ∧ w ≤ 2) → z = -1) ∧ (RowR S n B L2_2 g2_2) ∧ (BD f2_2) ∧ (BD e2_2) ∧ (BD g2_2) := ⟨_, rfl, (fun _ => ⟨z_30, hz_30_0, fun q9 => q9, fun q9 => ⟨fun q8 => by omega, fun q8 => by omega, fun _ => rfl⟩⟩), (fun q9 => by omega), hz_2_1, hz_2_2, hz_2_3, hz_2_4⟩
            exact z_iret C hr hlocks hW (f2_2, e2_2, L2_2, g2_2) rfl hP9 dX10_run_49
      ·
        refine lv_iconst (v := iI (-1)) C.1 C.2.1 dX10_run_25 rfl ?_
        rw [hQ]
        have hP9 : ∃ z : Int, (some (Value.int (iI (-1)))) = some (.int (iI z)) ∧ (0 ≤ k ∧ 0 ≤ w ∧ w ≤ 2 → RunQ g2_2 L2_2 k w z) ∧ (¬ (0 ≤ k ∧ 0 ≤ w ∧ w ≤ 2) → z = -1) ∧ (RowR S n B L2_2 g2_2) ∧ (BD f2_2) ∧ (BD e2_2) ∧ (BD g2_2) := ⟨_, rfl, (fun q9 => by omega), (by first | omega | assumption | (intros; first | rfl | omega | assumption | (and_intros <;> first | rfl | omega | assumption))), hz_2_1, hz_2_2, hz_2_3, hz_2_4⟩
        exact z_iret C hr hlocks hW (f2_2, e2_2, L2_2, g2_2) rfl hP9 dX10_run_26
set_option maxHeartbeats 4000000 in
set_option maxRecDepth 100000 in
/-- X10_run, none -/
theorem c_X10_run_bad (l : Launch) (G : GG) (x : Nat) (rg : Nat) (mk : Nat) (mh : Nat) (th : Nat) (ih : Nat) (nh : Nat) (fh : Nat) (sh : Nat) (ro : Nat) (ts : Nat) (rw : Int → Nat) (rr : Int) (k : Int) (w : Int) (hr9 : ¬ (0 ≤ rr ∧ rr ≤ 3)) (hrr : -2147483648 ≤ rr ∧ rr ≤ 2147483647) : MRc l yX10_run wsX10_run 5 G [.ref x, .int (iI rr), .int (iI k), .int (iI w)] [(x, .inr (8, [.ref rg, .ref mk, .ref mh, .ref th, .ref ih, .ref nh, .ref fh, .ref sh, .ref ro, .ref ts])), (rg, .inl (G.2.1 3, 4, .inr (.inr (.inr (.inr (regF rw))))))] (fun r => ∃ z : Int, r = some (.int (iI z)) ∧ (z = -1)) := by
  refine MRc.start (own := RX10) (by decide) rfl rfl (Nat.le_of_ble_eq_true rfl) ?_
  intro p9 e9 s9 m9 args below meth c9 A Q C hK hW hA hr hlocks hQ ls hl
  have hl : lv_has ls 6 [(0, .ref x), (1, .int (iI rr)), (2, .int (iI k)), (3, .int (iI w))] := hl
  have hin2 : ∀ w ∈ wsX20, w ∈ wsX10_run := by decide +kernel
  have hin3 : ∀ w ∈ wsX30, w ∈ wsX10_run := by decide +kernel
  have hin5 : ∀ w ∈ wsX50, w ∈ wsX10_run := by decide +kernel
  have hin6 : ∀ w ∈ wsX60, w ∈ wsX10_run := by decide +kernel
  have hin10 : ∀ w ∈ wsX100, w ∈ wsX10_run := by decide +kernel
  refine lv_aload_n C.1 C.2.1 dX10_run_0 rfl (lv_at hl 0 rfl) ?_
  refine lv_iload_n C.1 C.2.1 dX10_run_1 rfl (lv_at hl 1 rfl) ?_
  refine z_callR (va_runV (As := [.int (iI rr)]) (rest := []) C (c_X10_madeRow_bad l G x rg mk mh th ih nh fh sh ro ts rw rr hr9 hrr s9.heap.size) (cwV 1 C.2.2.2.2 gX10_run_X10_madeRow rfl rfl rfl (by decide +kernel) ⟨Nat.le_of_ble_eq_true rfl, Nat.le_of_ble_eq_true rfl⟩) (z_preV hK hW hA [0, 1] rfl (by decide) (ci := 8) (q0 := 0) rfl rfl) rfl rfl hl.1 rfl (lv_room (Nat.le_of_ble_eq_true rfl)) dX10_run_2 ⟨Nat.zero_le _, Nat.zero_le _⟩) (fun r hp => ?_)
  have hp : (r = some .null ∧ True) := hp
  have hq_2 := hp
  obtain ⟨rfl, hd_2⟩ := hq_2
  refine lv_astoreN (lv' := [(4, .null), (0, .ref x), (1, .int (iI rr)), (2, .int (iI k)), (3, .int (iI w))]) C.1 C.2.1 dX10_run_5 hl (by decide) rfl (fun ls hl => ?_)
  refine lv_aloadN C.1 C.2.1 dX10_run_7 (lv_at hl 0 rfl) ?_
  refine lv_ifnullN (tgt := 25) C.1 C.2.1 dX10_run_9 (by decide) ?_
  refine lv_iconst (v := iI (-1)) C.1 C.2.1 dX10_run_25 rfl ?_
  rw [hQ]
  have hP9 : ∃ z : Int, (some (Value.int (iI (-1)))) = some (.int (iI z)) ∧ (z = -1) := ⟨_, rfl, (by first | omega | assumption | (intros; first | rfl | omega | assumption | (and_intros <;> first | rfl | omega | assumption)))⟩
  exact z_iretR C hr hlocks hP9 dX10_run_26
set_option maxHeartbeats 4000000 in
set_option maxRecDepth 100000 in
/-- X10_most -/
theorem c_X10_most (l : Launch) (G : GG) (x : Nat) (rg : Nat) (mk : Nat) (mh : Nat) (th : Nat) (ih : Nat) (nh : Nat) (fh : Nat) (sh : Nat) (ro : Nat) (ts : Nat) (rw : Int → Nat) (rr : Int) (ma : Nat) (ae : Nat) (bo : Nat) (bi : Nat) (no : Nat) (S : Nat) (f : Int → Int) (e : Int → Int) (M : Int) (L : Int) (n : Int) (B : Int → Int) (g : Int → Int) (k : Int) (w : Int) (hr9 : 0 ≤ rr ∧ rr ≤ 3) (hS : S < 7) (hVB : AllowsR S n B) (hf : BD f) (he : BD e) (hg : BD g) (hB : BD B) (hM : M = 0 ∨ (M = 1 ∧ RowR S n B L g)) (hk : -2147483648 ≤ k ∧ k ≤ 2147483647) (hw : -2147483648 ≤ w ∧ w ≤ 2147483647) : MQc l yX10_most wsX10_most 5 G [.ref x, .int (iI rr), .int (iI k), .int (iI w)] [(x, .inr (8, [.ref rg, .ref mk, .ref mh, .ref th, .ref ih, .ref nh, .ref fh, .ref sh, .ref ro, .ref ts])), (rg, .inl (G.2.1 3, 4, .inr (.inr (.inr (.inr (regF rw)))))), (mh, .inr (1, [.ref mk, .ref ae])), (mk, .inr (2, [.ref ma])), (ma, .inl (G.2.1 0, 60001, .inl (iA f))), (ae, .inl (G.2.1 0, 1000, .inl (iA e))), (rw rr, .inr (4, [.ref bo, .ref no, .ref (G.2.2 S), .int (iI M), .int (iI L)])), (bo, .inr (5, [.ref bi, .int (iI n)])), (bi, .inl (G.2.1 0, 6, .inl (iA B))), (no, .inl (G.2.1 0, 2000, .inl (iA g)))] (fun r (u : (Int → Int) × (Int → Int) × Int × (Int → Int)) => ∃ z : Int, r = some (.int (iI z)) ∧ ((1 ≤ k ∧ k ≤ 2000) ∧ (0 ≤ w ∧ w ≤ 3) → MostQ u.2.2.2 u.2.2.1 k w z) ∧ (¬ ((1 ≤ k ∧ k ≤ 2000) ∧ (0 ≤ w ∧ w ≤ 3)) → z = -1) ∧ (RowR S n B u.2.2.1 u.2.2.2) ∧ (BD u.1) ∧ (BD u.2.1) ∧ (BD u.2.2.2)) (fun u => [(x, .inr (8, [.ref rg, .ref mk, .ref mh, .ref th, .ref ih, .ref nh, .ref fh, .ref sh, .ref ro, .ref ts])), (rg, .inl (G.2.1 3, 4, .inr (.inr (.inr (.inr (regF rw)))))), (mh, .inr (1, [.ref mk, .ref ae])), (mk, .inr (2, [.ref ma])), (ma, .inl (G.2.1 0, 60001, .inl (iA u.1))), (ae, .inl (G.2.1 0, 1000, .inl (iA u.2.1))), (rw rr, .inr (4, [.ref bo, .ref no, .ref (G.2.2 S), .int (iI 1), .int (iI u.2.2.1)])), (bo, .inr (5, [.ref bi, .int (iI n)])), (bi, .inl (G.2.1 0, 6, .inl (iA B))), (no, .inl (G.2.1 0, 2000, .inl (iA u.2.2.2)))]) := by
  refine MQc.start (own := RX10) (by decide) rfl rfl (Nat.le_of_ble_eq_true rfl) ?_
  intro p9 e9 s9 m9 args below meth c9 A Q C hK hW hA hr hlocks hQ ls hl
  have hl : lv_has ls 6 [(0, .ref x), (1, .int (iI rr)), (2, .int (iI k)), (3, .int (iI w))] := hl
  have hin2 : ∀ w ∈ wsX20, w ∈ wsX10_most := by decide +kernel
  have hin3 : ∀ w ∈ wsX30, w ∈ wsX10_most := by decide +kernel
  have hin5 : ∀ w ∈ wsX50, w ∈ wsX10_most := by decide +kernel
  have hin6 : ∀ w ∈ wsX60, w ∈ wsX10_most := by decide +kernel
  have hin10 : ∀ w ∈ wsX100, w ∈ wsX10_most := by decide +kernel
  refine lv_aload_n C.1 C.2.1 dX10_most_0 rfl (lv_at hl 0 rfl) ?_
  refine lv_iload_n C.1 C.2.1 dX10_most_1 rfl (lv_at hl 1 rfl) ?_
  refine z_call (va_runV (As := [.int (iI rr)]) (rest := []) C (c_X10_madeRow l G x rg mk mh th ih nh fh sh ro ts rw rr ma ae bo bi no S f e M L n B g hr9 hS hVB hf he hg hB hM s9.heap.size) (cwV 1 C.2.2.2.2 gX10_most_X10_madeRow rfl rfl rfl (by decide +kernel) ⟨Nat.le_of_ble_eq_true rfl, Nat.le_of_ble_eq_true rfl⟩) (z_preV hK hW hA [0, 1, 2, 3, 4, 5, 6, 7, 8, 9] rfl (by decide) (ci := 8) (q0 := 0) rfl rfl) rfl rfl hl.1 rfl (lv_room (Nat.le_of_ble_eq_true rfl)) dX10_most_2 ⟨Nat.zero_le _, Nat.zero_le _⟩) hW hA [0, 1, 2, 3, 4, 5, 6, 7, 8, 9] rfl (by decide) (fun _ => rfl) (fun r u H locs hp hW => ?_)
  obtain ⟨f2_2, e2_2, L2_2, g2_2⟩ := u
  have hW : Wd G A s9.heap [(x, .inr (8, [.ref rg, .ref mk, .ref mh, .ref th, .ref ih, .ref nh, .ref fh, .ref sh, .ref ro, .ref ts])), (rg, .inl (G.2.1 3, 4, .inr (.inr (.inr (.inr (regF rw)))))), (mh, .inr (1, [.ref mk, .ref ae])), (mk, .inr (2, [.ref ma])), (ma, .inl (G.2.1 0, 60001, .inl (iA f2_2))), (ae, .inl (G.2.1 0, 1000, .inl (iA e2_2))), (rw rr, .inr (4, [.ref bo, .ref no, .ref (G.2.2 S), .int (iI 1), .int (iI L2_2)])), (bo, .inr (5, [.ref bi, .int (iI n)])), (bi, .inl (G.2.1 0, 6, .inl (iA B))), (no, .inl (G.2.1 0, 2000, .inl (iA g2_2)))] H locs := hW
  have hp : (r = some (.ref (rw rr)) ∧ True) ∧ (RowR S n B L2_2 g2_2) ∧ (BD f2_2) ∧ (BD e2_2) ∧ (BD g2_2) := hp
  obtain ⟨hq_2, hz_2_1, hz_2_2, hz_2_3, hz_2_4⟩ := hp
  have hRV := hz_2_1.2.2.2.1
  have hRL := hz_2_1.2.1
  have hRL2 := hz_2_1.2.2.1
  obtain ⟨rfl, hd_2⟩ := hq_2
  refine lv_astore (lv' := [(4, .ref (rw rr)), (0, .ref x), (1, .int (iI rr)), (2, .int (iI k)), (3, .int (iI w))]) C.1 C.2.1 dX10_most_5 hl (by decide) rfl (fun ls hl => ?_)
  refine lv_aload C.1 C.2.1 dX10_most_7 (lv_at hl 0 rfl) ?_
  refine lv_ifnull C.1 C.2.1 dX10_most_9 ?_
  refine lv_iload_n C.1 C.2.1 dX10_most_12 rfl (lv_at hl 3 rfl) ?_
  refine lv_iconst (v := iI 1) C.1 C.2.1 dX10_most_13 rfl ?_
  refine z_icmp_lt (tgt := 33) C dX10_most_14 (by decide) (by omega) (fun c_14 => ?_) (fun c_14 => ?_)
  ·
    refine lv_iconst (v := iI (-1)) C.1 C.2.1 dX10_most_33 rfl ?_
    rw [hQ]
    have hP9 : ∃ z : Int, (some (Value.int (iI (-1)))) = some (.int (iI z)) ∧ ((1 ≤ k ∧ k ≤ 2000) ∧ (0 ≤ w ∧ w ≤ 3) → MostQ g2_2 L2_2 k w z) ∧ (¬ ((1 ≤ k ∧ k ≤ 2000) ∧ (0 ≤ w ∧ w ≤ 3)) → z = -1) ∧ (RowR S n B L2_2 g2_2) ∧ (BD f2_2) ∧ (BD e2_2) ∧ (BD g2_2) := ⟨_, rfl, (fun q9 => by omega), (by first | omega | assumption | (intros; first | rfl | omega | assumption | (and_intros <;> first | rfl | omega | assumption))), hz_2_1, hz_2_2, hz_2_3, hz_2_4⟩
    exact z_iret C hr hlocks hW (f2_2, e2_2, L2_2, g2_2) rfl hP9 dX10_most_34
  ·
    refine lv_iload_n C.1 C.2.1 dX10_most_17 rfl (lv_at hl 3 rfl) ?_
    refine lv_sipush (v := iI 2000) C.1 C.2.1 dX10_most_18 (by decide +kernel) ?_
    refine z_icmp_gt (tgt := 33) C dX10_most_21 (by decide) (by omega) (fun c_21 => ?_) (fun c_21 => ?_)
    ·
      refine lv_iconst (v := iI (-1)) C.1 C.2.1 dX10_most_33 rfl ?_
      rw [hQ]
      have hP9 : ∃ z : Int, (some (Value.int (iI (-1)))) = some (.int (iI z)) ∧ ((1 ≤ k ∧ k ≤ 2000) ∧ (0 ≤ w ∧ w ≤ 3) → MostQ g2_2 L2_2 k w z) ∧ (¬ ((1 ≤ k ∧ k ≤ 2000) ∧ (0 ≤ w ∧ w ≤ 3)) → z = -1) ∧ (RowR S n B L2_2 g2_2) ∧ (BD f2_2) ∧ (BD e2_2) ∧ (BD g2_2) := ⟨_, rfl, (fun q9 => by omega), (by first | omega | assumption | (intros; first | rfl | omega | assumption | (and_intros <;> first | rfl | omega | assumption))), hz_2_1, hz_2_2, hz_2_3, hz_2_4⟩
      exact z_iret C hr hlocks hW (f2_2, e2_2, L2_2, g2_2) rfl hP9 dX10_most_34
    ·
      refine lv_iload_n C.1 C.2.1 dX10_most_24 rfl (lv_at hl 4 rfl) ?_
      refine z_if_lt (tgt := 33) C dX10_most_25 (by decide) (by omega) (fun c_25 => ?_) (fun c_25 => ?_)
      ·
        refine lv_iconst (v := iI (-1)) C.1 C.2.1 dX10_most_33 rfl ?_
        rw [hQ]
        have hP9 : ∃ z : Int, (some (Value.int (iI (-1)))) = some (.int (iI z)) ∧ ((1 ≤ k ∧ k ≤ 2000) ∧ (0 ≤ w ∧ w ≤ 3) → MostQ g2_2 L2_2 k w z) ∧ (¬ ((1 ≤ k ∧ k ≤ 2000) ∧ (0 ≤ w ∧ w ≤ 3)) → z = -1) ∧ (RowR S n B L2_2 g2_2) ∧ (BD f2_2) ∧ (BD e2_2) ∧ (BD g2_2) := ⟨_, rfl, (fun q9 => by omega), (by first | omega | assumption | (intros; first | rfl | omega | assumption | (and_intros <;> first | rfl | omega | assumption))), hz_2_1, hz_2_2, hz_2_3, hz_2_4⟩
        exact z_iret C hr hlocks hW (f2_2, e2_2, L2_2, g2_2) rfl hP9 dX10_most_34
      ·
        refine lv_iload_n C.1 C.2.1 dX10_most_28 rfl (lv_at hl 4 rfl) ?_
        refine lv_iconst (v := iI 3) C.1 C.2.1 dX10_most_29 rfl ?_
        refine z_icmp_le (tgt := 35) C dX10_most_30 (by decide) (by omega) (fun c_30 => ?_) (fun c_30 => ?_)
        ·
          refine lv_iload_n C.1 C.2.1 dX10_most_35 rfl (lv_at hl 4 rfl) ?_
          refine lv_iconst (v := iI 2) C.1 C.2.1 dX10_most_36 rfl ?_
          refine z_icmp_ne (tgt := 47) C dX10_most_37 (by decide) (by omega) (fun c_37 => ?_) (fun c_37 => ?_)
          ·
            refine lv_iload_n C.1 C.2.1 dX10_most_47 rfl (lv_at hl 4 rfl) ?_
            refine lv_iconst (v := iI 3) C.1 C.2.1 dX10_most_48 rfl ?_
            refine z_icmp_ne (tgt := 63) C dX10_most_49 (by decide) (by omega) (fun c_49 => ?_) (fun c_49 => ?_)
            ·
              refine lv_aload C.1 C.2.1 dX10_most_63 (lv_at hl 0 rfl) ?_
              refine lv_iload_n C.1 C.2.1 dX10_most_65 rfl (lv_at hl 3 rfl) ?_
              refine z_callR (va_runV (As := [.int (iI k)]) (rest := []) C (c_X5_greatest l G (rw rr) bo no (G.2.2 S) 1 L2_2 g2_2 k (by first | omega | assumption | (intros; first | rfl | omega | assumption | (and_intros <;> first | rfl | omega | assumption))) hz_2_4 hRV (by first | omega | assumption | (intros; first | rfl | omega | assumption | (and_intros <;> first | rfl | omega | assumption))) (by first | omega | assumption | (intros; first | rfl | omega | assumption | (and_intros <;> first | rfl | omega | assumption))) H.size) (cwV 1 C.2.2.2.2 gX10_most_X5_greatest rfl rfl rfl (by decide +kernel) ⟨Nat.le_of_ble_eq_true rfl, Nat.le_of_ble_eq_true rfl⟩) (z_preV hK hW hA [6, 9] rfl (by decide) (ci := 4) (q0 := 6) rfl rfl) rfl rfl hl.1 rfl (lv_room (Nat.le_of_ble_eq_true rfl)) dX10_most_66 ⟨Nat.zero_le _, Nat.zero_le _⟩) (fun r hp => ?_)
              have hp : ∃ z : Int, r = some (.int (iI z)) ∧ (MaxR g2_2 (min k L2_2) z) ∧ (-2147483648 ≤ z ∧ z ≤ 2147483647) := hp
              obtain ⟨z_66, rfl, hz_66_0, hz_66_1⟩ := hp
              refine lv_istore (lv' := [(5, .int (iI z_66)), (4, .ref (rw rr)), (0, .ref x), (1, .int (iI rr)), (2, .int (iI k)), (3, .int (iI w))]) C.1 C.2.1 dX10_most_69 hl (by decide) rfl (fun ls hl => ?_)
              refine lv_iload_n C.1 C.2.1 dX10_most_71 rfl (lv_at hl 5 rfl) ?_
              refine z_if_ne (tgt := 80) C dX10_most_72 (by decide) (by omega) (fun c_72 => ?_) (fun c_72 => ?_)
              ·
                refine lv_aload C.1 C.2.1 dX10_most_80 (lv_at hl 1 rfl) ?_
                refine lv_iload C.1 C.2.1 dX10_most_82 (lv_at hl 0 rfl) ?_
                refine z_callR (va_runV (As := [.int (iI z_66)]) (rest := []) C (c_X5_placeOf l G (rw rr) bo no (G.2.2 S) 1 L2_2 g2_2 z_66 (by first | omega | assumption | (intros; first | rfl | omega | assumption | (and_intros <;> first | rfl | omega | assumption))) hz_2_4 hz_66_1 H.size) (cwV 1 C.2.2.2.2 gX10_most_X5_placeOf rfl rfl rfl (by decide +kernel) ⟨Nat.le_of_ble_eq_true rfl, Nat.le_of_ble_eq_true rfl⟩) (z_preV hK hW hA [6, 9] rfl (by decide) (ci := 4) (q0 := 6) rfl rfl) rfl rfl hl.1 rfl (lv_room (Nat.le_of_ble_eq_true rfl)) dX10_most_84 ⟨Nat.zero_le _, Nat.zero_le _⟩) (fun r hp => ?_)
                have hp : ∃ z : Int, r = some (.int (iI z)) ∧ (FirstR g2_2 L2_2 z_66 z) := hp
                obtain ⟨z_84, rfl, hz_84_0⟩ := hp
                rw [hQ]
                have hP9 : ∃ z : Int, (some (Value.int (iI z_84))) = some (.int (iI z)) ∧ ((1 ≤ k ∧ k ≤ 2000) ∧ (0 ≤ w ∧ w ≤ 3) → MostQ g2_2 L2_2 k w z) ∧ (¬ ((1 ≤ k ∧ k ≤ 2000) ∧ (0 ≤ w ∧ w ≤ 3)) → z = -1) ∧ (RowR S n B L2_2 g2_2) ∧ (BD f2_2) ∧ (BD e2_2) ∧ (BD g2_2) := ⟨_, rfl, (fun _ => ⟨fun q => by first | exact hz_66_0 | omega, fun q => by first | exact ⟨z_66, hz_66_0, hz_84_0⟩ | omega, fun q => by omega, fun q => by omega⟩), (fun q9 => by omega), hz_2_1, hz_2_2, hz_2_3, hz_2_4⟩
                exact z_iret C hr hlocks hW (f2_2, e2_2, L2_2, g2_2) rfl hP9 dX10_most_87
              ·
                refine lv_iload C.1 C.2.1 dX10_most_75 (lv_at hl 0 rfl) ?_
                refine lv_goto (tgt := 87) C.1 C.2.1 dX10_most_77 (by decide) ?_
                rw [hQ]
                have hP9 : ∃ z : Int, (some (Value.int (iI z_66))) = some (.int (iI z)) ∧ ((1 ≤ k ∧ k ≤ 2000) ∧ (0 ≤ w ∧ w ≤ 3) → MostQ g2_2 L2_2 k w z) ∧ (¬ ((1 ≤ k ∧ k ≤ 2000) ∧ (0 ≤ w ∧ w ≤ 3)) → z = -1) ∧ (RowR S n B L2_2 g2_2) ∧ (BD f2_2) ∧ (BD e2_2) ∧ (BD g2_2) := ⟨_, rfl, (fun _ => ⟨fun q => by first | exact hz_66_0 | omega, fun q => by first | exact ⟨z_66, hz_66_0, hz_84_0⟩ | omega, fun q => by omega, fun q => by omega⟩), (fun q9 => by omega), hz_2_1, hz_2_2, hz_2_3, hz_2_4⟩
                exact z_iret C hr hlocks hW (f2_2, e2_2, L2_2, g2_2) rfl hP9 dX10_most_87
            ·
              refine lv_aload C.1 C.2.1 dX10_most_52 (lv_at hl 0 rfl) ?_
              refine lv_iload_n C.1 C.2.1 dX10_most_54 rfl (lv_at hl 3 rfl) ?_
              refine lv_aload_n C.1 C.2.1 dX10_most_55 rfl (lv_at hl 1 rfl) ?_
              refine z_get C hK hW hin10 (v := .ref mk) 0 rfl rfl 1 (by decide) (C.2.2.2.2 (.fieldLink RX10 18 "TellingRows" "marks" "LTellingRows$Marks;") (List.mem_of_getElem? (i := 1) rfl)) (fun _ h9 => h9) rfl dX10_most_56 ?_
              refine z_call (va_runV (As := [.int (iI k), .ref mk]) (rest := []) C (c_X5_unlike l G (rw rr) bo no (G.2.2 S) 1 L2_2 g2_2 mk ma f2_2 k (by first | omega | assumption | (intros; first | rfl | omega | assumption | (and_intros <;> first | rfl | omega | assumption))) hz_2_4 hRV hz_2_2 (by first | omega | assumption | (intros; first | rfl | omega | assumption | (and_intros <;> first | rfl | omega | assumption))) H.size) (cwV 2 C.2.2.2.2 gX10_most_X5_unlike rfl rfl rfl (by decide +kernel) ⟨Nat.le_of_ble_eq_true rfl, Nat.le_of_ble_eq_true rfl⟩) (z_preV hK hW hA [6, 9, 3, 4] rfl (by decide) (ci := 4) (q0 := 6) rfl rfl) rfl rfl hl.1 rfl (lv_room (Nat.le_of_ble_eq_true rfl)) dX10_most_59 ⟨Nat.zero_le _, Nat.zero_le _⟩) hW hA [6, 9, 3, 4] rfl (by decide) (fun _ => rfl) (fun r u H locs hp hW => ?_)
              obtain ⟨f2_59, rfl⟩ : ∃ q9, q9 = u := ⟨_, rfl⟩
              have hp : ∃ z : Int, r = some (.int (iI z)) ∧ (z = dst g2_2 (min k L2_2)) ∧ (BD f2_59) := hp
              obtain ⟨z_59, rfl, hz_59_0, hz_59_1⟩ := hp
              have hW : Wd G A s9.heap [(x, .inr (8, [.ref rg, .ref mk, .ref mh, .ref th, .ref ih, .ref nh, .ref fh, .ref sh, .ref ro, .ref ts])), (rg, .inl (G.2.1 3, 4, .inr (.inr (.inr (.inr (regF rw)))))), (mh, .inr (1, [.ref mk, .ref ae])), (mk, .inr (2, [.ref ma])), (ma, .inl (G.2.1 0, 60001, .inl (iA f2_59))), (ae, .inl (G.2.1 0, 1000, .inl (iA e2_2))), (rw rr, .inr (4, [.ref bo, .ref no, .ref (G.2.2 S), .int (iI 1), .int (iI L2_2)])), (bo, .inr (5, [.ref bi, .int (iI n)])), (bi, .inl (G.2.1 0, 6, .inl (iA B))), (no, .inl (G.2.1 0, 2000, .inl (iA g2_2)))] H locs := hW
              rw [hQ]
              have hP9 : ∃ z : Int, (some (Value.int (iI z_59))) = some (.int (iI z)) ∧ ((1 ≤ k ∧ k ≤ 2000) ∧ (0 ≤ w ∧ w ≤ 3) → MostQ g2_2 L2_2 k w z) ∧ (¬ ((1 ≤ k ∧ k ≤ 2000) ∧ (0 ≤ w ∧ w ≤ 3)) → z = -1) ∧ (RowR S n B L2_2 g2_2) ∧ (BD f2_59) ∧ (BD e2_2) ∧ (BD g2_2) := ⟨_, rfl, (fun _ => ⟨fun q => by omega, fun q => by omega, fun q => by omega, fun _ => hz_59_0⟩), (fun q9 => by omega), hz_2_1, hz_59_1, hz_2_3, hz_2_4⟩
              exact z_iret C hr hlocks hW (f2_59, e2_2, L2_2, g2_2) rfl hP9 dX10_most_62
          ·
            refine lv_aload C.1 C.2.1 dX10_most_40 (lv_at hl 0 rfl) ?_
            refine lv_iload_n C.1 C.2.1 dX10_most_42 rfl (lv_at hl 3 rfl) ?_
            refine z_callR (va_runV (As := [.int (iI k)]) (rest := []) C (c_X5_longestRun l G (rw rr) bo no (G.2.2 S) 1 L2_2 g2_2 k (by first | omega | assumption | (intros; first | rfl | omega | assumption | (and_intros <;> first | rfl | omega | assumption))) hz_2_4 (by omega) (by first | omega | assumption | (intros; first | rfl | omega | assumption | (and_intros <;> first | rfl | omega | assumption))) H.size) (cwV 1 C.2.2.2.2 gX10_most_X5_longestRun rfl rfl rfl (by decide +kernel) ⟨Nat.le_of_ble_eq_true rfl, Nat.le_of_ble_eq_true rfl⟩) (z_preV hK hW hA [6, 9] rfl (by decide) (ci := 4) (q0 := 6) rfl rfl) rfl rfl hl.1 rfl (lv_room (Nat.le_of_ble_eq_true rfl)) dX10_most_43 ⟨Nat.zero_le _, Nat.zero_le _⟩) (fun r hp => ?_)
            have hp : ∃ z : Int, r = some (.int (iI z)) ∧ (LongR g2_2 (min k L2_2) z) ∧ (-2147483648 ≤ z ∧ z ≤ 2147483647) := hp
            obtain ⟨z_43, rfl, hz_43_0, hz_43_1⟩ := hp
            rw [hQ]
            have hP9 : ∃ z : Int, (some (Value.int (iI z_43))) = some (.int (iI z)) ∧ ((1 ≤ k ∧ k ≤ 2000) ∧ (0 ≤ w ∧ w ≤ 3) → MostQ g2_2 L2_2 k w z) ∧ (¬ ((1 ≤ k ∧ k ≤ 2000) ∧ (0 ≤ w ∧ w ≤ 3)) → z = -1) ∧ (RowR S n B L2_2 g2_2) ∧ (BD f2_2) ∧ (BD e2_2) ∧ (BD g2_2) := ⟨_, rfl, (fun _ => ⟨fun q => by omega, fun q => by omega, fun _ => hz_43_0, fun q => by omega⟩), (fun q9 => by omega), hz_2_1, hz_2_2, hz_2_3, hz_2_4⟩
            exact z_iret C hr hlocks hW (f2_2, e2_2, L2_2, g2_2) rfl hP9 dX10_most_46
        ·
          refine lv_iconst (v := iI (-1)) C.1 C.2.1 dX10_most_33 rfl ?_
          rw [hQ]
          have hP9 : ∃ z : Int, (some (Value.int (iI (-1)))) = some (.int (iI z)) ∧ ((1 ≤ k ∧ k ≤ 2000) ∧ (0 ≤ w ∧ w ≤ 3) → MostQ g2_2 L2_2 k w z) ∧ (¬ ((1 ≤ k ∧ k ≤ 2000) ∧ (0 ≤ w ∧ w ≤ 3)) → z = -1) ∧ (RowR S n B L2_2 g2_2) ∧ (BD f2_2) ∧ (BD e2_2) ∧ (BD g2_2) := ⟨_, rfl, (fun q9 => by omega), (by first | omega | assumption | (intros; first | rfl | omega | assumption | (and_intros <;> first | rfl | omega | assumption))), hz_2_1, hz_2_2, hz_2_3, hz_2_4⟩
          exact z_iret C hr hlocks hW (f2_2, e2_2, L2_2, g2_2) rfl hP9 dX10_most_34
set_option maxHeartbeats 4000000 in
set_option maxRecDepth 100000 in
/-- X10_most, none -/
theorem c_X10_most_bad (l : Launch) (G : GG) (x : Nat) (rg : Nat) (mk : Nat) (mh : Nat) (th : Nat) (ih : Nat) (nh : Nat) (fh : Nat) (sh : Nat) (ro : Nat) (ts : Nat) (rw : Int → Nat) (rr : Int) (k : Int) (w : Int) (hr9 : ¬ (0 ≤ rr ∧ rr ≤ 3)) (hrr : -2147483648 ≤ rr ∧ rr ≤ 2147483647) : MRc l yX10_most wsX10_most 5 G [.ref x, .int (iI rr), .int (iI k), .int (iI w)] [(x, .inr (8, [.ref rg, .ref mk, .ref mh, .ref th, .ref ih, .ref nh, .ref fh, .ref sh, .ref ro, .ref ts])), (rg, .inl (G.2.1 3, 4, .inr (.inr (.inr (.inr (regF rw))))))] (fun r => ∃ z : Int, r = some (.int (iI z)) ∧ (z = -1)) := by
  refine MRc.start (own := RX10) (by decide) rfl rfl (Nat.le_of_ble_eq_true rfl) ?_
  intro p9 e9 s9 m9 args below meth c9 A Q C hK hW hA hr hlocks hQ ls hl
  have hl : lv_has ls 6 [(0, .ref x), (1, .int (iI rr)), (2, .int (iI k)), (3, .int (iI w))] := hl
  have hin2 : ∀ w ∈ wsX20, w ∈ wsX10_most := by decide +kernel
  have hin3 : ∀ w ∈ wsX30, w ∈ wsX10_most := by decide +kernel
  have hin5 : ∀ w ∈ wsX50, w ∈ wsX10_most := by decide +kernel
  have hin6 : ∀ w ∈ wsX60, w ∈ wsX10_most := by decide +kernel
  have hin10 : ∀ w ∈ wsX100, w ∈ wsX10_most := by decide +kernel
  refine lv_aload_n C.1 C.2.1 dX10_most_0 rfl (lv_at hl 0 rfl) ?_
  refine lv_iload_n C.1 C.2.1 dX10_most_1 rfl (lv_at hl 1 rfl) ?_
  refine z_callR (va_runV (As := [.int (iI rr)]) (rest := []) C (c_X10_madeRow_bad l G x rg mk mh th ih nh fh sh ro ts rw rr hr9 hrr s9.heap.size) (cwV 1 C.2.2.2.2 gX10_most_X10_madeRow rfl rfl rfl (by decide +kernel) ⟨Nat.le_of_ble_eq_true rfl, Nat.le_of_ble_eq_true rfl⟩) (z_preV hK hW hA [0, 1] rfl (by decide) (ci := 8) (q0 := 0) rfl rfl) rfl rfl hl.1 rfl (lv_room (Nat.le_of_ble_eq_true rfl)) dX10_most_2 ⟨Nat.zero_le _, Nat.zero_le _⟩) (fun r hp => ?_)
  have hp : (r = some .null ∧ True) := hp
  have hq_2 := hp
  obtain ⟨rfl, hd_2⟩ := hq_2
  refine lv_astoreN (lv' := [(4, .null), (0, .ref x), (1, .int (iI rr)), (2, .int (iI k)), (3, .int (iI w))]) C.1 C.2.1 dX10_most_5 hl (by decide) rfl (fun ls hl => ?_)
  refine lv_aloadN C.1 C.2.1 dX10_most_7 (lv_at hl 0 rfl) ?_
  refine lv_ifnullN (tgt := 33) C.1 C.2.1 dX10_most_9 (by decide) ?_
  refine lv_iconst (v := iI (-1)) C.1 C.2.1 dX10_most_33 rfl ?_
  rw [hQ]
  have hP9 : ∃ z : Int, (some (Value.int (iI (-1)))) = some (.int (iI z)) ∧ (z = -1) := ⟨_, rfl, (by first | omega | assumption | (intros; first | rfl | omega | assumption | (and_intros <;> first | rfl | omega | assumption)))⟩
  exact z_iretR C hr hlocks hP9 dX10_most_34
set_option maxHeartbeats 4000000 in
set_option maxRecDepth 100000 in
/-- X10_around -/
theorem c_X10_around (l : Launch) (G : GG) (x : Nat) (rg : Nat) (mk : Nat) (mh : Nat) (th : Nat) (ih : Nat) (nh : Nat) (fh : Nat) (sh : Nat) (ro : Nat) (ts : Nat) (rw : Int → Nat) (rr : Int) (ma : Nat) (ae : Nat) (bo : Nat) (bi : Nat) (no : Nat) (S : Nat) (f : Int → Int) (e : Int → Int) (M : Int) (L : Int) (n : Int) (B : Int → Int) (g : Int → Int) (w : Int) (hr9 : 0 ≤ rr ∧ rr ≤ 3) (hS : S < 7) (hVB : AllowsR S n B) (hf : BD f) (he : BD e) (hg : BD g) (hB : BD B) (hM : M = 0 ∨ (M = 1 ∧ RowR S n B L g)) (hw : -2147483648 ≤ w ∧ w ≤ 2147483647) : MQc l yX10_around wsX10_around 5 G [.ref x, .int (iI rr), .int (iI w)] [(x, .inr (8, [.ref rg, .ref mk, .ref mh, .ref th, .ref ih, .ref nh, .ref fh, .ref sh, .ref ro, .ref ts])), (rg, .inl (G.2.1 3, 4, .inr (.inr (.inr (.inr (regF rw)))))), (mh, .inr (1, [.ref mk, .ref ae])), (mk, .inr (2, [.ref ma])), (ma, .inl (G.2.1 0, 60001, .inl (iA f))), (ae, .inl (G.2.1 0, 1000, .inl (iA e))), (rw rr, .inr (4, [.ref bo, .ref no, .ref (G.2.2 S), .int (iI M), .int (iI L)])), (bo, .inr (5, [.ref bi, .int (iI n)])), (bi, .inl (G.2.1 0, 6, .inl (iA B))), (no, .inl (G.2.1 0, 2000, .inl (iA g)))] (fun r (u : (Int → Int) × (Int → Int) × Int × (Int → Int)) => ∃ z : Int, r = some (.int (iI z)) ∧ (0 ≤ w ∧ w ≤ 1 → AroundQ u.2.2.2 u.2.2.1 w z) ∧ (¬ (0 ≤ w ∧ w ≤ 1) → z = -1) ∧ (RowR S n B u.2.2.1 u.2.2.2) ∧ (BD u.1) ∧ (BD u.2.1) ∧ (BD u.2.2.2)) (fun u => [(x, .inr (8, [.ref rg, .ref mk, .ref mh, .ref th, .ref ih, .ref nh, .ref fh, .ref sh, .ref ro, .ref ts])), (rg, .inl (G.2.1 3, 4, .inr (.inr (.inr (.inr (regF rw)))))), (mh, .inr (1, [.ref mk, .ref ae])), (mk, .inr (2, [.ref ma])), (ma, .inl (G.2.1 0, 60001, .inl (iA u.1))), (ae, .inl (G.2.1 0, 1000, .inl (iA u.2.1))), (rw rr, .inr (4, [.ref bo, .ref no, .ref (G.2.2 S), .int (iI 1), .int (iI u.2.2.1)])), (bo, .inr (5, [.ref bi, .int (iI n)])), (bi, .inl (G.2.1 0, 6, .inl (iA B))), (no, .inl (G.2.1 0, 2000, .inl (iA u.2.2.2)))]) := by
  refine MQc.start (own := RX10) (by decide) rfl rfl (Nat.le_of_ble_eq_true rfl) ?_
  intro p9 e9 s9 m9 args below meth c9 A Q C hK hW hA hr hlocks hQ ls hl
  have hl : lv_has ls 5 [(0, .ref x), (1, .int (iI rr)), (2, .int (iI w))] := hl
  have hin2 : ∀ w ∈ wsX20, w ∈ wsX10_around := by decide +kernel
  have hin3 : ∀ w ∈ wsX30, w ∈ wsX10_around := by decide +kernel
  have hin5 : ∀ w ∈ wsX50, w ∈ wsX10_around := by decide +kernel
  have hin6 : ∀ w ∈ wsX60, w ∈ wsX10_around := by decide +kernel
  have hin10 : ∀ w ∈ wsX100, w ∈ wsX10_around := by decide +kernel
  refine lv_aload_n C.1 C.2.1 dX10_around_0 rfl (lv_at hl 0 rfl) ?_
  refine lv_iload_n C.1 C.2.1 dX10_around_1 rfl (lv_at hl 1 rfl) ?_
  refine z_call (va_runV (As := [.int (iI rr)]) (rest := []) C (c_X10_madeRow l G x rg mk mh th ih nh fh sh ro ts rw rr ma ae bo bi no S f e M L n B g hr9 hS hVB hf he hg hB hM s9.heap.size) (cwV 1 C.2.2.2.2 gX10_around_X10_madeRow rfl rfl rfl (by decide +kernel) ⟨Nat.le_of_ble_eq_true rfl, Nat.le_of_ble_eq_true rfl⟩) (z_preV hK hW hA [0, 1, 2, 3, 4, 5, 6, 7, 8, 9] rfl (by decide) (ci := 8) (q0 := 0) rfl rfl) rfl rfl hl.1 rfl (lv_room (Nat.le_of_ble_eq_true rfl)) dX10_around_2 ⟨Nat.zero_le _, Nat.zero_le _⟩) hW hA [0, 1, 2, 3, 4, 5, 6, 7, 8, 9] rfl (by decide) (fun _ => rfl) (fun r u H locs hp hW => ?_)
  obtain ⟨f2_2, e2_2, L2_2, g2_2⟩ := u
  have hW : Wd G A s9.heap [(x, .inr (8, [.ref rg, .ref mk, .ref mh, .ref th, .ref ih, .ref nh, .ref fh, .ref sh, .ref ro, .ref ts])), (rg, .inl (G.2.1 3, 4, .inr (.inr (.inr (.inr (regF rw)))))), (mh, .inr (1, [.ref mk, .ref ae])), (mk, .inr (2, [.ref ma])), (ma, .inl (G.2.1 0, 60001, .inl (iA f2_2))), (ae, .inl (G.2.1 0, 1000, .inl (iA e2_2))), (rw rr, .inr (4, [.ref bo, .ref no, .ref (G.2.2 S), .int (iI 1), .int (iI L2_2)])), (bo, .inr (5, [.ref bi, .int (iI n)])), (bi, .inl (G.2.1 0, 6, .inl (iA B))), (no, .inl (G.2.1 0, 2000, .inl (iA g2_2)))] H locs := hW
  have hp : (r = some (.ref (rw rr)) ∧ True) ∧ (RowR S n B L2_2 g2_2) ∧ (BD f2_2) ∧ (BD e2_2) ∧ (BD g2_2) := hp
  obtain ⟨hq_2, hz_2_1, hz_2_2, hz_2_3, hz_2_4⟩ := hp
  have hRV := hz_2_1.2.2.2.1
  have hRL := hz_2_1.2.1
  have hRL2 := hz_2_1.2.2.1
  obtain ⟨rfl, hd_2⟩ := hq_2
  refine lv_astore_n (lv' := [(3, .ref (rw rr)), (0, .ref x), (1, .int (iI rr)), (2, .int (iI w))]) C.1 C.2.1 dX10_around_5 rfl hl (by decide) rfl (fun ls hl => ?_)
  refine lv_aload_n C.1 C.2.1 dX10_around_6 rfl (lv_at hl 0 rfl) ?_
  refine lv_ifnull C.1 C.2.1 dX10_around_7 ?_
  refine lv_iload_n C.1 C.2.1 dX10_around_10 rfl (lv_at hl 3 rfl) ?_
  refine z_if_lt (tgt := 19) C dX10_around_11 (by decide) (by omega) (fun c_11 => ?_) (fun c_11 => ?_)
  ·
    refine lv_iconst (v := iI (-1)) C.1 C.2.1 dX10_around_19 rfl ?_
    rw [hQ]
    have hP9 : ∃ z : Int, (some (Value.int (iI (-1)))) = some (.int (iI z)) ∧ (0 ≤ w ∧ w ≤ 1 → AroundQ g2_2 L2_2 w z) ∧ (¬ (0 ≤ w ∧ w ≤ 1) → z = -1) ∧ (RowR S n B L2_2 g2_2) ∧ (BD f2_2) ∧ (BD e2_2) ∧ (BD g2_2) := ⟨_, rfl, (fun q9 => by omega), (by first | omega | assumption | (intros; first | rfl | omega | assumption | (and_intros <;> first | rfl | omega | assumption))), hz_2_1, hz_2_2, hz_2_3, hz_2_4⟩
    exact z_iret C hr hlocks hW (f2_2, e2_2, L2_2, g2_2) rfl hP9 dX10_around_20
  ·
    refine lv_iload_n C.1 C.2.1 dX10_around_14 rfl (lv_at hl 3 rfl) ?_
    refine lv_iconst (v := iI 1) C.1 C.2.1 dX10_around_15 rfl ?_
    refine z_icmp_le (tgt := 21) C dX10_around_16 (by decide) (by omega) (fun c_16 => ?_) (fun c_16 => ?_)
    ·
      refine lv_aload_n C.1 C.2.1 dX10_around_21 rfl (lv_at hl 0 rfl) ?_
      refine z_callR (va_runV (As := []) (rest := []) C (c_X5_period l G (rw rr) bo no (G.2.2 S) 1 L2_2 g2_2 (by first | omega | assumption | (intros; first | rfl | omega | assumption | (and_intros <;> first | rfl | omega | assumption))) hz_2_4 H.size) (cwV 0 C.2.2.2.2 gX10_around_X5_period rfl rfl rfl (by decide +kernel) ⟨Nat.le_of_ble_eq_true rfl, Nat.le_of_ble_eq_true rfl⟩) (z_preV hK hW hA [6, 9] rfl (by decide) (ci := 4) (q0 := 6) rfl rfl) rfl rfl hl.1 rfl (lv_room (Nat.le_of_ble_eq_true rfl)) dX10_around_22 ⟨Nat.zero_le _, Nat.zero_le _⟩) (fun r hp => ?_)
      have hp : ∃ z : Int, r = some (.int (iI z)) ∧ (PerR g2_2 L2_2 z) ∧ (-2147483648 ≤ z ∧ z ≤ 2147483647) := hp
      obtain ⟨z_22, rfl, hz_22_0, hz_22_1⟩ := hp
      have hpr : z_22 = -4 ∨ (1 ≤ z_22 ∧ z_22 ≤ 600 ∧ 3 * z_22 ≤ L2_2) := hz_22_0.elim (fun q => Or.inr ⟨q.1.1, q.1.2.1, by obtain ⟨_, _, y, y1, y2⟩ := q.1; have := y1.1; omega⟩) (fun q => Or.inl q.1)
      refine lv_istore (lv' := [(4, .int (iI z_22)), (3, .ref (rw rr)), (0, .ref x), (1, .int (iI rr)), (2, .int (iI w))]) C.1 C.2.1 dX10_around_25 hl (by decide) rfl (fun ls hl => ?_)
      refine lv_iload C.1 C.2.1 dX10_around_27 (lv_at hl 0 rfl) ?_
      refine lv_bipush (v := iI (-4)) C.1 C.2.1 dX10_around_29 (by decide +kernel) ?_
      refine z_icmp_eq (tgt := 38) C dX10_around_31 (by decide) (by omega) (fun c_31 => ?_) (fun c_31 => ?_)
      ·
        refine lv_iload C.1 C.2.1 dX10_around_38 (lv_at hl 0 rfl) ?_
        refine lv_goto (tgt := 49) C.1 C.2.1 dX10_around_40 (by decide) ?_
        rw [hQ]
        have hP9 : ∃ z : Int, (some (Value.int (iI z_22))) = some (.int (iI z)) ∧ (0 ≤ w ∧ w ≤ 1 → AroundQ g2_2 L2_2 w z) ∧ (¬ (0 ≤ w ∧ w ≤ 1) → z = -1) ∧ (RowR S n B L2_2 g2_2) ∧ (BD f2_2) ∧ (BD e2_2) ∧ (BD g2_2) := ⟨_, rfl, (fun _ => ⟨z_22, hz_22_0, fun q => by omega, fun q => ⟨fun q8 => by omega, fun q8 => by first | exact hz_46_0 | omega⟩⟩), (fun q9 => by omega), hz_2_1, hz_2_2, hz_2_3, hz_2_4⟩
        exact z_iret C hr hlocks hW (f2_2, e2_2, L2_2, g2_2) rfl hP9 dX10_around_49
      ·
        refine lv_iload_n C.1 C.2.1 dX10_around_34 rfl (lv_at hl 4 rfl) ?_
        refine z_if_ne (tgt := 43) C dX10_around_35 (by decide) (by omega) (fun c_35 => ?_) (fun c_35 => ?_)
        ·
          refine lv_aload_n C.1 C.2.1 dX10_around_43 rfl (lv_at hl 1 rfl) ?_
          refine lv_iload C.1 C.2.1 dX10_around_44 (lv_at hl 0 rfl) ?_
          refine z_callR (va_runV (As := [.int (iI z_22)]) (rest := []) C (c_X5_tail l G (rw rr) bo no (G.2.2 S) 1 L2_2 g2_2 z_22 (by first | omega | assumption | (intros; first | rfl | omega | assumption | (and_intros <;> first | rfl | omega | assumption))) hz_2_4 (by omega) H.size) (cwV 1 C.2.2.2.2 gX10_around_X5_tail rfl rfl rfl (by decide +kernel) ⟨Nat.le_of_ble_eq_true rfl, Nat.le_of_ble_eq_true rfl⟩) (z_preV hK hW hA [6, 9] rfl (by decide) (ci := 4) (q0 := 6) rfl rfl) rfl rfl hl.1 rfl (lv_room (Nat.le_of_ble_eq_true rfl)) dX10_around_46 ⟨Nat.zero_le _, Nat.zero_le _⟩) (fun r hp => ?_)
          have hp : ∃ z : Int, r = some (.int (iI z)) ∧ (TailR g2_2 L2_2 z_22 z) ∧ (-2147483648 ≤ z ∧ z ≤ 2147483647) := hp
          obtain ⟨z_46, rfl, hz_46_0, hz_46_1⟩ := hp
          rw [hQ]
          have hP9 : ∃ z : Int, (some (Value.int (iI z_46))) = some (.int (iI z)) ∧ (0 ≤ w ∧ w ≤ 1 → AroundQ g2_2 L2_2 w z) ∧ (¬ (0 ≤ w ∧ w ≤ 1) → z = -1) ∧ (RowR S n B L2_2 g2_2) ∧ (BD f2_2) ∧ (BD e2_2) ∧ (BD g2_2) := ⟨_, rfl, (fun _ => ⟨z_22, hz_22_0, fun q => by omega, fun q => ⟨fun q8 => by omega, fun q8 => by first | exact hz_46_0 | omega⟩⟩), (fun q9 => by omega), hz_2_1, hz_2_2, hz_2_3, hz_2_4⟩
          exact z_iret C hr hlocks hW (f2_2, e2_2, L2_2, g2_2) rfl hP9 dX10_around_49
        ·
          refine lv_iload C.1 C.2.1 dX10_around_38 (lv_at hl 0 rfl) ?_
          refine lv_goto (tgt := 49) C.1 C.2.1 dX10_around_40 (by decide) ?_
          rw [hQ]
          have hP9 : ∃ z : Int, (some (Value.int (iI z_22))) = some (.int (iI z)) ∧ (0 ≤ w ∧ w ≤ 1 → AroundQ g2_2 L2_2 w z) ∧ (¬ (0 ≤ w ∧ w ≤ 1) → z = -1) ∧ (RowR S n B L2_2 g2_2) ∧ (BD f2_2) ∧ (BD e2_2) ∧ (BD g2_2) := ⟨_, rfl, (fun _ => ⟨z_22, hz_22_0, fun q => by omega, fun q => ⟨fun q8 => by omega, fun q8 => by first | exact hz_46_0 | omega⟩⟩), (fun q9 => by omega), hz_2_1, hz_2_2, hz_2_3, hz_2_4⟩
          exact z_iret C hr hlocks hW (f2_2, e2_2, L2_2, g2_2) rfl hP9 dX10_around_49
    ·
      refine lv_iconst (v := iI (-1)) C.1 C.2.1 dX10_around_19 rfl ?_
      rw [hQ]
      have hP9 : ∃ z : Int, (some (Value.int (iI (-1)))) = some (.int (iI z)) ∧ (0 ≤ w ∧ w ≤ 1 → AroundQ g2_2 L2_2 w z) ∧ (¬ (0 ≤ w ∧ w ≤ 1) → z = -1) ∧ (RowR S n B L2_2 g2_2) ∧ (BD f2_2) ∧ (BD e2_2) ∧ (BD g2_2) := ⟨_, rfl, (fun q9 => by omega), (by first | omega | assumption | (intros; first | rfl | omega | assumption | (and_intros <;> first | rfl | omega | assumption))), hz_2_1, hz_2_2, hz_2_3, hz_2_4⟩
      exact z_iret C hr hlocks hW (f2_2, e2_2, L2_2, g2_2) rfl hP9 dX10_around_20
set_option maxHeartbeats 4000000 in
set_option maxRecDepth 100000 in
/-- X10_around, none -/
theorem c_X10_around_bad (l : Launch) (G : GG) (x : Nat) (rg : Nat) (mk : Nat) (mh : Nat) (th : Nat) (ih : Nat) (nh : Nat) (fh : Nat) (sh : Nat) (ro : Nat) (ts : Nat) (rw : Int → Nat) (rr : Int) (w : Int) (hr9 : ¬ (0 ≤ rr ∧ rr ≤ 3)) (hrr : -2147483648 ≤ rr ∧ rr ≤ 2147483647) : MRc l yX10_around wsX10_around 5 G [.ref x, .int (iI rr), .int (iI w)] [(x, .inr (8, [.ref rg, .ref mk, .ref mh, .ref th, .ref ih, .ref nh, .ref fh, .ref sh, .ref ro, .ref ts])), (rg, .inl (G.2.1 3, 4, .inr (.inr (.inr (.inr (regF rw))))))] (fun r => ∃ z : Int, r = some (.int (iI z)) ∧ (z = -1)) := by
  refine MRc.start (own := RX10) (by decide) rfl rfl (Nat.le_of_ble_eq_true rfl) ?_
  intro p9 e9 s9 m9 args below meth c9 A Q C hK hW hA hr hlocks hQ ls hl
  have hl : lv_has ls 5 [(0, .ref x), (1, .int (iI rr)), (2, .int (iI w))] := hl
  have hin2 : ∀ w ∈ wsX20, w ∈ wsX10_around := by decide +kernel
  have hin3 : ∀ w ∈ wsX30, w ∈ wsX10_around := by decide +kernel
  have hin5 : ∀ w ∈ wsX50, w ∈ wsX10_around := by decide +kernel
  have hin6 : ∀ w ∈ wsX60, w ∈ wsX10_around := by decide +kernel
  have hin10 : ∀ w ∈ wsX100, w ∈ wsX10_around := by decide +kernel
  refine lv_aload_n C.1 C.2.1 dX10_around_0 rfl (lv_at hl 0 rfl) ?_
  refine lv_iload_n C.1 C.2.1 dX10_around_1 rfl (lv_at hl 1 rfl) ?_
  refine z_callR (va_runV (As := [.int (iI rr)]) (rest := []) C (c_X10_madeRow_bad l G x rg mk mh th ih nh fh sh ro ts rw rr hr9 hrr s9.heap.size) (cwV 1 C.2.2.2.2 gX10_around_X10_madeRow rfl rfl rfl (by decide +kernel) ⟨Nat.le_of_ble_eq_true rfl, Nat.le_of_ble_eq_true rfl⟩) (z_preV hK hW hA [0, 1] rfl (by decide) (ci := 8) (q0 := 0) rfl rfl) rfl rfl hl.1 rfl (lv_room (Nat.le_of_ble_eq_true rfl)) dX10_around_2 ⟨Nat.zero_le _, Nat.zero_le _⟩) (fun r hp => ?_)
  have hp : (r = some .null ∧ True) := hp
  have hq_2 := hp
  obtain ⟨rfl, hd_2⟩ := hq_2
  refine lv_astore_nN (lv' := [(3, .null), (0, .ref x), (1, .int (iI rr)), (2, .int (iI w))]) C.1 C.2.1 dX10_around_5 rfl hl (by decide) rfl (fun ls hl => ?_)
  refine lv_aload_nN C.1 C.2.1 dX10_around_6 rfl (lv_at hl 0 rfl) ?_
  refine lv_ifnullN (tgt := 19) C.1 C.2.1 dX10_around_7 (by decide) ?_
  refine lv_iconst (v := iI (-1)) C.1 C.2.1 dX10_around_19 rfl ?_
  rw [hQ]
  have hP9 : ∃ z : Int, (some (Value.int (iI (-1)))) = some (.int (iI z)) ∧ (z = -1) := ⟨_, rfl, (by first | omega | assumption | (intros; first | rfl | omega | assumption | (and_intros <;> first | rfl | omega | assumption)))⟩
  exact z_iretR C hr hlocks hP9 dX10_around_20
set_option maxHeartbeats 4000000 in
set_option maxRecDepth 100000 in
/-- X10_breaks -/
theorem c_X10_breaks (l : Launch) (G : GG) (x : Nat) (rg : Nat) (mk : Nat) (mh : Nat) (th : Nat) (ih : Nat) (nh : Nat) (fh : Nat) (sh : Nat) (ro : Nat) (ts : Nat) (rw : Int → Nat) (rr : Int) (ma : Nat) (ae : Nat) (bo : Nat) (bi : Nat) (no : Nat) (S : Nat) (f : Int → Int) (e : Int → Int) (M : Int) (L : Int) (n : Int) (B : Int → Int) (g : Int → Int) (na : Nat) (nn : Int) (nf : Int → Int) (hr9 : 0 ≤ rr ∧ rr ≤ 3) (hS : S < 7) (hVB : AllowsR S n B) (hf : BD f) (he : BD e) (hg : BD g) (hB : BD B) (hM : M = 0 ∨ (M = 1 ∧ RowR S n B L g)) (hnn : 0 ≤ nn ∧ nn ≤ 40) (hnfb : BD nf) (hnf : ∀ j, 0 ≤ j → j < nn → 0 ≤ nf j ∧ nf j ≤ 60000) : MQc l yX10_breaks wsX10_breaks 5 G [.ref x, .int (iI rr)] [(x, .inr (8, [.ref rg, .ref mk, .ref mh, .ref th, .ref ih, .ref nh, .ref fh, .ref sh, .ref ro, .ref ts])), (rg, .inl (G.2.1 3, 4, .inr (.inr (.inr (.inr (regF rw)))))), (mh, .inr (1, [.ref mk, .ref ae])), (mk, .inr (2, [.ref ma])), (ma, .inl (G.2.1 0, 60001, .inl (iA f))), (ae, .inl (G.2.1 0, 1000, .inl (iA e))), (rw rr, .inr (4, [.ref bo, .ref no, .ref (G.2.2 S), .int (iI M), .int (iI L)])), (bo, .inr (5, [.ref bi, .int (iI n)])), (bi, .inl (G.2.1 0, 6, .inl (iA B))), (no, .inl (G.2.1 0, 2000, .inl (iA g))), (nh, .inr (5, [.ref na, .int (iI nn)])), (na, .inl (G.2.1 0, 40, .inl (iA nf)))] (fun r (u : (Int → Int) × (Int → Int) × Int × (Int → Int)) => ∃ z : Int, r = some (.int (iI z)) ∧ (BrkR u.2.2.2 u.2.2.1 nf nn z) ∧ (z ≠ -1) ∧ (RowR S n B u.2.2.1 u.2.2.2) ∧ (BD u.1) ∧ (BD u.2.1) ∧ (BD u.2.2.2)) (fun u => [(x, .inr (8, [.ref rg, .ref mk, .ref mh, .ref th, .ref ih, .ref nh, .ref fh, .ref sh, .ref ro, .ref ts])), (rg, .inl (G.2.1 3, 4, .inr (.inr (.inr (.inr (regF rw)))))), (mh, .inr (1, [.ref mk, .ref ae])), (mk, .inr (2, [.ref ma])), (ma, .inl (G.2.1 0, 60001, .inl (iA u.1))), (ae, .inl (G.2.1 0, 1000, .inl (iA u.2.1))), (rw rr, .inr (4, [.ref bo, .ref no, .ref (G.2.2 S), .int (iI 1), .int (iI u.2.2.1)])), (bo, .inr (5, [.ref bi, .int (iI n)])), (bi, .inl (G.2.1 0, 6, .inl (iA B))), (no, .inl (G.2.1 0, 2000, .inl (iA u.2.2.2))), (nh, .inr (5, [.ref na, .int (iI nn)])), (na, .inl (G.2.1 0, 40, .inl (iA nf)))]) := by
  refine MQc.start (own := RX10) (by decide) rfl rfl (Nat.le_of_ble_eq_true rfl) ?_
  intro p9 e9 s9 m9 args below meth c9 A Q C hK hW hA hr hlocks hQ ls hl
  have hl : lv_has ls 4 [(0, .ref x), (1, .int (iI rr))] := hl
  have hin2 : ∀ w ∈ wsX20, w ∈ wsX10_breaks := by decide +kernel
  have hin3 : ∀ w ∈ wsX30, w ∈ wsX10_breaks := by decide +kernel
  have hin5 : ∀ w ∈ wsX50, w ∈ wsX10_breaks := by decide +kernel
  have hin6 : ∀ w ∈ wsX60, w ∈ wsX10_breaks := by decide +kernel
  have hin10 : ∀ w ∈ wsX100, w ∈ wsX10_breaks := by decide +kernel
  refine lv_aload_n C.1 C.2.1 dX10_breaks_0 rfl (lv_at hl 0 rfl) ?_
  refine lv_iload_n C.1 C.2.1 dX10_breaks_1 rfl (lv_at hl 1 rfl) ?_
  refine z_call (va_runV (As := [.int (iI rr)]) (rest := []) C (c_X10_madeRow l G x rg mk mh th ih nh fh sh ro ts rw rr ma ae bo bi no S f e M L n B g hr9 hS hVB hf he hg hB hM s9.heap.size) (cwV 1 C.2.2.2.2 gX10_breaks_X10_madeRow rfl rfl rfl (by decide +kernel) ⟨Nat.le_of_ble_eq_true rfl, Nat.le_of_ble_eq_true rfl⟩) (z_preV hK hW hA [0, 1, 2, 3, 4, 5, 6, 7, 8, 9] rfl (by decide) (ci := 8) (q0 := 0) rfl rfl) rfl rfl hl.1 rfl (lv_room (Nat.le_of_ble_eq_true rfl)) dX10_breaks_2 ⟨Nat.zero_le _, Nat.zero_le _⟩) hW hA [0, 1, 2, 3, 4, 5, 6, 7, 8, 9] rfl (by decide) (fun _ => rfl) (fun r u H locs hp hW => ?_)
  obtain ⟨f2_2, e2_2, L2_2, g2_2⟩ := u
  have hW : Wd G A s9.heap [(x, .inr (8, [.ref rg, .ref mk, .ref mh, .ref th, .ref ih, .ref nh, .ref fh, .ref sh, .ref ro, .ref ts])), (rg, .inl (G.2.1 3, 4, .inr (.inr (.inr (.inr (regF rw)))))), (mh, .inr (1, [.ref mk, .ref ae])), (mk, .inr (2, [.ref ma])), (ma, .inl (G.2.1 0, 60001, .inl (iA f2_2))), (ae, .inl (G.2.1 0, 1000, .inl (iA e2_2))), (rw rr, .inr (4, [.ref bo, .ref no, .ref (G.2.2 S), .int (iI 1), .int (iI L2_2)])), (bo, .inr (5, [.ref bi, .int (iI n)])), (bi, .inl (G.2.1 0, 6, .inl (iA B))), (no, .inl (G.2.1 0, 2000, .inl (iA g2_2))), (nh, .inr (5, [.ref na, .int (iI nn)])), (na, .inl (G.2.1 0, 40, .inl (iA nf)))] H locs := hW
  have hp : (r = some (.ref (rw rr)) ∧ True) ∧ (RowR S n B L2_2 g2_2) ∧ (BD f2_2) ∧ (BD e2_2) ∧ (BD g2_2) := hp
  obtain ⟨hq_2, hz_2_1, hz_2_2, hz_2_3, hz_2_4⟩ := hp
  have hRV := hz_2_1.2.2.2.1
  have hRL := hz_2_1.2.1
  have hRL2 := hz_2_1.2.2.1
  obtain ⟨rfl, hd_2⟩ := hq_2
  refine lv_astore_n (lv' := [(2, .ref (rw rr)), (0, .ref x), (1, .int (iI rr))]) C.1 C.2.1 dX10_breaks_5 rfl hl (by decide) rfl (fun ls hl => ?_)
  refine lv_aload_n C.1 C.2.1 dX10_breaks_6 rfl (lv_at hl 0 rfl) ?_
  refine lv_ifnonnull (tgt := 12) C.1 C.2.1 dX10_breaks_7 (by decide) ?_
  refine lv_iconst (v := iI 0) C.1 C.2.1 dX10_breaks_12 rfl ?_
  refine lv_istore_n (lv' := [(3, .int (iI 0)), (2, .ref (rw rr)), (0, .ref x), (1, .int (iI rr))]) C.1 C.2.1 dX10_breaks_13 rfl hl (by decide) rfl (fun ls hl => ?_)
  have cut_14 : ∀ (n9 : Nat) (i : Int), (0 ≤ i ∧ i ≤ nn) → (∀ j, 0 ≤ j → j < i → j < L2_2 ∧ g2_2 j = nf j) → (i ≤ L2_2) → (nn - i < (n9 : Int)) → ∀ (H : Heap) (locs : List Loc) (ls : Array Slot), Wd G A s9.heap [(x, .inr (8, [.ref rg, .ref mk, .ref mh, .ref th, .ref ih, .ref nh, .ref fh, .ref sh, .ref ro, .ref ts])), (rg, .inl (G.2.1 3, 4, .inr (.inr (.inr (.inr (regF rw)))))), (mh, .inr (1, [.ref mk, .ref ae])), (mk, .inr (2, [.ref ma])), (ma, .inl (G.2.1 0, 60001, .inl (iA f2_2))), (ae, .inl (G.2.1 0, 1000, .inl (iA e2_2))), (rw rr, .inr (4, [.ref bo, .ref no, .ref (G.2.2 S), .int (iI 1), .int (iI L2_2)])), (bo, .inr (5, [.ref bi, .int (iI n)])), (bi, .inl (G.2.1 0, 6, .inl (iA B))), (no, .inl (G.2.1 0, 2000, .inl (iA g2_2))), (nh, .inr (5, [.ref na, .int (iI nn)])), (na, .inl (G.2.1 0, 40, .inl (iA nf)))] H locs → lv_has ls 4 [(3, .int (iI i)), (2, .ref (rw rr)), (0, .ref x), (1, .int (iI rr))] → W p9 l e9 (rmL 5) s9 m9 args below meth c9 H locs 0 0 Q (F0 m9 14 ls []) := by
    intro n9
    induction n9 with
    | zero => intro i hi he hiL hmu; intros; exfalso; omega
    | succ n9 ih_14 =>
      intro i hi he hiL hmu H locs ls hW hl
      refine lv_iload_n C.1 C.2.1 dX10_breaks_14 rfl (lv_at hl 0 rfl) ?_
      refine lv_aload_n C.1 C.2.1 dX10_breaks_15 rfl (lv_at hl 2 rfl) ?_
      refine z_get C hK hW hin10 (v := .ref nh) 0 rfl rfl 5 (by decide) (C.2.2.2.2 (.fieldLink RX10 47 "TellingRows" "numbers" "LTellingRows$Sequence;") (List.mem_of_getElem? (i := 1) rfl)) (fun _ h9 => h9) rfl dX10_breaks_16 ?_
      refine z_callR (va_runV (As := []) (rest := [.int (iI i)]) C (c_X6_size l G nh na 40 nn nf  H.size) (cwV 0 C.2.2.2.2 gX10_breaks_X6_size rfl rfl rfl (by decide +kernel) ⟨Nat.le_of_ble_eq_true rfl, Nat.le_of_ble_eq_true rfl⟩) (z_preV hK hW hA [10, 11] rfl (by decide) (ci := 5) (q0 := 10) rfl rfl) rfl rfl hl.1 rfl (lv_room (Nat.le_of_ble_eq_true rfl)) dX10_breaks_19 ⟨Nat.zero_le _, Nat.zero_le _⟩) (fun r hp => ?_)
      have hp : ∃ z : Int, r = some (.int (iI z)) ∧ (z = nn) := hp
      obtain ⟨z_19, rfl, hz_19_0⟩ := hp
      refine z_icmp_ge (tgt := 49) C dX10_breaks_22 (by decide) (by omega) (fun c_22 => ?_) (fun c_22 => ?_)
      ·
        refine lv_bipush (v := iI (-4)) C.1 C.2.1 dX10_breaks_49 (by decide +kernel) ?_
        rw [hQ]
        have hP9 : ∃ z : Int, (some (Value.int (iI (-4)))) = some (.int (iI z)) ∧ (BrkR g2_2 L2_2 nf nn z) ∧ (z ≠ -1) ∧ (RowR S n B L2_2 g2_2) ∧ (BD f2_2) ∧ (BD e2_2) ∧ (BD g2_2) := ⟨_, rfl, (Or.inl ⟨rfl, (Int.lt_or_le 0 nn).elim (fun q => by have := (he (nn - 1) (by omega) (by omega)).1; omega) (fun q => by omega), fun j j0 j1 => (he j j0 (by omega)).2⟩), (by first | omega | assumption | (intros; first | rfl | omega | assumption | (and_intros <;> first | rfl | omega | assumption))), hz_2_1, hz_2_2, hz_2_3, hz_2_4⟩
        exact z_iret C hr hlocks hW (f2_2, e2_2, L2_2, g2_2) rfl hP9 dX10_breaks_51
      ·
        refine lv_aload_n C.1 C.2.1 dX10_breaks_25 rfl (lv_at hl 1 rfl) ?_
        refine lv_iload_n C.1 C.2.1 dX10_breaks_26 rfl (lv_at hl 0 rfl) ?_
        refine z_callR (va_runV (As := [.int (iI i)]) (rest := []) C (c_X5_numberAt l G (rw rr) bo no (G.2.2 S) 1 L2_2 g2_2 i (by first | omega | assumption | (intros; first | rfl | omega | assumption | (and_intros <;> first | rfl | omega | assumption))) hz_2_4 (by first | omega | assumption | (intros; first | rfl | omega | assumption | (and_intros <;> first | rfl | omega | assumption))) H.size) (cwV 1 C.2.2.2.2 gX10_breaks_X5_numberAt rfl rfl rfl (by decide +kernel) ⟨Nat.le_of_ble_eq_true rfl, Nat.le_of_ble_eq_true rfl⟩) (z_preV hK hW hA [6, 9] rfl (by decide) (ci := 4) (q0 := 6) rfl rfl) rfl rfl hl.1 rfl (lv_room (Nat.le_of_ble_eq_true rfl)) dX10_breaks_27 ⟨Nat.zero_le _, Nat.zero_le _⟩) (fun r hp => ?_)
        have hp : ∃ z : Int, r = some (.int (iI z)) ∧ (0 ≤ i ∧ i < L2_2 → z = g2_2 i) ∧ (¬ (0 ≤ i ∧ i < L2_2) → z = -4) ∧ (-2147483648 ≤ z ∧ z ≤ 2147483647) := hp
        obtain ⟨z_27, rfl, hz_27_0, hz_27_1, hz_27_2⟩ := hp
        refine lv_aload_n C.1 C.2.1 dX10_breaks_30 rfl (lv_at hl 2 rfl) ?_
        refine z_get C hK hW hin10 (v := .ref nh) 0 rfl rfl 5 (by decide) (C.2.2.2.2 (.fieldLink RX10 47 "TellingRows" "numbers" "LTellingRows$Sequence;") (List.mem_of_getElem? (i := 1) rfl)) (fun _ h9 => h9) rfl dX10_breaks_31 ?_
        refine lv_iload_n C.1 C.2.1 dX10_breaks_34 rfl (lv_at hl 0 rfl) ?_
        refine z_callR (va_runV (As := [.int (iI i)]) (rest := [.int (iI z_27)]) C (c_X6_get l G nh na 40 nn nf i (by first | omega | assumption | (intros; first | rfl | omega | assumption | (and_intros <;> first | rfl | omega | assumption))) (by first | omega | assumption | (intros; first | rfl | omega | assumption | (and_intros <;> first | rfl | omega | assumption))) hnfb (by first | omega | assumption | (intros; first | rfl | omega | assumption | (and_intros <;> first | rfl | omega | assumption))) H.size) (cwV 1 C.2.2.2.2 gX10_breaks_X6_get rfl rfl rfl (by decide +kernel) ⟨Nat.le_of_ble_eq_true rfl, Nat.le_of_ble_eq_true rfl⟩) (z_preV hK hW hA [10, 11] rfl (by decide) (ci := 5) (q0 := 10) rfl rfl) rfl rfl hl.1 rfl (lv_room (Nat.le_of_ble_eq_true rfl)) dX10_breaks_35 ⟨Nat.zero_le _, Nat.zero_le _⟩) (fun r hp => ?_)
        have hp : ∃ z : Int, r = some (.int (iI z)) ∧ ((0 ≤ i ∧ i < nn → z = nf i)) ∧ ((¬ (0 ≤ i ∧ i < nn) → z = -4)) ∧ (-2147483648 ≤ z ∧ z ≤ 2147483647) := hp
        obtain ⟨z_35, rfl, hz_35_0, hz_35_1, hz_35_2⟩ := hp
        have h35 := hz_35_0 (by omega)
        have hnfi := hnf i (by omega) (by omega)
        refine z_icmp_eq (tgt := 43) C dX10_breaks_38 (by decide) (by omega) (fun c_38 => ?_) (fun c_38 => ?_)
        ·
          refine lv_iinc (v := iI (i + 1)) (lv' := [(3, .int (iI (i + 1))), (2, .ref (rw rr)), (0, .ref x), (1, .int (iI rr))]) C.1 C.2.1 dX10_breaks_43 hl (k := 0) rfl (iI_add _ _) (by decide) rfl (fun ls hl => ?_)
          refine lv_goto (tgt := 14) C.1 C.2.1 dX10_breaks_46 (by decide) ?_
          exact ih_14 (i + 1) (by first | omega | assumption | (intros; first | rfl | omega | assumption | (and_intros <;> first | rfl | omega | assumption))) (fun j j0 j1 => (Int.lt_or_le j i).elim (fun q => he j j0 q) (fun q => by have h1 := hz_27_1; have h2 := hz_35_0 (by omega); have h3 := hnf i (by omega) (by omega); have h4 := hz_27_0; rw [show j = i by omega]; omega)) (by have h1 := hz_27_1; have h2 := hz_35_0 (by omega); have h3 := hnf i (by omega) (by omega); omega) (by omega) _ _ _ hW (lv_sub hl [0, 1, 2, 3] rfl)
        ·
          refine lv_iload_n C.1 C.2.1 dX10_breaks_41 rfl (lv_at hl 0 rfl) ?_
          rw [hQ]
          have hP9 : ∃ z : Int, (some (Value.int (iI i))) = some (.int (iI z)) ∧ (BrkR g2_2 L2_2 nf nn z) ∧ (z ≠ -1) ∧ (RowR S n B L2_2 g2_2) ∧ (BD f2_2) ∧ (BD e2_2) ∧ (BD g2_2) := ⟨_, rfl, (Or.inr ⟨by omega, by omega, by omega, fun j j0 j1 => (he j j0 j1).2, fun q9 => c_38 (by rw [hz_27_0 (by omega), hz_35_0 (by omega)]; exact q9.2)⟩), (by first | omega | assumption | (intros; first | rfl | omega | assumption | (and_intros <;> first | rfl | omega | assumption))), hz_2_1, hz_2_2, hz_2_3, hz_2_4⟩
          exact z_iret C hr hlocks hW (f2_2, e2_2, L2_2, g2_2) rfl hP9 dX10_breaks_42
  exact cut_14 (((nn - 0) + 1 : Int)).toNat 0 (by first | omega | assumption | (intros; first | rfl | omega | assumption | (and_intros <;> first | rfl | omega | assumption))) (fun j j0 j1 => by omega) (by omega) (by omega) _ _ _ hW (lv_sub hl [0, 1, 2, 3] rfl)
set_option maxHeartbeats 4000000 in
set_option maxRecDepth 100000 in
/-- X10_breaks, none -/
theorem c_X10_breaks_bad (l : Launch) (G : GG) (x : Nat) (rg : Nat) (mk : Nat) (mh : Nat) (th : Nat) (ih : Nat) (nh : Nat) (fh : Nat) (sh : Nat) (ro : Nat) (ts : Nat) (rw : Int → Nat) (rr : Int) (hr9 : ¬ (0 ≤ rr ∧ rr ≤ 3)) (hrr : -2147483648 ≤ rr ∧ rr ≤ 2147483647) : MRc l yX10_breaks wsX10_breaks 5 G [.ref x, .int (iI rr)] [(x, .inr (8, [.ref rg, .ref mk, .ref mh, .ref th, .ref ih, .ref nh, .ref fh, .ref sh, .ref ro, .ref ts])), (rg, .inl (G.2.1 3, 4, .inr (.inr (.inr (.inr (regF rw))))))] (fun r => ∃ z : Int, r = some (.int (iI z)) ∧ (z = -1)) := by
  refine MRc.start (own := RX10) (by decide) rfl rfl (Nat.le_of_ble_eq_true rfl) ?_
  intro p9 e9 s9 m9 args below meth c9 A Q C hK hW hA hr hlocks hQ ls hl
  have hl : lv_has ls 4 [(0, .ref x), (1, .int (iI rr))] := hl
  have hin2 : ∀ w ∈ wsX20, w ∈ wsX10_breaks := by decide +kernel
  have hin3 : ∀ w ∈ wsX30, w ∈ wsX10_breaks := by decide +kernel
  have hin5 : ∀ w ∈ wsX50, w ∈ wsX10_breaks := by decide +kernel
  have hin6 : ∀ w ∈ wsX60, w ∈ wsX10_breaks := by decide +kernel
  have hin10 : ∀ w ∈ wsX100, w ∈ wsX10_breaks := by decide +kernel
  refine lv_aload_n C.1 C.2.1 dX10_breaks_0 rfl (lv_at hl 0 rfl) ?_
  refine lv_iload_n C.1 C.2.1 dX10_breaks_1 rfl (lv_at hl 1 rfl) ?_
  refine z_callR (va_runV (As := [.int (iI rr)]) (rest := []) C (c_X10_madeRow_bad l G x rg mk mh th ih nh fh sh ro ts rw rr hr9 hrr s9.heap.size) (cwV 1 C.2.2.2.2 gX10_breaks_X10_madeRow rfl rfl rfl (by decide +kernel) ⟨Nat.le_of_ble_eq_true rfl, Nat.le_of_ble_eq_true rfl⟩) (z_preV hK hW hA [0, 1] rfl (by decide) (ci := 8) (q0 := 0) rfl rfl) rfl rfl hl.1 rfl (lv_room (Nat.le_of_ble_eq_true rfl)) dX10_breaks_2 ⟨Nat.zero_le _, Nat.zero_le _⟩) (fun r hp => ?_)
  have hp : (r = some .null ∧ True) := hp
  have hq_2 := hp
  obtain ⟨rfl, hd_2⟩ := hq_2
  refine lv_astore_nN (lv' := [(2, .null), (0, .ref x), (1, .int (iI rr))]) C.1 C.2.1 dX10_breaks_5 rfl hl (by decide) rfl (fun ls hl => ?_)
  refine lv_aload_nN C.1 C.2.1 dX10_breaks_6 rfl (lv_at hl 0 rfl) ?_
  refine lv_ifnonnullN C.1 C.2.1 dX10_breaks_7 ?_
  refine lv_iconst (v := iI (-1)) C.1 C.2.1 dX10_breaks_10 rfl ?_
  rw [hQ]
  have hP9 : ∃ z : Int, (some (Value.int (iI (-1)))) = some (.int (iI z)) ∧ (z = -1) := ⟨_, rfl, (by first | omega | assumption | (intros; first | rfl | omega | assumption | (and_intros <;> first | rfl | omega | assumption)))⟩
  exact z_iretR C hr hlocks hP9 dX10_breaks_11
set_option maxHeartbeats 4000000 in
set_option maxRecDepth 100000 in
/-- X10_number -/
theorem c_X10_number (l : Launch) (G : GG) (x : Nat) (rg : Nat) (mk : Nat) (mh : Nat) (th : Nat) (ih : Nat) (nh : Nat) (fh : Nat) (sh : Nat) (ro : Nat) (ts : Nat) (na : Nat) (n : Int) (q : Int → Int) (v : Int) (hn : 0 ≤ n ∧ n ≤ 40) (hq : BD q) (hv : -2147483648 ≤ v ∧ v ≤ 2147483647) : MQc l yX10_number wsX10_number 1 G [.ref x, .int (iI v)] [(x, .inr (8, [.ref rg, .ref mk, .ref mh, .ref th, .ref ih, .ref nh, .ref fh, .ref sh, .ref ro, .ref ts])), (nh, .inr (5, [.ref na, .int (iI n)])), (na, .inl (G.2.1 0, 40, .inl (iA q)))] (fun r (u : Int × (Int → Int)) => ∃ z : Int, r = some (.int (iI z)) ∧ (¬ (0 ≤ v ∧ v ≤ 60000) → z = -1 ∧ u.1 = n ∧ u.2 = q) ∧ (0 ≤ v ∧ v ≤ 60000 → (n < 40 → z = n + 1 ∧ u.1 = n + 1 ∧ u.2 = up q n v) ∧ (¬ n < 40 → z = -3 ∧ u.1 = n ∧ u.2 = q)) ∧ (BD u.2)) (fun u => [(x, .inr (8, [.ref rg, .ref mk, .ref mh, .ref th, .ref ih, .ref nh, .ref fh, .ref sh, .ref ro, .ref ts])), (nh, .inr (5, [.ref na, .int (iI u.1)])), (na, .inl (G.2.1 0, 40, .inl (iA u.2)))]) := by
  refine MQc.start (own := RX10) (by decide) rfl rfl (Nat.le_of_ble_eq_true rfl) ?_
  intro p9 e9 s9 m9 args below meth c9 A Q C hK hW hA hr hlocks hQ ls hl
  have hl : lv_has ls 2 [(0, .ref x), (1, .int (iI v))] := hl
  have hin6 : ∀ w ∈ wsX60, w ∈ wsX10_number := by decide +kernel
  have hin10 : ∀ w ∈ wsX100, w ∈ wsX10_number := by decide +kernel
  refine lv_iload_n C.1 C.2.1 dX10_number_0 rfl (lv_at hl 1 rfl) ?_
  refine z_callR (va_runS (As := [.int (iI v)]) (rest := []) C (c_X10_isNumber l G v hv s9.heap.size) (va_cwS 1 C.2.2.2.2 gX10_number_X10_isNumber rfl rfl rfl (by decide +kernel) ⟨Nat.le_of_ble_eq_true rfl, Nat.le_of_ble_eq_true rfl⟩) (z_preS hK hW hA [] rfl (by decide)) rfl rfl hl.1 rfl (lv_room (Nat.le_of_ble_eq_true rfl)) dX10_number_1 ⟨Nat.zero_le _, Nat.zero_le _⟩) (fun r hp => ?_)
  have hp : ∃ z : Int, r = some (.int (iI z)) ∧ ((z = 1 ∧ 0 ≤ v ∧ v ≤ 60000) ∨ (z = 0 ∧ ¬ (0 ≤ v ∧ v ≤ 60000))) := hp
  obtain ⟨z_1, rfl, hz_1_0⟩ := hp
  refine z_if_ne (tgt := 9) C dX10_number_4 (by decide) (by omega) (fun c_4 => ?_) (fun c_4 => ?_)
  ·
    refine lv_aload_n C.1 C.2.1 dX10_number_9 rfl (lv_at hl 0 rfl) ?_
    refine z_get C hK hW hin10 (v := .ref nh) 0 rfl rfl 5 (by decide) (C.2.2.2.2 (.fieldLink RX10 47 "TellingRows" "numbers" "LTellingRows$Sequence;") (List.mem_of_getElem? (i := 1) rfl)) (fun _ h9 => h9) rfl dX10_number_10 ?_
    refine lv_iload_n C.1 C.2.1 dX10_number_13 rfl (lv_at hl 1 rfl) ?_
    refine z_call (va_runV (As := [.int (iI v)]) (rest := []) C (c_X6_add l G nh na 40 n q v (by first | omega | assumption | (intros; first | rfl | omega | assumption | (and_intros <;> first | rfl | omega | assumption))) (by first | omega | assumption | (intros; first | rfl | omega | assumption | (and_intros <;> first | rfl | omega | assumption))) hq hv s9.heap.size) (cwV 1 C.2.2.2.2 gX10_number_X6_add rfl rfl rfl (by decide +kernel) ⟨Nat.le_of_ble_eq_true rfl, Nat.le_of_ble_eq_true rfl⟩) (z_preV hK hW hA [1, 2] rfl (by decide) (ci := 5) (q0 := 1) rfl rfl) rfl rfl hl.1 rfl (lv_room (Nat.le_of_ble_eq_true rfl)) dX10_number_14 ⟨Nat.zero_le _, Nat.zero_le _⟩) hW hA [1, 2] rfl (by decide) (fun _ => rfl) (fun r u H locs hp hW => ?_)
    obtain ⟨n2_14, f2_14⟩ := u
    have hp : ∃ z : Int, r = some (.int (iI z)) ∧ ((n < (40 : Int) → z = 1 ∧ n2_14 = n + 1 ∧ f2_14 = up q n v)) ∧ ((¬ n < (40 : Int) → z = 0 ∧ n2_14 = n ∧ f2_14 = q)) ∧ (BD f2_14) := hp
    obtain ⟨z_14, rfl, hz_14_0, hz_14_1, hz_14_2⟩ := hp
    have hW : Wd G A s9.heap [(x, .inr (8, [.ref rg, .ref mk, .ref mh, .ref th, .ref ih, .ref nh, .ref fh, .ref sh, .ref ro, .ref ts])), (nh, .inr (5, [.ref na, .int (iI n2_14)])), (na, .inl (G.2.1 0, 40, .inl (iA f2_14)))] H locs := hW
    have hA9 : n < 40 → z_14 = 1 ∧ n2_14 = n + 1 ∧ f2_14 = up q n v := fun q9 => hz_14_0 q9
    have hA8 : ¬ n < 40 → z_14 = 0 ∧ n2_14 = n ∧ f2_14 = q := fun q9 => hz_14_1 q9
    refine z_if_eq (tgt := 30) C dX10_number_17 (by decide) (by omega) (fun c_17 => ?_) (fun c_17 => ?_)
    ·
      refine lv_bipush (v := iI (-3)) C.1 C.2.1 dX10_number_30 (by decide +kernel) ?_
      rw [hQ]
      have hP9 : ∃ z : Int, (some (Value.int (iI (-3)))) = some (.int (iI z)) ∧ (¬ (0 ≤ v ∧ v ≤ 60000) → z = -1 ∧ n2_14 = n ∧ f2_14 = q) ∧ (0 ≤ v ∧ v ≤ 60000 → (n < 40 → z = n + 1 ∧ n2_14 = n + 1 ∧ f2_14 = up q n v) ∧ (¬ n < 40 → z = -3 ∧ n2_14 = n ∧ f2_14 = q)) ∧ (BD f2_14) := ⟨_, rfl, (by first | exact fun _ => ⟨rfl, rfl, rfl⟩ | exact fun q9 => by omega), (by first | exact fun q9 => by omega | exact fun _ => ⟨fun q8 => by have h9 := hA9 q8; refine ⟨?_, h9.2.1, h9.2.2⟩; omega, fun q8 => by have h9 := hA8 q8; refine ⟨?_, h9.2.1, h9.2.2⟩; omega⟩), hz_14_2⟩
      exact z_iret C hr hlocks hW (n2_14, f2_14) rfl hP9 dX10_number_32
    ·
      refine lv_aload_n C.1 C.2.1 dX10_number_20 rfl (lv_at hl 0 rfl) ?_
      refine z_get C hK hW hin10 (v := .ref nh) 0 rfl rfl 5 (by decide) (C.2.2.2.2 (.fieldLink RX10 47 "TellingRows" "numbers" "LTellingRows$Sequence;") (List.mem_of_getElem? (i := 1) rfl)) (fun _ h9 => h9) rfl dX10_number_21 ?_
      refine z_callR (va_runV (As := []) (rest := []) C (c_X6_size l G nh na 40 n2_14 f2_14  H.size) (cwV 0 C.2.2.2.2 gX10_number_X6_size rfl rfl rfl (by decide +kernel) ⟨Nat.le_of_ble_eq_true rfl, Nat.le_of_ble_eq_true rfl⟩) (z_preV hK hW hA [1, 2] rfl (by decide) (ci := 5) (q0 := 1) rfl rfl) rfl rfl hl.1 rfl (lv_room (Nat.le_of_ble_eq_true rfl)) dX10_number_24 ⟨Nat.zero_le _, Nat.zero_le _⟩) (fun r hp => ?_)
      have hp : ∃ z : Int, r = some (.int (iI z)) ∧ (z = n2_14) := hp
      obtain ⟨z_24, rfl, hz_24_0⟩ := hp
      refine lv_goto (tgt := 32) C.1 C.2.1 dX10_number_27 (by decide) ?_
      rw [hQ]
      have hP9 : ∃ z : Int, (some (Value.int (iI z_24))) = some (.int (iI z)) ∧ (¬ (0 ≤ v ∧ v ≤ 60000) → z = -1 ∧ n2_14 = n ∧ f2_14 = q) ∧ (0 ≤ v ∧ v ≤ 60000 → (n < 40 → z = n + 1 ∧ n2_14 = n + 1 ∧ f2_14 = up q n v) ∧ (¬ n < 40 → z = -3 ∧ n2_14 = n ∧ f2_14 = q)) ∧ (BD f2_14) := ⟨_, rfl, (by first | exact fun _ => ⟨rfl, rfl, rfl⟩ | exact fun q9 => by omega), (by first | exact fun q9 => by omega | exact fun _ => ⟨fun q8 => by have h9 := hA9 q8; refine ⟨?_, h9.2.1, h9.2.2⟩; omega, fun q8 => by have h9 := hA8 q8; refine ⟨?_, h9.2.1, h9.2.2⟩; omega⟩), hz_14_2⟩
      exact z_iret C hr hlocks hW (n2_14, f2_14) rfl hP9 dX10_number_32
  ·
    refine lv_iconst (v := iI (-1)) C.1 C.2.1 dX10_number_7 rfl ?_
    rw [hQ]
    have hP9 : ∃ z : Int, (some (Value.int (iI (-1)))) = some (.int (iI z)) ∧ (¬ (0 ≤ v ∧ v ≤ 60000) → z = -1 ∧ n = n ∧ q = q) ∧ (0 ≤ v ∧ v ≤ 60000 → (n < 40 → z = n + 1 ∧ n = n + 1 ∧ q = up q n v) ∧ (¬ n < 40 → z = -3 ∧ n = n ∧ q = q)) ∧ (BD q) := ⟨_, rfl, (by first | exact fun _ => ⟨rfl, rfl, rfl⟩ | exact fun q9 => by omega), (by first | exact fun q9 => by omega | exact fun _ => ⟨fun q8 => by have h9 := hA9 q8; refine ⟨?_, h9.2.1, h9.2.2⟩; omega, fun q8 => by have h9 := hA8 q8; refine ⟨?_, h9.2.1, h9.2.2⟩; omega⟩), hq⟩
    exact z_iret C hr hlocks hW (n, q) rfl hP9 dX10_number_8
set_option maxHeartbeats 4000000 in
set_option maxRecDepth 100000 in
/-- X10_figure -/
theorem c_X10_figure (l : Launch) (G : GG) (x : Nat) (rg : Nat) (mk : Nat) (mh : Nat) (th : Nat) (ih : Nat) (nh : Nat) (fh : Nat) (sh : Nat) (ro : Nat) (ts : Nat) (fa : Nat) (n : Int) (q : Int → Int) (v : Int) (hn : 0 ≤ n ∧ n ≤ 40) (hq : BD q) (hv : -2147483648 ≤ v ∧ v ≤ 2147483647) : MQc l yX10_figure wsX10_figure 1 G [.ref x, .int (iI v)] [(x, .inr (8, [.ref rg, .ref mk, .ref mh, .ref th, .ref ih, .ref nh, .ref fh, .ref sh, .ref ro, .ref ts])), (fh, .inr (5, [.ref fa, .int (iI n)])), (fa, .inl (G.2.1 0, 40, .inl (iA q)))] (fun r (u : Int × (Int → Int)) => ∃ z : Int, r = some (.int (iI z)) ∧ (¬ (1 ≤ v ∧ v ≤ 9) → z = -1 ∧ u.1 = n ∧ u.2 = q) ∧ (1 ≤ v ∧ v ≤ 9 → (n < 40 → z = n + 1 ∧ u.1 = n + 1 ∧ u.2 = up q n v) ∧ (¬ n < 40 → z = -3 ∧ u.1 = n ∧ u.2 = q)) ∧ (BD u.2)) (fun u => [(x, .inr (8, [.ref rg, .ref mk, .ref mh, .ref th, .ref ih, .ref nh, .ref fh, .ref sh, .ref ro, .ref ts])), (fh, .inr (5, [.ref fa, .int (iI u.1)])), (fa, .inl (G.2.1 0, 40, .inl (iA u.2)))]) := by
  refine MQc.start (own := RX10) (by decide) rfl rfl (Nat.le_of_ble_eq_true rfl) ?_
  intro p9 e9 s9 m9 args below meth c9 A Q C hK hW hA hr hlocks hQ ls hl
  have hl : lv_has ls 2 [(0, .ref x), (1, .int (iI v))] := hl
  have hin6 : ∀ w ∈ wsX60, w ∈ wsX10_figure := by decide +kernel
  have hin10 : ∀ w ∈ wsX100, w ∈ wsX10_figure := by decide +kernel
  refine lv_iload_n C.1 C.2.1 dX10_figure_0 rfl (lv_at hl 1 rfl) ?_
  refine lv_iconst (v := iI 1) C.1 C.2.1 dX10_figure_1 rfl ?_
  refine z_icmp_lt (tgt := 11) C dX10_figure_2 (by decide) (by omega) (fun c_2 => ?_) (fun c_2 => ?_)
  ·
    refine lv_iconst (v := iI (-1)) C.1 C.2.1 dX10_figure_11 rfl ?_
    rw [hQ]
    have hP9 : ∃ z : Int, (some (Value.int (iI (-1)))) = some (.int (iI z)) ∧ (¬ (1 ≤ v ∧ v ≤ 9) → z = -1 ∧ n = n ∧ q = q) ∧ (1 ≤ v ∧ v ≤ 9 → (n < 40 → z = n + 1 ∧ n = n + 1 ∧ q = up q n v) ∧ (¬ n < 40 → z = -3 ∧ n = n ∧ q = q)) ∧ (BD q) := ⟨_, rfl, (by first | exact fun _ => ⟨rfl, rfl, rfl⟩ | exact fun q9 => by omega), (by first | exact fun q9 => by omega | exact fun _ => ⟨fun q8 => by have h9 := hA9 q8; refine ⟨?_, h9.2.1, h9.2.2⟩; omega, fun q8 => by have h9 := hA8 q8; refine ⟨?_, h9.2.1, h9.2.2⟩; omega⟩), hq⟩
    exact z_iret C hr hlocks hW (n, q) rfl hP9 dX10_figure_12
  ·
    refine lv_iload_n C.1 C.2.1 dX10_figure_5 rfl (lv_at hl 1 rfl) ?_
    refine lv_bipush (v := iI 9) C.1 C.2.1 dX10_figure_6 (by decide +kernel) ?_
    refine z_icmp_le (tgt := 13) C dX10_figure_8 (by decide) (by omega) (fun c_8 => ?_) (fun c_8 => ?_)
    ·
      refine lv_aload_n C.1 C.2.1 dX10_figure_13 rfl (lv_at hl 0 rfl) ?_
      refine z_get C hK hW hin10 (v := .ref fh) 0 rfl rfl 6 (by decide) (C.2.2.2.2 (.fieldLink RX10 50 "TellingRows" "figures" "LTellingRows$Sequence;") (List.mem_of_getElem? (i := 1) rfl)) (fun _ h9 => h9) rfl dX10_figure_14 ?_
      refine lv_iload_n C.1 C.2.1 dX10_figure_17 rfl (lv_at hl 1 rfl) ?_
      refine z_call (va_runV (As := [.int (iI v)]) (rest := []) C (c_X6_add l G fh fa 40 n q v (by first | omega | assumption | (intros; first | rfl | omega | assumption | (and_intros <;> first | rfl | omega | assumption))) (by first | omega | assumption | (intros; first | rfl | omega | assumption | (and_intros <;> first | rfl | omega | assumption))) hq hv s9.heap.size) (cwV 1 C.2.2.2.2 gX10_figure_X6_add rfl rfl rfl (by decide +kernel) ⟨Nat.le_of_ble_eq_true rfl, Nat.le_of_ble_eq_true rfl⟩) (z_preV hK hW hA [1, 2] rfl (by decide) (ci := 5) (q0 := 1) rfl rfl) rfl rfl hl.1 rfl (lv_room (Nat.le_of_ble_eq_true rfl)) dX10_figure_18 ⟨Nat.zero_le _, Nat.zero_le _⟩) hW hA [1, 2] rfl (by decide) (fun _ => rfl) (fun r u H locs hp hW => ?_)
      obtain ⟨n2_18, f2_18⟩ := u
      have hp : ∃ z : Int, r = some (.int (iI z)) ∧ ((n < (40 : Int) → z = 1 ∧ n2_18 = n + 1 ∧ f2_18 = up q n v)) ∧ ((¬ n < (40 : Int) → z = 0 ∧ n2_18 = n ∧ f2_18 = q)) ∧ (BD f2_18) := hp
      obtain ⟨z_18, rfl, hz_18_0, hz_18_1, hz_18_2⟩ := hp
      have hW : Wd G A s9.heap [(x, .inr (8, [.ref rg, .ref mk, .ref mh, .ref th, .ref ih, .ref nh, .ref fh, .ref sh, .ref ro, .ref ts])), (fh, .inr (5, [.ref fa, .int (iI n2_18)])), (fa, .inl (G.2.1 0, 40, .inl (iA f2_18)))] H locs := hW
      have hA9 : n < 40 → z_18 = 1 ∧ n2_18 = n + 1 ∧ f2_18 = up q n v := fun q9 => hz_18_0 q9
      have hA8 : ¬ n < 40 → z_18 = 0 ∧ n2_18 = n ∧ f2_18 = q := fun q9 => hz_18_1 q9
      refine z_if_eq (tgt := 34) C dX10_figure_21 (by decide) (by omega) (fun c_21 => ?_) (fun c_21 => ?_)
      ·
        refine lv_bipush (v := iI (-3)) C.1 C.2.1 dX10_figure_34 (by decide +kernel) ?_
        rw [hQ]
        have hP9 : ∃ z : Int, (some (Value.int (iI (-3)))) = some (.int (iI z)) ∧ (¬ (1 ≤ v ∧ v ≤ 9) → z = -1 ∧ n2_18 = n ∧ f2_18 = q) ∧ (1 ≤ v ∧ v ≤ 9 → (n < 40 → z = n + 1 ∧ n2_18 = n + 1 ∧ f2_18 = up q n v) ∧ (¬ n < 40 → z = -3 ∧ n2_18 = n ∧ f2_18 = q)) ∧ (BD f2_18) := ⟨_, rfl, (by first | exact fun _ => ⟨rfl, rfl, rfl⟩ | exact fun q9 => by omega), (by first | exact fun q9 => by omega | exact fun _ => ⟨fun q8 => by have h9 := hA9 q8; refine ⟨?_, h9.2.1, h9.2.2⟩; omega, fun q8 => by have h9 := hA8 q8; refine ⟨?_, h9.2.1, h9.2.2⟩; omega⟩), hz_18_2⟩
        exact z_iret C hr hlocks hW (n2_18, f2_18) rfl hP9 dX10_figure_36
      ·
        refine lv_aload_n C.1 C.2.1 dX10_figure_24 rfl (lv_at hl 0 rfl) ?_
        refine z_get C hK hW hin10 (v := .ref fh) 0 rfl rfl 6 (by decide) (C.2.2.2.2 (.fieldLink RX10 50 "TellingRows" "figures" "LTellingRows$Sequence;") (List.mem_of_getElem? (i := 1) rfl)) (fun _ h9 => h9) rfl dX10_figure_25 ?_
        refine z_callR (va_runV (As := []) (rest := []) C (c_X6_size l G fh fa 40 n2_18 f2_18  H.size) (cwV 0 C.2.2.2.2 gX10_figure_X6_size rfl rfl rfl (by decide +kernel) ⟨Nat.le_of_ble_eq_true rfl, Nat.le_of_ble_eq_true rfl⟩) (z_preV hK hW hA [1, 2] rfl (by decide) (ci := 5) (q0 := 1) rfl rfl) rfl rfl hl.1 rfl (lv_room (Nat.le_of_ble_eq_true rfl)) dX10_figure_28 ⟨Nat.zero_le _, Nat.zero_le _⟩) (fun r hp => ?_)
        have hp : ∃ z : Int, r = some (.int (iI z)) ∧ (z = n2_18) := hp
        obtain ⟨z_28, rfl, hz_28_0⟩ := hp
        refine lv_goto (tgt := 36) C.1 C.2.1 dX10_figure_31 (by decide) ?_
        rw [hQ]
        have hP9 : ∃ z : Int, (some (Value.int (iI z_28))) = some (.int (iI z)) ∧ (¬ (1 ≤ v ∧ v ≤ 9) → z = -1 ∧ n2_18 = n ∧ f2_18 = q) ∧ (1 ≤ v ∧ v ≤ 9 → (n < 40 → z = n + 1 ∧ n2_18 = n + 1 ∧ f2_18 = up q n v) ∧ (¬ n < 40 → z = -3 ∧ n2_18 = n ∧ f2_18 = q)) ∧ (BD f2_18) := ⟨_, rfl, (by first | exact fun _ => ⟨rfl, rfl, rfl⟩ | exact fun q9 => by omega), (by first | exact fun q9 => by omega | exact fun _ => ⟨fun q8 => by have h9 := hA9 q8; refine ⟨?_, h9.2.1, h9.2.2⟩; omega, fun q8 => by have h9 := hA8 q8; refine ⟨?_, h9.2.1, h9.2.2⟩; omega⟩), hz_18_2⟩
        exact z_iret C hr hlocks hW (n2_18, f2_18) rfl hP9 dX10_figure_36
    ·
      refine lv_iconst (v := iI (-1)) C.1 C.2.1 dX10_figure_11 rfl ?_
      rw [hQ]
      have hP9 : ∃ z : Int, (some (Value.int (iI (-1)))) = some (.int (iI z)) ∧ (¬ (1 ≤ v ∧ v ≤ 9) → z = -1 ∧ n = n ∧ q = q) ∧ (1 ≤ v ∧ v ≤ 9 → (n < 40 → z = n + 1 ∧ n = n + 1 ∧ q = up q n v) ∧ (¬ n < 40 → z = -3 ∧ n = n ∧ q = q)) ∧ (BD q) := ⟨_, rfl, (by first | exact fun _ => ⟨rfl, rfl, rfl⟩ | exact fun q9 => by omega), (by first | exact fun q9 => by omega | exact fun _ => ⟨fun q8 => by have h9 := hA9 q8; refine ⟨?_, h9.2.1, h9.2.2⟩; omega, fun q8 => by have h9 := hA8 q8; refine ⟨?_, h9.2.1, h9.2.2⟩; omega⟩), hq⟩
      exact z_iret C hr hlocks hW (n, q) rfl hP9 dX10_figure_12
set_option maxHeartbeats 4000000 in
set_option maxRecDepth 100000 in
/-- X10_wipe -/
theorem c_X10_wipe (l : Launch) (G : GG) (x : Nat) (rg : Nat) (mk : Nat) (mh : Nat) (th : Nat) (ih : Nat) (nh : Nat) (fh : Nat) (sh : Nat) (ro : Nat) (ts : Nat) (ta : Nat) (n : Int) (q : Int → Int) : MQc l yX10_wipe wsX10_wipe 1 G [.ref x] [(x, .inr (8, [.ref rg, .ref mk, .ref mh, .ref th, .ref ih, .ref nh, .ref fh, .ref sh, .ref ro, .ref ts])), (th, .inr (5, [.ref ta, .int (iI n)])), (ta, .inl (G.2.1 0, 120, .inl (iA q)))] (fun r (u : Unit) => ∃ z : Int, r = some (.int (iI z)) ∧ (z = n)) (fun u => [(x, .inr (8, [.ref rg, .ref mk, .ref mh, .ref th, .ref ih, .ref nh, .ref fh, .ref sh, .ref ro, .ref ts])), (th, .inr (5, [.ref ta, .int (iI 0)])), (ta, .inl (G.2.1 0, 120, .inl (iA q)))]) := by
  refine MQc.start (own := RX10) (by decide) rfl rfl (Nat.le_of_ble_eq_true rfl) ?_
  intro p9 e9 s9 m9 args below meth c9 A Q C hK hW hA hr hlocks hQ ls hl
  have hl : lv_has ls 1 [(0, .ref x)] := hl
  have hin6 : ∀ w ∈ wsX60, w ∈ wsX10_wipe := by decide +kernel
  have hin10 : ∀ w ∈ wsX100, w ∈ wsX10_wipe := by decide +kernel
  refine lv_aload_n C.1 C.2.1 dX10_wipe_0 rfl (lv_at hl 0 rfl) ?_
  refine z_get C hK hW hin10 (v := .ref th) 0 rfl rfl 3 (by decide) (C.2.2.2.2 (.fieldLink RX10 36 "TellingRows" "text" "LTellingRows$Sequence;") (List.mem_of_getElem? (i := 1) rfl)) (fun _ h9 => h9) rfl dX10_wipe_1 ?_
  refine z_call (va_runV (As := []) (rest := []) C (c_X6_clear l G th ta 120 n q  s9.heap.size) (cwV 0 C.2.2.2.2 gX10_wipe_X6_clear rfl rfl rfl (by decide +kernel) ⟨Nat.le_of_ble_eq_true rfl, Nat.le_of_ble_eq_true rfl⟩) (z_preV hK hW hA [1, 2] rfl (by decide) (ci := 5) (q0 := 1) rfl rfl) rfl rfl hl.1 rfl (lv_room (Nat.le_of_ble_eq_true rfl)) dX10_wipe_4 ⟨Nat.zero_le _, Nat.zero_le _⟩) hW hA [1, 2] rfl (by decide) (fun _ => rfl) (fun r u H locs hp hW => ?_)
  have hp : ∃ z : Int, r = some (.int (iI z)) ∧ (z = n) := hp
  obtain ⟨z_4, rfl, hz_4_0⟩ := hp
  have hW : Wd G A s9.heap [(x, .inr (8, [.ref rg, .ref mk, .ref mh, .ref th, .ref ih, .ref nh, .ref fh, .ref sh, .ref ro, .ref ts])), (th, .inr (5, [.ref ta, .int (iI 0)])), (ta, .inl (G.2.1 0, 120, .inl (iA q)))] H locs := hW
  rw [hQ]
  have hP9 : ∃ z : Int, (some (Value.int (iI z_4))) = some (.int (iI z)) ∧ (z = n) := ⟨_, rfl, hz_4_0⟩
  exact z_iret C hr hlocks hW () rfl hP9 dX10_wipe_7
set_option maxHeartbeats 4000000 in
set_option maxRecDepth 100000 in
/-- X10_noNumbers -/
theorem c_X10_noNumbers (l : Launch) (G : GG) (x : Nat) (rg : Nat) (mk : Nat) (mh : Nat) (th : Nat) (ih : Nat) (nh : Nat) (fh : Nat) (sh : Nat) (ro : Nat) (ts : Nat) (na : Nat) (n : Int) (q : Int → Int) : MQc l yX10_noNumbers wsX10_noNumbers 1 G [.ref x] [(x, .inr (8, [.ref rg, .ref mk, .ref mh, .ref th, .ref ih, .ref nh, .ref fh, .ref sh, .ref ro, .ref ts])), (nh, .inr (5, [.ref na, .int (iI n)])), (na, .inl (G.2.1 0, 40, .inl (iA q)))] (fun r (u : Unit) => ∃ z : Int, r = some (.int (iI z)) ∧ (z = n)) (fun u => [(x, .inr (8, [.ref rg, .ref mk, .ref mh, .ref th, .ref ih, .ref nh, .ref fh, .ref sh, .ref ro, .ref ts])), (nh, .inr (5, [.ref na, .int (iI 0)])), (na, .inl (G.2.1 0, 40, .inl (iA q)))]) := by
  refine MQc.start (own := RX10) (by decide) rfl rfl (Nat.le_of_ble_eq_true rfl) ?_
  intro p9 e9 s9 m9 args below meth c9 A Q C hK hW hA hr hlocks hQ ls hl
  have hl : lv_has ls 1 [(0, .ref x)] := hl
  have hin6 : ∀ w ∈ wsX60, w ∈ wsX10_noNumbers := by decide +kernel
  have hin10 : ∀ w ∈ wsX100, w ∈ wsX10_noNumbers := by decide +kernel
  refine lv_aload_n C.1 C.2.1 dX10_noNumbers_0 rfl (lv_at hl 0 rfl) ?_
  refine z_get C hK hW hin10 (v := .ref nh) 0 rfl rfl 5 (by decide) (C.2.2.2.2 (.fieldLink RX10 47 "TellingRows" "numbers" "LTellingRows$Sequence;") (List.mem_of_getElem? (i := 1) rfl)) (fun _ h9 => h9) rfl dX10_noNumbers_1 ?_
  refine z_call (va_runV (As := []) (rest := []) C (c_X6_clear l G nh na 40 n q  s9.heap.size) (cwV 0 C.2.2.2.2 gX10_noNumbers_X6_clear rfl rfl rfl (by decide +kernel) ⟨Nat.le_of_ble_eq_true rfl, Nat.le_of_ble_eq_true rfl⟩) (z_preV hK hW hA [1, 2] rfl (by decide) (ci := 5) (q0 := 1) rfl rfl) rfl rfl hl.1 rfl (lv_room (Nat.le_of_ble_eq_true rfl)) dX10_noNumbers_4 ⟨Nat.zero_le _, Nat.zero_le _⟩) hW hA [1, 2] rfl (by decide) (fun _ => rfl) (fun r u H locs hp hW => ?_)
  have hp : ∃ z : Int, r = some (.int (iI z)) ∧ (z = n) := hp
  obtain ⟨z_4, rfl, hz_4_0⟩ := hp
  have hW : Wd G A s9.heap [(x, .inr (8, [.ref rg, .ref mk, .ref mh, .ref th, .ref ih, .ref nh, .ref fh, .ref sh, .ref ro, .ref ts])), (nh, .inr (5, [.ref na, .int (iI 0)])), (na, .inl (G.2.1 0, 40, .inl (iA q)))] H locs := hW
  rw [hQ]
  have hP9 : ∃ z : Int, (some (Value.int (iI z_4))) = some (.int (iI z)) ∧ (z = n) := ⟨_, rfl, hz_4_0⟩
  exact z_iret C hr hlocks hW () rfl hP9 dX10_noNumbers_7
set_option maxHeartbeats 4000000 in
set_option maxRecDepth 100000 in
/-- X10_noFigures -/
theorem c_X10_noFigures (l : Launch) (G : GG) (x : Nat) (rg : Nat) (mk : Nat) (mh : Nat) (th : Nat) (ih : Nat) (nh : Nat) (fh : Nat) (sh : Nat) (ro : Nat) (ts : Nat) (fa : Nat) (n : Int) (q : Int → Int) : MQc l yX10_noFigures wsX10_noFigures 1 G [.ref x] [(x, .inr (8, [.ref rg, .ref mk, .ref mh, .ref th, .ref ih, .ref nh, .ref fh, .ref sh, .ref ro, .ref ts])), (fh, .inr (5, [.ref fa, .int (iI n)])), (fa, .inl (G.2.1 0, 40, .inl (iA q)))] (fun r (u : Unit) => ∃ z : Int, r = some (.int (iI z)) ∧ (z = n)) (fun u => [(x, .inr (8, [.ref rg, .ref mk, .ref mh, .ref th, .ref ih, .ref nh, .ref fh, .ref sh, .ref ro, .ref ts])), (fh, .inr (5, [.ref fa, .int (iI 0)])), (fa, .inl (G.2.1 0, 40, .inl (iA q)))]) := by
  refine MQc.start (own := RX10) (by decide) rfl rfl (Nat.le_of_ble_eq_true rfl) ?_
  intro p9 e9 s9 m9 args below meth c9 A Q C hK hW hA hr hlocks hQ ls hl
  have hl : lv_has ls 1 [(0, .ref x)] := hl
  have hin6 : ∀ w ∈ wsX60, w ∈ wsX10_noFigures := by decide +kernel
  have hin10 : ∀ w ∈ wsX100, w ∈ wsX10_noFigures := by decide +kernel
  refine lv_aload_n C.1 C.2.1 dX10_noFigures_0 rfl (lv_at hl 0 rfl) ?_
  refine z_get C hK hW hin10 (v := .ref fh) 0 rfl rfl 6 (by decide) (C.2.2.2.2 (.fieldLink RX10 50 "TellingRows" "figures" "LTellingRows$Sequence;") (List.mem_of_getElem? (i := 1) rfl)) (fun _ h9 => h9) rfl dX10_noFigures_1 ?_
  refine z_call (va_runV (As := []) (rest := []) C (c_X6_clear l G fh fa 40 n q  s9.heap.size) (cwV 0 C.2.2.2.2 gX10_noFigures_X6_clear rfl rfl rfl (by decide +kernel) ⟨Nat.le_of_ble_eq_true rfl, Nat.le_of_ble_eq_true rfl⟩) (z_preV hK hW hA [1, 2] rfl (by decide) (ci := 5) (q0 := 1) rfl rfl) rfl rfl hl.1 rfl (lv_room (Nat.le_of_ble_eq_true rfl)) dX10_noFigures_4 ⟨Nat.zero_le _, Nat.zero_le _⟩) hW hA [1, 2] rfl (by decide) (fun _ => rfl) (fun r u H locs hp hW => ?_)
  have hp : ∃ z : Int, r = some (.int (iI z)) ∧ (z = n) := hp
  obtain ⟨z_4, rfl, hz_4_0⟩ := hp
  have hW : Wd G A s9.heap [(x, .inr (8, [.ref rg, .ref mk, .ref mh, .ref th, .ref ih, .ref nh, .ref fh, .ref sh, .ref ro, .ref ts])), (fh, .inr (5, [.ref fa, .int (iI 0)])), (fa, .inl (G.2.1 0, 40, .inl (iA q)))] H locs := hW
  rw [hQ]
  have hP9 : ∃ z : Int, (some (Value.int (iI z_4))) = some (.int (iI z)) ∧ (z = n) := ⟨_, rfl, hz_4_0⟩
  exact z_iret C hr hlocks hW () rfl hP9 dX10_noFigures_7
set_option maxHeartbeats 4000000 in
set_option maxRecDepth 100000 in
/-- part, none -/
theorem c_X10_part_no (l : Launch) (G : GG) (i : Int) : MRc l yX10_part wsX10_part 1 G [.null, .int (iI i)] [] (fun r => ∃ z : Int, r = some (.int (iI z)) ∧ (z = -2)) := by
  refine MRc.start (own := RX10) (by decide) rfl rfl (Nat.le_of_ble_eq_true rfl) ?_
  intro p9 e9 s9 m9 args below meth c9 A Q C hK hW hA hr hlocks hQ ls hl
  have hl : lv_has ls 2 [(0, .null), (1, .int (iI i))] := hl
  have hin6 : ∀ w ∈ wsX60, w ∈ wsX10_part := by decide +kernel
  refine lv_aload_nN C.1 C.2.1 dX10_part_0 rfl (lv_at hl 0 rfl) ?_
  refine lv_ifnonnullN C.1 C.2.1 dX10_part_1 ?_
  refine lv_bipush (v := iI (-2)) C.1 C.2.1 dX10_part_4 (by decide +kernel) ?_
  rw [hQ]
  have hP9 : ∃ z : Int, (some (Value.int (iI (-2)))) = some (.int (iI z)) ∧ (z = -2) := ⟨_, rfl, (by first | omega | assumption | (intros; first | rfl | omega | assumption | (and_intros <;> first | rfl | omega | assumption)))⟩
  exact z_iretR C hr hlocks hP9 dX10_part_6
set_option maxHeartbeats 4000000 in
set_option maxRecDepth 100000 in
/-- part -/
theorem c_X10_part (l : Launch) (G : GG) (h : Nat) (a : Nat) (N : Nat) (n : Int) (f : Int → Int) (i : Int) (hN : N ≤ 2147483647) (hn : 0 ≤ n ∧ n ≤ (N : Int)) (hf : BD f) (hi : -2147483648 ≤ i ∧ i ≤ 2147483647) : MRc l yX10_part wsX10_part 1 G [.ref h, .int (iI i)] [(h, .inr (5, [.ref a, .int (iI n)])), (a, .inl (G.2.1 0, N, .inl (iA f)))] (fun r => ∃ z : Int, r = some (.int (iI z)) ∧ (i = -1 → z = n) ∧ (0 ≤ i ∧ i < n → z = f i) ∧ (¬ (i = -1) ∧ ¬ (0 ≤ i ∧ i < n) → z = -4)) := by
  refine MRc.start (own := RX10) (by decide) rfl rfl (Nat.le_of_ble_eq_true rfl) ?_
  intro p9 e9 s9 m9 args below meth c9 A Q C hK hW hA hr hlocks hQ ls hl
  have hl : lv_has ls 2 [(0, .ref h), (1, .int (iI i))] := hl
  have hin6 : ∀ w ∈ wsX60, w ∈ wsX10_part := by decide +kernel
  refine lv_aload_n C.1 C.2.1 dX10_part_0 rfl (lv_at hl 0 rfl) ?_
  refine lv_ifnonnull (tgt := 7) C.1 C.2.1 dX10_part_1 (by decide) ?_
  refine lv_iload_n C.1 C.2.1 dX10_part_7 rfl (lv_at hl 1 rfl) ?_
  refine lv_iconst (v := iI (-1)) C.1 C.2.1 dX10_part_8 rfl ?_
  refine z_icmp_ne (tgt := 19) C dX10_part_9 (by decide) (by omega) (fun c_9 => ?_) (fun c_9 => ?_)
  ·
    refine lv_aload_n C.1 C.2.1 dX10_part_19 rfl (lv_at hl 0 rfl) ?_
    refine lv_iload_n C.1 C.2.1 dX10_part_20 rfl (lv_at hl 1 rfl) ?_
    refine z_callR (va_runV (As := [.int (iI i)]) (rest := []) C (c_X6_get l G h a N n f i hN hn hf hi s9.heap.size) (cwV 1 C.2.2.2.2 gX10_part_X6_get rfl rfl rfl (by decide +kernel) ⟨Nat.le_of_ble_eq_true rfl, Nat.le_of_ble_eq_true rfl⟩) (z_preV hK hW hA [0, 1] rfl (by decide) (ci := 5) (q0 := 0) rfl rfl) rfl rfl hl.1 rfl (lv_room (Nat.le_of_ble_eq_true rfl)) dX10_part_21 ⟨Nat.zero_le _, Nat.zero_le _⟩) (fun r hp => ?_)
    have hp : ∃ z : Int, r = some (.int (iI z)) ∧ ((0 ≤ i ∧ i < n → z = f i)) ∧ ((¬ (0 ≤ i ∧ i < n) → z = -4)) ∧ (-2147483648 ≤ z ∧ z ≤ 2147483647) := hp
    obtain ⟨z_21, rfl, hz_21_0, hz_21_1, hz_21_2⟩ := hp
    rw [hQ]
    have hP9 : ∃ z : Int, (some (Value.int (iI z_21))) = some (.int (iI z)) ∧ (i = -1 → z = n) ∧ (0 ≤ i ∧ i < n → z = f i) ∧ (¬ (i = -1) ∧ ¬ (0 ≤ i ∧ i < n) → z = -4) := ⟨_, rfl, (by first | omega | assumption | (intros; first | rfl | omega | assumption | (and_intros <;> first | rfl | omega | assumption))), (fun q9 => by first | omega | exact hz_21_0 q9), (fun q9 => by first | omega | exact hz_21_1 q9.2)⟩
    exact z_iretR C hr hlocks hP9 dX10_part_24
  ·
    refine lv_aload_n C.1 C.2.1 dX10_part_12 rfl (lv_at hl 0 rfl) ?_
    refine z_callR (va_runV (As := []) (rest := []) C (c_X6_size l G h a N n f  s9.heap.size) (cwV 0 C.2.2.2.2 gX10_part_X6_size rfl rfl rfl (by decide +kernel) ⟨Nat.le_of_ble_eq_true rfl, Nat.le_of_ble_eq_true rfl⟩) (z_preV hK hW hA [0, 1] rfl (by decide) (ci := 5) (q0 := 0) rfl rfl) rfl rfl hl.1 rfl (lv_room (Nat.le_of_ble_eq_true rfl)) dX10_part_13 ⟨Nat.zero_le _, Nat.zero_le _⟩) (fun r hp => ?_)
    have hp : ∃ z : Int, r = some (.int (iI z)) ∧ (z = n) := hp
    obtain ⟨z_13, rfl, hz_13_0⟩ := hp
    refine lv_goto (tgt := 24) C.1 C.2.1 dX10_part_16 (by decide) ?_
    rw [hQ]
    have hP9 : ∃ z : Int, (some (Value.int (iI z_13))) = some (.int (iI z)) ∧ (i = -1 → z = n) ∧ (0 ≤ i ∧ i < n → z = f i) ∧ (¬ (i = -1) ∧ ¬ (0 ≤ i ∧ i < n) → z = -4) := ⟨_, rfl, (by first | omega | assumption | (intros; first | rfl | omega | assumption | (and_intros <;> first | rfl | omega | assumption))), (fun q9 => by first | omega | exact hz_21_0 q9), (fun q9 => by first | omega | exact hz_21_1 q9.2)⟩
    exact z_iretR C hr hlocks hP9 dX10_part_24
set_option maxHeartbeats 4000000 in
set_option maxRecDepth 100000 in
/-- said -/
theorem c_X10_said (l : Launch) (G : GG) (x : Nat) (rg : Nat) (mk : Nat) (mh : Nat) (th : Nat) (ih : Nat) (nh : Nat) (fh : Nat) (sh : Nat) (ro : Nat) (ts : Nat) (o : Nat) (oa : Nat) (p : Nat) (pa : Nat) (fa : Nat) (n1 : Int) (f1 : Int → Int) (n2 : Int) (f2 : Int → Int) (n : Int) (f : Int → Int) (b : Int) (k : Int) (i : Int) (hn : 0 ≤ n ∧ n ≤ 40) (hf : BD f) (hf1 : BD f1) (hf2 : BD f2) (hn1 : 0 ≤ n1 ∧ n1 ≤ 5000) (hn2 : 0 ≤ n2 ∧ n2 ≤ 5000) (hb : -2147483648 ≤ b ∧ b ≤ 2147483647) (hk : -2147483648 ≤ k ∧ k ≤ 2147483647) (hi : -2147483648 ≤ i ∧ i ≤ 2147483647) : MQc l yX10_said wsX10_said 3 G [.ref x, .int (iI b), .int (iI k), .int (iI i)] [(x, .inr (8, [.ref rg, .ref mk, .ref mh, .ref th, .ref ih, .ref nh, .ref fh, .ref sh, .ref ro, .ref ts])), (sh, .inr (6, [.ref o, .ref p])), (o, .inr (5, [.ref oa, .int (iI n1)])), (oa, .inl (G.2.1 0, 5000, .inl (iA f1))), (p, .inr (5, [.ref pa, .int (iI n2)])), (pa, .inl (G.2.1 0, 5000, .inl (iA f2))), (fh, .inr (5, [.ref fa, .int (iI n)])), (fa, .inl (G.2.1 0, 40, .inl (iA f)))] (fun r (u : Int × (Int → Int) × Int × (Int → Int)) => ∃ z : Int, r = some (.int (iI z)) ∧ ((0 ≤ k ∧ k ≤ 12) ∧ -1 ≤ i → SaidQ b f n k i z) ∧ (¬ ((0 ≤ k ∧ k ≤ 12) ∧ -1 ≤ i) → z = -1) ∧ (BD u.2.1) ∧ (BD u.2.2.2) ∧ (0 ≤ u.1 ∧ u.1 ≤ 5000) ∧ (0 ≤ u.2.2.1 ∧ u.2.2.1 ≤ 5000)) (fun u => [(x, .inr (8, [.ref rg, .ref mk, .ref mh, .ref th, .ref ih, .ref nh, .ref fh, .ref sh, .ref ro, .ref ts])), (sh, .inr (6, [.ref o, .ref p])), (o, .inr (5, [.ref oa, .int (iI u.1)])), (oa, .inl (G.2.1 0, 5000, .inl (iA u.2.1))), (p, .inr (5, [.ref pa, .int (iI u.2.2.1)])), (pa, .inl (G.2.1 0, 5000, .inl (iA u.2.2.2))), (fh, .inr (5, [.ref fa, .int (iI n)])), (fa, .inl (G.2.1 0, 40, .inl (iA f)))]) := by
  refine MQc.start (own := RX10) (by decide) rfl rfl (Nat.le_of_ble_eq_true rfl) ?_
  intro p9 e9 s9 m9 args below meth c9 A Q C hK hW hA hr hlocks hQ ls hl
  have hl : lv_has ls 4 [(0, .ref x), (1, .int (iI b)), (2, .int (iI k)), (3, .int (iI i))] := hl
  have hin6 : ∀ w ∈ wsX60, w ∈ wsX10_said := by decide +kernel
  have hin8 : ∀ w ∈ wsX80, w ∈ wsX10_said := by decide +kernel
  have hin10 : ∀ w ∈ wsX100, w ∈ wsX10_said := by decide +kernel
  refine lv_iload_n C.1 C.2.1 dX10_said_0 rfl (lv_at hl 2 rfl) ?_
  refine z_if_lt (tgt := 15) C dX10_said_1 (by decide) (by omega) (fun c_1 => ?_) (fun c_1 => ?_)
  ·
    refine lv_iconst (v := iI (-1)) C.1 C.2.1 dX10_said_15 rfl ?_
    rw [hQ]
    have hP9 : ∃ z : Int, (some (Value.int (iI (-1)))) = some (.int (iI z)) ∧ ((0 ≤ k ∧ k ≤ 12) ∧ -1 ≤ i → SaidQ b f n k i z) ∧ (¬ ((0 ≤ k ∧ k ≤ 12) ∧ -1 ≤ i) → z = -1) ∧ (BD f1) ∧ (BD f2) ∧ (0 ≤ n1 ∧ n1 ≤ 5000) ∧ (0 ≤ n2 ∧ n2 ≤ 5000) := ⟨_, rfl, (fun q9 => by omega), (by first | omega | assumption | (intros; first | rfl | omega | assumption | (and_intros <;> first | rfl | omega | assumption))), hf1, hf2, hn1, hn2⟩
    exact z_iret C hr hlocks hW (n1, f1, n2, f2) rfl hP9 dX10_said_16
  ·
    refine lv_iload_n C.1 C.2.1 dX10_said_4 rfl (lv_at hl 2 rfl) ?_
    refine lv_bipush (v := iI 12) C.1 C.2.1 dX10_said_5 (by decide +kernel) ?_
    refine z_icmp_gt (tgt := 15) C dX10_said_7 (by decide) (by omega) (fun c_7 => ?_) (fun c_7 => ?_)
    ·
      refine lv_iconst (v := iI (-1)) C.1 C.2.1 dX10_said_15 rfl ?_
      rw [hQ]
      have hP9 : ∃ z : Int, (some (Value.int (iI (-1)))) = some (.int (iI z)) ∧ ((0 ≤ k ∧ k ≤ 12) ∧ -1 ≤ i → SaidQ b f n k i z) ∧ (¬ ((0 ≤ k ∧ k ≤ 12) ∧ -1 ≤ i) → z = -1) ∧ (BD f1) ∧ (BD f2) ∧ (0 ≤ n1 ∧ n1 ≤ 5000) ∧ (0 ≤ n2 ∧ n2 ≤ 5000) := ⟨_, rfl, (fun q9 => by omega), (by first | omega | assumption | (intros; first | rfl | omega | assumption | (and_intros <;> first | rfl | omega | assumption))), hf1, hf2, hn1, hn2⟩
      exact z_iret C hr hlocks hW (n1, f1, n2, f2) rfl hP9 dX10_said_16
    ·
      refine lv_iload_n C.1 C.2.1 dX10_said_10 rfl (lv_at hl 3 rfl) ?_
      refine lv_iconst (v := iI (-1)) C.1 C.2.1 dX10_said_11 rfl ?_
      refine z_icmp_ge (tgt := 17) C dX10_said_12 (by decide) (by omega) (fun c_12 => ?_) (fun c_12 => ?_)
      ·
        refine lv_aload_n C.1 C.2.1 dX10_said_17 rfl (lv_at hl 0 rfl) ?_
        refine z_get C hK hW hin10 (v := .ref sh) 0 rfl rfl 7 (by decide) (C.2.2.2.2 (.fieldLink RX10 56 "TellingRows" "speaker" "LTellingRows$Speaker;") (List.mem_of_getElem? (i := 1) rfl)) (fun _ h9 => h9) rfl dX10_said_18 ?_
        refine lv_aload_n C.1 C.2.1 dX10_said_21 rfl (lv_at hl 0 rfl) ?_
        refine z_get C hK hW hin10 (v := .ref fh) 0 rfl rfl 6 (by decide) (C.2.2.2.2 (.fieldLink RX10 50 "TellingRows" "figures" "LTellingRows$Sequence;") (List.mem_of_getElem? (i := 2) rfl)) (fun _ h9 => h9) rfl dX10_said_22 ?_
        refine lv_iload_n C.1 C.2.1 dX10_said_25 rfl (lv_at hl 1 rfl) ?_
        refine lv_iload_n C.1 C.2.1 dX10_said_26 rfl (lv_at hl 2 rfl) ?_
        refine z_call (va_runV (As := [.ref fh, .int (iI b), .int (iI k)]) (rest := []) C (c_X8_speak l G sh o oa p pa n1 f1 n2 f2 fh fa n f b k hn hf hf1 hf2 hn1 hn2 hb (by first | omega | assumption | (intros; first | rfl | omega | assumption | (and_intros <;> first | rfl | omega | assumption))) s9.heap.size) (cwV 3 C.2.2.2.2 gX10_said_X8_speak rfl rfl rfl (by decide +kernel) ⟨Nat.le_of_ble_eq_true rfl, Nat.le_of_ble_eq_true rfl⟩) (z_preV hK hW hA [1, 2, 3, 4, 5, 6, 7] rfl (by decide) (ci := 6) (q0 := 1) rfl rfl) rfl rfl hl.1 rfl (lv_room (Nat.le_of_ble_eq_true rfl)) dX10_said_27 ⟨Nat.zero_le _, Nat.zero_le _⟩) hW hA [1, 2, 3, 4, 5, 6, 7] rfl (by decide) (fun _ => rfl) (fun r u H locs hp hW => ?_)
        obtain ⟨m1_27, g1_27, m2_27, g2_27⟩ := u
        have hW : Wd G A s9.heap [(x, .inr (8, [.ref rg, .ref mk, .ref mh, .ref th, .ref ih, .ref nh, .ref fh, .ref sh, .ref ro, .ref ts])), (sh, .inr (6, [.ref o, .ref p])), (o, .inr (5, [.ref oa, .int (iI m1_27)])), (oa, .inl (G.2.1 0, 5000, .inl (iA g1_27))), (p, .inr (5, [.ref pa, .int (iI m2_27)])), (pa, .inl (G.2.1 0, 5000, .inl (iA g2_27))), (fh, .inr (5, [.ref fa, .int (iI n)])), (fa, .inl (G.2.1 0, 40, .inl (iA f)))] H locs := hW
        have hp : ((r = some .null ∧ ItB b f n k.toNat) ∨ (r = some (.ref o) ∧ It b f n k.toNat g1_27 m1_27) ∨ (r = some (.ref p) ∧ It b f n k.toNat g2_27 m2_27)) ∧ (BD g1_27) ∧ (BD g2_27) ∧ (0 ≤ m1_27 ∧ m1_27 ≤ 5000) ∧ (0 ≤ m2_27 ∧ m2_27 ≤ 5000) := hp
        obtain ⟨hq_27, hz_27_1, hz_27_2, hz_27_3, hz_27_4⟩ := hp
        rcases hq_27 with ⟨rfl, hd_27⟩ | ⟨rfl, hd_27⟩ | ⟨rfl, hd_27⟩
        ·
          refine lv_iload_n C.1 C.2.1 dX10_said_30 rfl (lv_at hl 3 rfl) ?_
          refine z_callR (va_runS (As := [.null, .int (iI i)]) (rest := []) C (c_X10_part_no l G i  H.size) (va_cwS 2 C.2.2.2.2 gX10_said_X10_part rfl rfl rfl (by decide +kernel) ⟨Nat.le_of_ble_eq_true rfl, Nat.le_of_ble_eq_true rfl⟩) (z_preS hK hW hA [] rfl (by decide)) rfl rfl hl.1 rfl (lv_room (Nat.le_of_ble_eq_true rfl)) dX10_said_31 ⟨Nat.zero_le _, Nat.zero_le _⟩) (fun r hp => ?_)
          have hp : ∃ z : Int, r = some (.int (iI z)) ∧ (z = -2) := hp
          obtain ⟨z_31, rfl, hz_31_0⟩ := hp
          rw [hQ]
          have hP9 : ∃ z : Int, (some (Value.int (iI z_31))) = some (.int (iI z)) ∧ ((0 ≤ k ∧ k ≤ 12) ∧ -1 ≤ i → SaidQ b f n k i z) ∧ (¬ ((0 ≤ k ∧ k ≤ 12) ∧ -1 ≤ i) → z = -1) ∧ (BD g1_27) ∧ (BD g2_27) ∧ (0 ≤ m1_27 ∧ m1_27 ≤ 5000) ∧ (0 ≤ m2_27 ∧ m2_27 ≤ 5000) := ⟨_, rfl, (fun _ => by first | exact Or.inl ⟨hd_27, hz_31_0⟩ | exact Or.inr ⟨_, _, hd_27, hz_31_0, hz_31_1, fun q8 q9 => hz_31_2 (by omega)⟩), (fun q9 => by omega), hz_27_1, hz_27_2, hz_27_3, hz_27_4⟩
          exact z_iret C hr hlocks hW (m1_27, g1_27, m2_27, g2_27) rfl hP9 dX10_said_34
        ·
          refine lv_iload_n C.1 C.2.1 dX10_said_30 rfl (lv_at hl 3 rfl) ?_
          refine z_callR (va_runS (As := [.ref o, .int (iI i)]) (rest := []) C (c_X10_part l G o oa 5000 m1_27 g1_27 i (by first | omega | assumption | (intros; first | rfl | omega | assumption | (and_intros <;> first | rfl | omega | assumption))) (by first | omega | assumption | (intros; first | rfl | omega | assumption | (and_intros <;> first | rfl | omega | assumption))) hz_27_1 hi H.size) (va_cwS 2 C.2.2.2.2 gX10_said_X10_part rfl rfl rfl (by decide +kernel) ⟨Nat.le_of_ble_eq_true rfl, Nat.le_of_ble_eq_true rfl⟩) (z_preS hK hW hA [2, 3] rfl (by decide)) rfl rfl hl.1 rfl (lv_room (Nat.le_of_ble_eq_true rfl)) dX10_said_31 ⟨Nat.zero_le _, Nat.zero_le _⟩) (fun r hp => ?_)
          have hp : ∃ z : Int, r = some (.int (iI z)) ∧ (i = -1 → z = m1_27) ∧ (0 ≤ i ∧ i < m1_27 → z = g1_27 i) ∧ (¬ (i = -1) ∧ ¬ (0 ≤ i ∧ i < m1_27) → z = -4) := hp
          obtain ⟨z_31, rfl, hz_31_0, hz_31_1, hz_31_2⟩ := hp
          rw [hQ]
          have hP9 : ∃ z : Int, (some (Value.int (iI z_31))) = some (.int (iI z)) ∧ ((0 ≤ k ∧ k ≤ 12) ∧ -1 ≤ i → SaidQ b f n k i z) ∧ (¬ ((0 ≤ k ∧ k ≤ 12) ∧ -1 ≤ i) → z = -1) ∧ (BD g1_27) ∧ (BD g2_27) ∧ (0 ≤ m1_27 ∧ m1_27 ≤ 5000) ∧ (0 ≤ m2_27 ∧ m2_27 ≤ 5000) := ⟨_, rfl, (fun _ => by first | exact Or.inl ⟨hd_27, hz_31_0⟩ | exact Or.inr ⟨_, _, hd_27, hz_31_0, hz_31_1, fun q8 q9 => hz_31_2 (by omega)⟩), (fun q9 => by omega), hz_27_1, hz_27_2, hz_27_3, hz_27_4⟩
          exact z_iret C hr hlocks hW (m1_27, g1_27, m2_27, g2_27) rfl hP9 dX10_said_34
        ·
          refine lv_iload_n C.1 C.2.1 dX10_said_30 rfl (lv_at hl 3 rfl) ?_
          refine z_callR (va_runS (As := [.ref p, .int (iI i)]) (rest := []) C (c_X10_part l G p pa 5000 m2_27 g2_27 i (by first | omega | assumption | (intros; first | rfl | omega | assumption | (and_intros <;> first | rfl | omega | assumption))) (by first | omega | assumption | (intros; first | rfl | omega | assumption | (and_intros <;> first | rfl | omega | assumption))) hz_27_2 hi H.size) (va_cwS 2 C.2.2.2.2 gX10_said_X10_part rfl rfl rfl (by decide +kernel) ⟨Nat.le_of_ble_eq_true rfl, Nat.le_of_ble_eq_true rfl⟩) (z_preS hK hW hA [4, 5] rfl (by decide)) rfl rfl hl.1 rfl (lv_room (Nat.le_of_ble_eq_true rfl)) dX10_said_31 ⟨Nat.zero_le _, Nat.zero_le _⟩) (fun r hp => ?_)
          have hp : ∃ z : Int, r = some (.int (iI z)) ∧ (i = -1 → z = m2_27) ∧ (0 ≤ i ∧ i < m2_27 → z = g2_27 i) ∧ (¬ (i = -1) ∧ ¬ (0 ≤ i ∧ i < m2_27) → z = -4) := hp
          obtain ⟨z_31, rfl, hz_31_0, hz_31_1, hz_31_2⟩ := hp
          rw [hQ]
          have hP9 : ∃ z : Int, (some (Value.int (iI z_31))) = some (.int (iI z)) ∧ ((0 ≤ k ∧ k ≤ 12) ∧ -1 ≤ i → SaidQ b f n k i z) ∧ (¬ ((0 ≤ k ∧ k ≤ 12) ∧ -1 ≤ i) → z = -1) ∧ (BD g1_27) ∧ (BD g2_27) ∧ (0 ≤ m1_27 ∧ m1_27 ≤ 5000) ∧ (0 ≤ m2_27 ∧ m2_27 ≤ 5000) := ⟨_, rfl, (fun _ => by first | exact Or.inl ⟨hd_27, hz_31_0⟩ | exact Or.inr ⟨_, _, hd_27, hz_31_0, hz_31_1, fun q8 q9 => hz_31_2 (by omega)⟩), (fun q9 => by omega), hz_27_1, hz_27_2, hz_27_3, hz_27_4⟩
          exact z_iret C hr hlocks hW (m1_27, g1_27, m2_27, g2_27) rfl hP9 dX10_said_34
      ·
        refine lv_iconst (v := iI (-1)) C.1 C.2.1 dX10_said_15 rfl ?_
        rw [hQ]
        have hP9 : ∃ z : Int, (some (Value.int (iI (-1)))) = some (.int (iI z)) ∧ ((0 ≤ k ∧ k ≤ 12) ∧ -1 ≤ i → SaidQ b f n k i z) ∧ (¬ ((0 ≤ k ∧ k ≤ 12) ∧ -1 ≤ i) → z = -1) ∧ (BD f1) ∧ (BD f2) ∧ (0 ≤ n1 ∧ n1 ≤ 5000) ∧ (0 ≤ n2 ∧ n2 ≤ 5000) := ⟨_, rfl, (fun q9 => by omega), (by first | omega | assumption | (intros; first | rfl | omega | assumption | (and_intros <;> first | rfl | omega | assumption))), hf1, hf2, hn1, hn2⟩
        exact z_iret C hr hlocks hW (n1, f1, n2, f2) rfl hP9 dX10_said_16
set_option maxHeartbeats 4000000 in
set_option maxRecDepth 100000 in
/-- unsaid -/
theorem c_X10_unsaid (l : Launch) (G : GG) (x : Nat) (rg : Nat) (mk : Nat) (mh : Nat) (th : Nat) (ih : Nat) (nh : Nat) (fh : Nat) (sh : Nat) (ro : Nat) (ts : Nat) (o : Nat) (oa : Nat) (p : Nat) (pa : Nat) (fa : Nat) (n1 : Int) (f1 : Int → Int) (n2 : Int) (f2 : Int → Int) (n : Int) (f : Int → Int) (i : Int) (hn : 0 ≤ n ∧ n ≤ 40) (hf : BD f) (hf1 : BD f1) (hf2 : BD f2) (hn1 : 0 ≤ n1 ∧ n1 ≤ 5000) (hn2 : 0 ≤ n2 ∧ n2 ≤ 5000) (hi : -2147483648 ≤ i ∧ i ≤ 2147483647) (hF : FIG f n) : MQc l yX10_unsaid wsX10_unsaid 3 G [.ref x, .int (iI i)] [(x, .inr (8, [.ref rg, .ref mk, .ref mh, .ref th, .ref ih, .ref nh, .ref fh, .ref sh, .ref ro, .ref ts])), (sh, .inr (6, [.ref o, .ref p])), (o, .inr (5, [.ref oa, .int (iI n1)])), (oa, .inl (G.2.1 0, 5000, .inl (iA f1))), (p, .inr (5, [.ref pa, .int (iI n2)])), (pa, .inl (G.2.1 0, 5000, .inl (iA f2))), (fh, .inr (5, [.ref fa, .int (iI n)])), (fa, .inl (G.2.1 0, 40, .inl (iA f)))] (fun r (u : Int × (Int → Int)) => ∃ z : Int, r = some (.int (iI z)) ∧ (-1 ≤ i → UnsaidQ f n i z) ∧ (¬ (-1 ≤ i) → z = -1) ∧ (BD u.2) ∧ (0 ≤ u.1 ∧ u.1 ≤ 5000)) (fun u => [(x, .inr (8, [.ref rg, .ref mk, .ref mh, .ref th, .ref ih, .ref nh, .ref fh, .ref sh, .ref ro, .ref ts])), (sh, .inr (6, [.ref o, .ref p])), (o, .inr (5, [.ref oa, .int (iI u.1)])), (oa, .inl (G.2.1 0, 5000, .inl (iA u.2))), (p, .inr (5, [.ref pa, .int (iI n2)])), (pa, .inl (G.2.1 0, 5000, .inl (iA f2))), (fh, .inr (5, [.ref fa, .int (iI n)])), (fa, .inl (G.2.1 0, 40, .inl (iA f)))]) := by
  refine MQc.start (own := RX10) (by decide) rfl rfl (Nat.le_of_ble_eq_true rfl) ?_
  intro p9 e9 s9 m9 args below meth c9 A Q C hK hW hA hr hlocks hQ ls hl
  have hl : lv_has ls 2 [(0, .ref x), (1, .int (iI i))] := hl
  have hin6 : ∀ w ∈ wsX60, w ∈ wsX10_unsaid := by decide +kernel
  have hin8 : ∀ w ∈ wsX80, w ∈ wsX10_unsaid := by decide +kernel
  have hin10 : ∀ w ∈ wsX100, w ∈ wsX10_unsaid := by decide +kernel
  refine lv_iload_n C.1 C.2.1 dX10_unsaid_0 rfl (lv_at hl 1 rfl) ?_
  refine lv_iconst (v := iI (-1)) C.1 C.2.1 dX10_unsaid_1 rfl ?_
  refine z_icmp_ge (tgt := 7) C dX10_unsaid_2 (by decide) (by omega) (fun c_2 => ?_) (fun c_2 => ?_)
  ·
    refine lv_aload_n C.1 C.2.1 dX10_unsaid_7 rfl (lv_at hl 0 rfl) ?_
    refine z_get C hK hW hin10 (v := .ref sh) 0 rfl rfl 7 (by decide) (C.2.2.2.2 (.fieldLink RX10 56 "TellingRows" "speaker" "LTellingRows$Speaker;") (List.mem_of_getElem? (i := 1) rfl)) (fun _ h9 => h9) rfl dX10_unsaid_8 ?_
    refine lv_aload_n C.1 C.2.1 dX10_unsaid_11 rfl (lv_at hl 0 rfl) ?_
    refine z_get C hK hW hin10 (v := .ref fh) 0 rfl rfl 6 (by decide) (C.2.2.2.2 (.fieldLink RX10 50 "TellingRows" "figures" "LTellingRows$Sequence;") (List.mem_of_getElem? (i := 2) rfl)) (fun _ h9 => h9) rfl dX10_unsaid_12 ?_
    refine z_call (va_runV (As := [.ref fh]) (rest := []) C (c_X8_takeBack l G sh o oa p pa n1 f1 n2 f2 fh fa n f hn hf hf1 hf2 hn1 hn2 hF s9.heap.size) (cwV 1 C.2.2.2.2 gX10_unsaid_X8_takeBack rfl rfl rfl (by decide +kernel) ⟨Nat.le_of_ble_eq_true rfl, Nat.le_of_ble_eq_true rfl⟩) (z_preV hK hW hA [1, 2, 3, 4, 5, 6, 7] rfl (by decide) (ci := 6) (q0 := 1) rfl rfl) rfl rfl hl.1 rfl (lv_room (Nat.le_of_ble_eq_true rfl)) dX10_unsaid_15 ⟨Nat.zero_le _, Nat.zero_le _⟩) hW hA [1, 2, 3, 4, 5, 6, 7] rfl (by decide) (fun _ => rfl) (fun r u H locs hp hW => ?_)
    obtain ⟨m1_15, g1_15⟩ := u
    have hW : Wd G A s9.heap [(x, .inr (8, [.ref rg, .ref mk, .ref mh, .ref th, .ref ih, .ref nh, .ref fh, .ref sh, .ref ro, .ref ts])), (sh, .inr (6, [.ref o, .ref p])), (o, .inr (5, [.ref oa, .int (iI m1_15)])), (oa, .inl (G.2.1 0, 5000, .inl (iA g1_15))), (p, .inr (5, [.ref pa, .int (iI n2)])), (pa, .inl (G.2.1 0, 5000, .inl (iA f2))), (fh, .inr (5, [.ref fa, .int (iI n)])), (fa, .inl (G.2.1 0, 40, .inl (iA f)))] H locs := hW
    have hp : ((r = some .null ∧ UnB f n) ∨ (r = some (.ref o) ∧ UnR f n g1_15 m1_15)) ∧ (BD g1_15) ∧ (0 ≤ m1_15 ∧ m1_15 ≤ 5000) := hp
    obtain ⟨hq_15, hz_15_1, hz_15_2⟩ := hp
    rcases hq_15 with ⟨rfl, hd_15⟩ | ⟨rfl, hd_15⟩
    ·
      refine lv_iload_n C.1 C.2.1 dX10_unsaid_18 rfl (lv_at hl 1 rfl) ?_
      refine z_callR (va_runS (As := [.null, .int (iI i)]) (rest := []) C (c_X10_part_no l G i  H.size) (va_cwS 2 C.2.2.2.2 gX10_unsaid_X10_part rfl rfl rfl (by decide +kernel) ⟨Nat.le_of_ble_eq_true rfl, Nat.le_of_ble_eq_true rfl⟩) (z_preS hK hW hA [] rfl (by decide)) rfl rfl hl.1 rfl (lv_room (Nat.le_of_ble_eq_true rfl)) dX10_unsaid_19 ⟨Nat.zero_le _, Nat.zero_le _⟩) (fun r hp => ?_)
      have hp : ∃ z : Int, r = some (.int (iI z)) ∧ (z = -2) := hp
      obtain ⟨z_19, rfl, hz_19_0⟩ := hp
      rw [hQ]
      have hP9 : ∃ z : Int, (some (Value.int (iI z_19))) = some (.int (iI z)) ∧ (-1 ≤ i → UnsaidQ f n i z) ∧ (¬ (-1 ≤ i) → z = -1) ∧ (BD g1_15) ∧ (0 ≤ m1_15 ∧ m1_15 ≤ 5000) := ⟨_, rfl, (fun _ => by first | exact Or.inl ⟨hd_15, hz_19_0⟩ | exact Or.inr ⟨_, _, hd_15, hz_19_0, hz_19_1, fun q8 q9 => hz_19_2 (by omega)⟩), (fun q9 => by omega), hz_15_1, hz_15_2⟩
      exact z_iret C hr hlocks hW (m1_15, g1_15) rfl hP9 dX10_unsaid_22
    ·
      refine lv_iload_n C.1 C.2.1 dX10_unsaid_18 rfl (lv_at hl 1 rfl) ?_
      refine z_callR (va_runS (As := [.ref o, .int (iI i)]) (rest := []) C (c_X10_part l G o oa 5000 m1_15 g1_15 i (by first | omega | assumption | (intros; first | rfl | omega | assumption | (and_intros <;> first | rfl | omega | assumption))) (by first | omega | assumption | (intros; first | rfl | omega | assumption | (and_intros <;> first | rfl | omega | assumption))) hz_15_1 hi H.size) (va_cwS 2 C.2.2.2.2 gX10_unsaid_X10_part rfl rfl rfl (by decide +kernel) ⟨Nat.le_of_ble_eq_true rfl, Nat.le_of_ble_eq_true rfl⟩) (z_preS hK hW hA [2, 3] rfl (by decide)) rfl rfl hl.1 rfl (lv_room (Nat.le_of_ble_eq_true rfl)) dX10_unsaid_19 ⟨Nat.zero_le _, Nat.zero_le _⟩) (fun r hp => ?_)
      have hp : ∃ z : Int, r = some (.int (iI z)) ∧ (i = -1 → z = m1_15) ∧ (0 ≤ i ∧ i < m1_15 → z = g1_15 i) ∧ (¬ (i = -1) ∧ ¬ (0 ≤ i ∧ i < m1_15) → z = -4) := hp
      obtain ⟨z_19, rfl, hz_19_0, hz_19_1, hz_19_2⟩ := hp
      rw [hQ]
      have hP9 : ∃ z : Int, (some (Value.int (iI z_19))) = some (.int (iI z)) ∧ (-1 ≤ i → UnsaidQ f n i z) ∧ (¬ (-1 ≤ i) → z = -1) ∧ (BD g1_15) ∧ (0 ≤ m1_15 ∧ m1_15 ≤ 5000) := ⟨_, rfl, (fun _ => by first | exact Or.inl ⟨hd_15, hz_19_0⟩ | exact Or.inr ⟨_, _, hd_15, hz_19_0, hz_19_1, fun q8 q9 => hz_19_2 (by omega)⟩), (fun q9 => by omega), hz_15_1, hz_15_2⟩
      exact z_iret C hr hlocks hW (m1_15, g1_15) rfl hP9 dX10_unsaid_22
  ·
    refine lv_iconst (v := iI (-1)) C.1 C.2.1 dX10_unsaid_5 rfl ?_
    rw [hQ]
    have hP9 : ∃ z : Int, (some (Value.int (iI (-1)))) = some (.int (iI z)) ∧ (-1 ≤ i → UnsaidQ f n i z) ∧ (¬ (-1 ≤ i) → z = -1) ∧ (BD f1) ∧ (0 ≤ n1 ∧ n1 ≤ 5000) := ⟨_, rfl, (fun q9 => by omega), (by first | omega | assumption | (intros; first | rfl | omega | assumption | (and_intros <;> first | rfl | omega | assumption))), hf1, hn1⟩
    exact z_iret C hr hlocks hW (n1, f1) rfl hP9 dX10_unsaid_6
set_option maxHeartbeats 4000000 in
set_option maxRecDepth 100000 in
/-- backs -/
theorem c_X10_backs (l : Launch) (G : GG) (x : Nat) (rg : Nat) (mk : Nat) (mh : Nat) (th : Nat) (ih : Nat) (nh : Nat) (fh : Nat) (sh : Nat) (ro : Nat) (ts : Nat) (o : Nat) (oa : Nat) (p : Nat) (pa : Nat) (fa : Nat) (n1 : Int) (f1 : Int → Int) (n2 : Int) (f2 : Int → Int) (n : Int) (f : Int → Int) (hn : 0 ≤ n ∧ n ≤ 40) (hf : BD f) (hf1 : BD f1) (hf2 : BD f2) (hn1 : 0 ≤ n1 ∧ n1 ≤ 5000) (hn2 : 0 ≤ n2 ∧ n2 ≤ 5000) (hF : FIG f n) : MQc l yX10_backs wsX10_backs 3 G [.ref x] [(x, .inr (8, [.ref rg, .ref mk, .ref mh, .ref th, .ref ih, .ref nh, .ref fh, .ref sh, .ref ro, .ref ts])), (sh, .inr (6, [.ref o, .ref p])), (o, .inr (5, [.ref oa, .int (iI n1)])), (oa, .inl (G.2.1 0, 5000, .inl (iA f1))), (p, .inr (5, [.ref pa, .int (iI n2)])), (pa, .inl (G.2.1 0, 5000, .inl (iA f2))), (fh, .inr (5, [.ref fa, .int (iI n)])), (fa, .inl (G.2.1 0, 40, .inl (iA f)))] (fun r (u : Int × (Int → Int) × Int × (Int → Int)) => ∃ z : Int, r = some (.int (iI z)) ∧ (BackR f n z) ∧ (BD u.2.1) ∧ (BD u.2.2.2) ∧ (0 ≤ u.1 ∧ u.1 ≤ 5000) ∧ (0 ≤ u.2.2.1 ∧ u.2.2.1 ≤ 5000)) (fun u => [(x, .inr (8, [.ref rg, .ref mk, .ref mh, .ref th, .ref ih, .ref nh, .ref fh, .ref sh, .ref ro, .ref ts])), (sh, .inr (6, [.ref o, .ref p])), (o, .inr (5, [.ref oa, .int (iI u.1)])), (oa, .inl (G.2.1 0, 5000, .inl (iA u.2.1))), (p, .inr (5, [.ref pa, .int (iI u.2.2.1)])), (pa, .inl (G.2.1 0, 5000, .inl (iA u.2.2.2))), (fh, .inr (5, [.ref fa, .int (iI n)])), (fa, .inl (G.2.1 0, 40, .inl (iA f)))]) := by
  refine MQc.start (own := RX10) (by decide) rfl rfl (Nat.le_of_ble_eq_true rfl) ?_
  intro p9 e9 s9 m9 args below meth c9 A Q C hK hW hA hr hlocks hQ ls hl
  have hl : lv_has ls 1 [(0, .ref x)] := hl
  have hin6 : ∀ w ∈ wsX60, w ∈ wsX10_backs := by decide +kernel
  have hin8 : ∀ w ∈ wsX80, w ∈ wsX10_backs := by decide +kernel
  have hin10 : ∀ w ∈ wsX100, w ∈ wsX10_backs := by decide +kernel
  refine lv_aload_n C.1 C.2.1 dX10_backs_0 rfl (lv_at hl 0 rfl) ?_
  refine z_get C hK hW hin10 (v := .ref sh) 0 rfl rfl 7 (by decide) (C.2.2.2.2 (.fieldLink RX10 56 "TellingRows" "speaker" "LTellingRows$Speaker;") (List.mem_of_getElem? (i := 1) rfl)) (fun _ h9 => h9) rfl dX10_backs_1 ?_
  refine lv_aload_n C.1 C.2.1 dX10_backs_4 rfl (lv_at hl 0 rfl) ?_
  refine z_get C hK hW hin10 (v := .ref fh) 0 rfl rfl 6 (by decide) (C.2.2.2.2 (.fieldLink RX10 50 "TellingRows" "figures" "LTellingRows$Sequence;") (List.mem_of_getElem? (i := 2) rfl)) (fun _ h9 => h9) rfl dX10_backs_5 ?_
  refine z_call (va_runV (As := [.ref fh]) (rest := []) C (c_X8_mostBacks l G sh o oa p pa n1 f1 n2 f2 fh fa n f hn hf hf1 hf2 hn1 hn2 hF s9.heap.size) (cwV 1 C.2.2.2.2 gX10_backs_X8_mostBacks rfl rfl rfl (by decide +kernel) ⟨Nat.le_of_ble_eq_true rfl, Nat.le_of_ble_eq_true rfl⟩) (z_preV hK hW hA [1, 2, 3, 4, 5, 6, 7] rfl (by decide) (ci := 6) (q0 := 1) rfl rfl) rfl rfl hl.1 rfl (lv_room (Nat.le_of_ble_eq_true rfl)) dX10_backs_8 ⟨Nat.zero_le _, Nat.zero_le _⟩) hW hA [1, 2, 3, 4, 5, 6, 7] rfl (by decide) (fun _ => rfl) (fun r u H locs hp hW => ?_)
  obtain ⟨m1_8, g1_8, m2_8, g2_8⟩ := u
  have hp : ∃ z : Int, r = some (.int (iI z)) ∧ (BackR f n z) ∧ (BD g1_8) ∧ (BD g2_8) ∧ (0 ≤ m1_8 ∧ m1_8 ≤ 5000) ∧ (0 ≤ m2_8 ∧ m2_8 ≤ 5000) := hp
  obtain ⟨z_8, rfl, hz_8_0, hz_8_1, hz_8_2, hz_8_3, hz_8_4⟩ := hp
  have hW : Wd G A s9.heap [(x, .inr (8, [.ref rg, .ref mk, .ref mh, .ref th, .ref ih, .ref nh, .ref fh, .ref sh, .ref ro, .ref ts])), (sh, .inr (6, [.ref o, .ref p])), (o, .inr (5, [.ref oa, .int (iI m1_8)])), (oa, .inl (G.2.1 0, 5000, .inl (iA g1_8))), (p, .inr (5, [.ref pa, .int (iI m2_8)])), (pa, .inl (G.2.1 0, 5000, .inl (iA g2_8))), (fh, .inr (5, [.ref fa, .int (iI n)])), (fa, .inl (G.2.1 0, 40, .inl (iA f)))] H locs := hW
  rw [hQ]
  have hP9 : ∃ z : Int, (some (Value.int (iI z_8))) = some (.int (iI z)) ∧ (BackR f n z) ∧ (BD g1_8) ∧ (BD g2_8) ∧ (0 ≤ m1_8 ∧ m1_8 ≤ 5000) ∧ (0 ≤ m2_8 ∧ m2_8 ≤ 5000) := ⟨_, rfl, hz_8_0, hz_8_1, hz_8_2, hz_8_3, hz_8_4⟩
  exact z_iret C hr hlocks hW (m1_8, g1_8, m2_8, g2_8) rfl hP9 dX10_backs_11
set_option maxHeartbeats 4000000 in
set_option maxRecDepth 100000 in
/-- tellers -/
theorem c_X10_tellers (l : Launch) (G : GG) (x : Nat) (rg : Nat) (mk : Nat) (mh : Nat) (th : Nat) (ih : Nat) (nh : Nat) (fh : Nat) (sh : Nat) (ro : Nat) (ts : Nat) (da : Nat) (w : Int) (fo : Int) (an : Int) (dg : Int → Int) (b : Int) (i : Int) (hdg : BD dg) (hb : -2147483648 ≤ b ∧ b ≤ 2147483647) (hi : -2147483648 ≤ i ∧ i ≤ 2147483647) (hw : -2147483648 ≤ w ∧ w ≤ 2147483647) (hfo : -2147483648 ≤ fo ∧ fo ≤ 2147483647) : MQc l yX10_tellers wsX10_tellers 14 G [.ref x, .int (iI b), .int (iI i)] [(x, .inr (8, [.ref rg, .ref mk, .ref mh, .ref th, .ref ih, .ref nh, .ref fh, .ref sh, .ref ro, .ref ts])), (ts, .inr (7, [.ref da, .int (iI w), .int (iI fo), .long (lI an)])), (da, .inl (G.2.1 0, 10, .inl (iA dg)))] (fun r (u : Int × Int × Int × (Int → Int)) => ∃ z : Int, r = some (.long (lI z)) ∧ ((2 ≤ b ∧ b ≤ 10) ∧ -1 ≤ i → (i = -1 → z = ((LT b).length : Int)) ∧ (0 ≤ i → z = pick (LT b) i (-4))) ∧ (¬ ((2 ≤ b ∧ b ≤ 10) ∧ -1 ≤ i) → z = -1) ∧ (BD u.2.2.2) ∧ (-2147483648 ≤ u.1 ∧ u.1 ≤ 2147483647) ∧ (-2147483648 ≤ u.2.1 ∧ u.2.1 ≤ 2147483647)) (fun u => [(x, .inr (8, [.ref rg, .ref mk, .ref mh, .ref th, .ref ih, .ref nh, .ref fh, .ref sh, .ref ro, .ref ts])), (ts, .inr (7, [.ref da, .int (iI u.1), .int (iI u.2.1), .long (lI u.2.2.1)])), (da, .inl (G.2.1 0, 10, .inl (iA u.2.2.2)))]) := by
  refine MQc.start (own := RX10) (by decide) rfl rfl (Nat.le_of_ble_eq_true rfl) ?_
  intro p9 e9 s9 m9 args below meth c9 A Q C hK hW hA hr hlocks hQ ls hl
  have hl : lv_has ls 4 [(0, .ref x), (1, .int (iI b)), (2, .int (iI i))] := hl
  have hin9 : ∀ w ∈ wsX90, w ∈ wsX10_tellers := by decide +kernel
  have hin10 : ∀ w ∈ wsX100, w ∈ wsX10_tellers := by decide +kernel
  refine lv_iload_n C.1 C.2.1 dX10_tellers_0 rfl (lv_at hl 1 rfl) ?_
  refine lv_iconst (v := iI 2) C.1 C.2.1 dX10_tellers_1 rfl ?_
  refine z_icmp_lt (tgt := 16) C dX10_tellers_2 (by decide) (by omega) (fun c_2 => ?_) (fun c_2 => ?_)
  ·
    refine z_ldc2 (z := (-1)) C (C.2.2.2.2 (.constantLong RX10 192 (-1)) (List.mem_of_getElem? (i := 1) rfl)) (by decide +kernel) dX10_tellers_16 ?_
    rw [hQ]
    have hP9 : ∃ z : Int, (some (Value.long (lI (-1)))) = some (.long (lI z)) ∧ ((2 ≤ b ∧ b ≤ 10) ∧ -1 ≤ i → (i = -1 → z = ((LT b).length : Int)) ∧ (0 ≤ i → z = pick (LT b) i (-4))) ∧ (¬ ((2 ≤ b ∧ b ≤ 10) ∧ -1 ≤ i) → z = -1) ∧ (BD dg) ∧ (-2147483648 ≤ w ∧ w ≤ 2147483647) ∧ (-2147483648 ≤ fo ∧ fo ≤ 2147483647) := ⟨_, rfl, (fun q9 => by omega), (by first | omega | assumption | (intros; first | rfl | omega | assumption | (and_intros <;> first | rfl | omega | assumption))), hdg, hw, hfo⟩
    exact z_lret C hr hlocks hW (w, fo, an, dg) rfl hP9 dX10_tellers_19
  ·
    refine lv_iload_n C.1 C.2.1 dX10_tellers_5 rfl (lv_at hl 1 rfl) ?_
    refine lv_bipush (v := iI 10) C.1 C.2.1 dX10_tellers_6 (by decide +kernel) ?_
    refine z_icmp_gt (tgt := 16) C dX10_tellers_8 (by decide) (by omega) (fun c_8 => ?_) (fun c_8 => ?_)
    ·
      refine z_ldc2 (z := (-1)) C (C.2.2.2.2 (.constantLong RX10 192 (-1)) (List.mem_of_getElem? (i := 1) rfl)) (by decide +kernel) dX10_tellers_16 ?_
      rw [hQ]
      have hP9 : ∃ z : Int, (some (Value.long (lI (-1)))) = some (.long (lI z)) ∧ ((2 ≤ b ∧ b ≤ 10) ∧ -1 ≤ i → (i = -1 → z = ((LT b).length : Int)) ∧ (0 ≤ i → z = pick (LT b) i (-4))) ∧ (¬ ((2 ≤ b ∧ b ≤ 10) ∧ -1 ≤ i) → z = -1) ∧ (BD dg) ∧ (-2147483648 ≤ w ∧ w ≤ 2147483647) ∧ (-2147483648 ≤ fo ∧ fo ≤ 2147483647) := ⟨_, rfl, (fun q9 => by omega), (by first | omega | assumption | (intros; first | rfl | omega | assumption | (and_intros <;> first | rfl | omega | assumption))), hdg, hw, hfo⟩
      exact z_lret C hr hlocks hW (w, fo, an, dg) rfl hP9 dX10_tellers_19
    ·
      refine lv_iload_n C.1 C.2.1 dX10_tellers_11 rfl (lv_at hl 2 rfl) ?_
      refine lv_iconst (v := iI (-1)) C.1 C.2.1 dX10_tellers_12 rfl ?_
      refine z_icmp_ge (tgt := 20) C dX10_tellers_13 (by decide) (by omega) (fun c_13 => ?_) (fun c_13 => ?_)
      ·
        refine lv_aload_n C.1 C.2.1 dX10_tellers_20 rfl (lv_at hl 0 rfl) ?_
        refine z_get C hK hW hin10 (v := .ref ts) 0 rfl rfl 9 (by decide) (C.2.2.2.2 (.fieldLink RX10 70 "TellingRows" "tellerSearch" "LTellingRows$TellerSearch;") (List.mem_of_getElem? (i := 2) rfl)) (fun _ h9 => h9) rfl dX10_tellers_21 ?_
        refine lv_iload_n C.1 C.2.1 dX10_tellers_24 rfl (lv_at hl 1 rfl) ?_
        refine lv_iload_n C.1 C.2.1 dX10_tellers_25 rfl (lv_at hl 2 rfl) ?_
        refine z_call (va_runV (As := [.int (iI b), .int (iI i)]) (rest := []) C (c_X9_search l G ts da w fo an dg b i (by first | omega | assumption | (intros; first | rfl | omega | assumption | (and_intros <;> first | rfl | omega | assumption))) hdg hi s9.heap.size) (cwV 2 C.2.2.2.2 gX10_tellers_X9_search rfl rfl rfl (by decide +kernel) ⟨Nat.le_of_ble_eq_true rfl, Nat.le_of_ble_eq_true rfl⟩) (z_preV hK hW hA [1, 2] rfl (by decide) (ci := 7) (q0 := 1) rfl rfl) rfl rfl hl.1 rfl (lv_room (Nat.le_of_ble_eq_true rfl)) dX10_tellers_26 ⟨Nat.zero_le _, Nat.zero_le _⟩) hW hA [1, 2] rfl (by decide) (fun _ => rfl) (fun r u H locs hp hW => ?_)
        obtain ⟨fo2_26, an2_26, dg2_26⟩ := u
        have hp : ∃ z : Int, r = some (.int (iI z)) ∧ (z = ((LT b).length : Int)) ∧ (an2_26 = pick (LT b) i (-4)) ∧ (BD dg2_26) ∧ (-2147483648 ≤ fo2_26 ∧ fo2_26 ≤ 2147483647) := hp
        obtain ⟨z_26, rfl, hz_26_0, hz_26_1, hz_26_2, hz_26_3⟩ := hp
        have hW : Wd G A s9.heap [(x, .inr (8, [.ref rg, .ref mk, .ref mh, .ref th, .ref ih, .ref nh, .ref fh, .ref sh, .ref ro, .ref ts])), (ts, .inr (7, [.ref da, .int (iI i), .int (iI fo2_26), .long (lI an2_26)])), (da, .inl (G.2.1 0, 10, .inl (iA dg2_26)))] H locs := hW
        have hlt := LT_len (b := b) (by omega)
        refine lv_istore_n (lv' := [(3, .int (iI z_26)), (0, .ref x), (1, .int (iI b)), (2, .int (iI i))]) C.1 C.2.1 dX10_tellers_29 rfl hl (by decide) rfl (fun ls hl => ?_)
        refine lv_iload_n C.1 C.2.1 dX10_tellers_30 rfl (lv_at hl 3 rfl) ?_
        refine lv_iconst (v := iI (-1)) C.1 C.2.1 dX10_tellers_31 rfl ?_
        refine z_icmp_ne (tgt := 40) C dX10_tellers_32 (by decide) (by omega) (fun c_32 => ?_) (fun c_32 => ?_)
        ·
          refine lv_aload_n C.1 C.2.1 dX10_tellers_40 rfl (lv_at hl 1 rfl) ?_
          refine z_get C hK hW hin10 (v := .ref ts) 0 rfl rfl 9 (by decide) (C.2.2.2.2 (.fieldLink RX10 70 "TellingRows" "tellerSearch" "LTellingRows$TellerSearch;") (List.mem_of_getElem? (i := 2) rfl)) (fun _ h9 => h9) rfl dX10_tellers_41 ?_
          refine z_callR (va_runV (As := []) (rest := []) C (c_X9_answer l G ts da i fo2_26 an2_26 dg2_26  H.size) (cwV 0 C.2.2.2.2 gX10_tellers_X9_answer rfl rfl rfl (by decide +kernel) ⟨Nat.le_of_ble_eq_true rfl, Nat.le_of_ble_eq_true rfl⟩) (z_preV hK hW hA [1, 2] rfl (by decide) (ci := 7) (q0 := 1) rfl rfl) rfl rfl hl.1 rfl (lv_room (Nat.le_of_ble_eq_true rfl)) dX10_tellers_44 ⟨Nat.zero_le _, Nat.zero_le _⟩) (fun r hp => ?_)
          have hp : ∃ z : Int, r = some (.long (lI z)) ∧ (z = an2_26) := hp
          obtain ⟨z_44, rfl, hz_44_0⟩ := hp
          rw [hQ]
          have hP9 : ∃ z : Int, (some (Value.long (lI z_44))) = some (.long (lI z)) ∧ ((2 ≤ b ∧ b ≤ 10) ∧ -1 ≤ i → (i = -1 → z = ((LT b).length : Int)) ∧ (0 ≤ i → z = pick (LT b) i (-4))) ∧ (¬ ((2 ≤ b ∧ b ≤ 10) ∧ -1 ≤ i) → z = -1) ∧ (BD dg2_26) ∧ (-2147483648 ≤ i ∧ i ≤ 2147483647) ∧ (-2147483648 ≤ fo2_26 ∧ fo2_26 ≤ 2147483647) := ⟨_, rfl, (fun _ => ⟨fun q9 => by omega, fun q9 => by first | omega | (rw [hz_44_0]; exact hz_26_1)⟩), (fun q9 => by omega), hz_26_2, hi, hz_26_3⟩
          exact z_lret C hr hlocks hW (i, fo2_26, an2_26, dg2_26) rfl hP9 dX10_tellers_47
        ·
          refine lv_iload_n C.1 C.2.1 dX10_tellers_35 rfl (lv_at hl 0 rfl) ?_
          refine z_i2l C dX10_tellers_36 (by omega) ?_
          refine lv_goto (tgt := 47) C.1 C.2.1 dX10_tellers_37 (by decide) ?_
          rw [hQ]
          have hP9 : ∃ z : Int, (some (Value.long (lI z_26))) = some (.long (lI z)) ∧ ((2 ≤ b ∧ b ≤ 10) ∧ -1 ≤ i → (i = -1 → z = ((LT b).length : Int)) ∧ (0 ≤ i → z = pick (LT b) i (-4))) ∧ (¬ ((2 ≤ b ∧ b ≤ 10) ∧ -1 ≤ i) → z = -1) ∧ (BD dg2_26) ∧ (-2147483648 ≤ i ∧ i ≤ 2147483647) ∧ (-2147483648 ≤ fo2_26 ∧ fo2_26 ≤ 2147483647) := ⟨_, rfl, (fun _ => ⟨fun q9 => by omega, fun q9 => by first | omega | (rw [hz_44_0]; exact hz_26_1)⟩), (fun q9 => by omega), hz_26_2, hi, hz_26_3⟩
          exact z_lret C hr hlocks hW (i, fo2_26, an2_26, dg2_26) rfl hP9 dX10_tellers_47
      ·
        refine z_ldc2 (z := (-1)) C (C.2.2.2.2 (.constantLong RX10 192 (-1)) (List.mem_of_getElem? (i := 1) rfl)) (by decide +kernel) dX10_tellers_16 ?_
        rw [hQ]
        have hP9 : ∃ z : Int, (some (Value.long (lI (-1)))) = some (.long (lI z)) ∧ ((2 ≤ b ∧ b ≤ 10) ∧ -1 ≤ i → (i = -1 → z = ((LT b).length : Int)) ∧ (0 ≤ i → z = pick (LT b) i (-4))) ∧ (¬ ((2 ≤ b ∧ b ≤ 10) ∧ -1 ≤ i) → z = -1) ∧ (BD dg) ∧ (-2147483648 ≤ w ∧ w ≤ 2147483647) ∧ (-2147483648 ≤ fo ∧ fo ≤ 2147483647) := ⟨_, rfl, (fun q9 => by omega), (by first | omega | assumption | (intros; first | rfl | omega | assumption | (and_intros <;> first | rfl | omega | assumption))), hdg, hw, hfo⟩
        exact z_lret C hr hlocks hW (w, fo, an, dg) rfl hP9 dX10_tellers_19
set_option maxHeartbeats 4000000 in
set_option maxRecDepth 100000 in
/-- count -/
theorem c_X10_count (l : Launch) (G : GG) (x : Nat) (rg : Nat) (mk : Nat) (mh : Nat) (th : Nat) (ih : Nat) (nh : Nat) (fh : Nat) (sh : Nat) (ro : Nat) (ts : Nat) (ta : Nat) (na : Nat) (fa : Nat) (T : Int) (t : Int → Int) (nn : Int) (nf : Int → Int) (n : Int) (f : Int → Int) (w : Int) (hw : -2147483648 ≤ w ∧ w ≤ 2147483647) : MRc l yX10_count wsX10_count 1 G [.ref x, .int (iI w)] [(x, .inr (8, [.ref rg, .ref mk, .ref mh, .ref th, .ref ih, .ref nh, .ref fh, .ref sh, .ref ro, .ref ts])), (th, .inr (5, [.ref ta, .int (iI T)])), (ta, .inl (G.2.1 0, 120, .inl (iA t))), (nh, .inr (5, [.ref na, .int (iI nn)])), (na, .inl (G.2.1 0, 40, .inl (iA nf))), (fh, .inr (5, [.ref fa, .int (iI n)])), (fa, .inl (G.2.1 0, 40, .inl (iA f)))] (fun r => ∃ z : Int, r = some (.int (iI z)) ∧ ((w = 0 → z = T) ∧ (w = 1 → z = nn) ∧ (w = 2 → z = n) ∧ (¬ (0 ≤ w ∧ w ≤ 2) → z = -1))) := by
  refine MRc.start (own := RX10) (by decide) rfl rfl (Nat.le_of_ble_eq_true rfl) ?_
  intro p9 e9 s9 m9 args below meth c9 A Q C hK hW hA hr hlocks hQ ls hl
  have hl : lv_has ls 2 [(0, .ref x), (1, .int (iI w))] := hl
  have hin6 : ∀ w ∈ wsX60, w ∈ wsX10_count := by decide +kernel
  have hin10 : ∀ w ∈ wsX100, w ∈ wsX10_count := by decide +kernel
  refine lv_iload_n C.1 C.2.1 dX10_count_0 rfl (lv_at hl 1 rfl) ?_
  rcases (show w = 0 ∨ w = 1 ∨ w = 2 ∨ (w < 0 ∨ 2 < w) by omega) with e_1 | e_1 | e_1 | e_1
  ·
    rw [show (w) = 0 from e_1]
    refine z_tabIn (tgt := 28) C dX10_count_1 (by omega) (by omega) (by omega) (off := 27) (by rfl) (by decide) ?_
    refine lv_aload_n C.1 C.2.1 dX10_count_28 rfl (lv_at hl 0 rfl) ?_
    refine z_get C hK hW hin10 (v := .ref th) 0 rfl rfl 3 (by decide) (C.2.2.2.2 (.fieldLink RX10 36 "TellingRows" "text" "LTellingRows$Sequence;") (List.mem_of_getElem? (i := 1) rfl)) (fun _ h9 => h9) rfl dX10_count_29 ?_
    refine z_callR (va_runV (As := []) (rest := []) C (c_X6_size l G th ta 120 T t  s9.heap.size) (cwV 0 C.2.2.2.2 gX10_count_X6_size rfl rfl rfl (by decide +kernel) ⟨Nat.le_of_ble_eq_true rfl, Nat.le_of_ble_eq_true rfl⟩) (z_preV hK hW hA [1, 2] rfl (by decide) (ci := 5) (q0 := 1) rfl rfl) rfl rfl hl.1 rfl (lv_room (Nat.le_of_ble_eq_true rfl)) dX10_count_32 ⟨Nat.zero_le _, Nat.zero_le _⟩) (fun r hp => ?_)
    have hp : ∃ z : Int, r = some (.int (iI z)) ∧ (z = T) := hp
    obtain ⟨z_32, rfl, hz_32_0⟩ := hp
    rw [hQ]
    have hP9 : ∃ z : Int, (some (Value.int (iI z_32))) = some (.int (iI z)) ∧ ((w = 0 → z = T) ∧ (w = 1 → z = nn) ∧ (w = 2 → z = n) ∧ (¬ (0 ≤ w ∧ w ≤ 2) → z = -1)) := ⟨_, rfl, (by omega)⟩
    exact z_iretR C hr hlocks hP9 dX10_count_35
  ·
    rw [show (w) = 1 from e_1]
    refine z_tabIn (tgt := 36) C dX10_count_1 (by omega) (by omega) (by omega) (off := 35) (by rfl) (by decide) ?_
    refine lv_aload_n C.1 C.2.1 dX10_count_36 rfl (lv_at hl 0 rfl) ?_
    refine z_get C hK hW hin10 (v := .ref nh) 0 rfl rfl 5 (by decide) (C.2.2.2.2 (.fieldLink RX10 47 "TellingRows" "numbers" "LTellingRows$Sequence;") (List.mem_of_getElem? (i := 2) rfl)) (fun _ h9 => h9) rfl dX10_count_37 ?_
    refine z_callR (va_runV (As := []) (rest := []) C (c_X6_size l G nh na 40 nn nf  s9.heap.size) (cwV 0 C.2.2.2.2 gX10_count_X6_size rfl rfl rfl (by decide +kernel) ⟨Nat.le_of_ble_eq_true rfl, Nat.le_of_ble_eq_true rfl⟩) (z_preV hK hW hA [3, 4] rfl (by decide) (ci := 5) (q0 := 3) rfl rfl) rfl rfl hl.1 rfl (lv_room (Nat.le_of_ble_eq_true rfl)) dX10_count_40 ⟨Nat.zero_le _, Nat.zero_le _⟩) (fun r hp => ?_)
    have hp : ∃ z : Int, r = some (.int (iI z)) ∧ (z = nn) := hp
    obtain ⟨z_40, rfl, hz_40_0⟩ := hp
    rw [hQ]
    have hP9 : ∃ z : Int, (some (Value.int (iI z_40))) = some (.int (iI z)) ∧ ((w = 0 → z = T) ∧ (w = 1 → z = nn) ∧ (w = 2 → z = n) ∧ (¬ (0 ≤ w ∧ w ≤ 2) → z = -1)) := ⟨_, rfl, (by omega)⟩
    exact z_iretR C hr hlocks hP9 dX10_count_43
  ·
    rw [show (w) = 2 from e_1]
    refine z_tabIn (tgt := 44) C dX10_count_1 (by omega) (by omega) (by omega) (off := 43) (by rfl) (by decide) ?_
    refine lv_aload_n C.1 C.2.1 dX10_count_44 rfl (lv_at hl 0 rfl) ?_
    refine z_get C hK hW hin10 (v := .ref fh) 0 rfl rfl 6 (by decide) (C.2.2.2.2 (.fieldLink RX10 50 "TellingRows" "figures" "LTellingRows$Sequence;") (List.mem_of_getElem? (i := 3) rfl)) (fun _ h9 => h9) rfl dX10_count_45 ?_
    refine z_callR (va_runV (As := []) (rest := []) C (c_X6_size l G fh fa 40 n f  s9.heap.size) (cwV 0 C.2.2.2.2 gX10_count_X6_size rfl rfl rfl (by decide +kernel) ⟨Nat.le_of_ble_eq_true rfl, Nat.le_of_ble_eq_true rfl⟩) (z_preV hK hW hA [5, 6] rfl (by decide) (ci := 5) (q0 := 5) rfl rfl) rfl rfl hl.1 rfl (lv_room (Nat.le_of_ble_eq_true rfl)) dX10_count_48 ⟨Nat.zero_le _, Nat.zero_le _⟩) (fun r hp => ?_)
    have hp : ∃ z : Int, r = some (.int (iI z)) ∧ (z = n) := hp
    obtain ⟨z_48, rfl, hz_48_0⟩ := hp
    rw [hQ]
    have hP9 : ∃ z : Int, (some (Value.int (iI z_48))) = some (.int (iI z)) ∧ ((w = 0 → z = T) ∧ (w = 1 → z = nn) ∧ (w = 2 → z = n) ∧ (¬ (0 ≤ w ∧ w ≤ 2) → z = -1)) := ⟨_, rfl, (by omega)⟩
    exact z_iretR C hr hlocks hP9 dX10_count_51
  ·
    refine z_tabOut (tgt := 52) C dX10_count_1 (by omega) e_1 (by decide) ?_
    refine lv_iconst (v := iI (-1)) C.1 C.2.1 dX10_count_52 rfl ?_
    rw [hQ]
    have hP9 : ∃ z : Int, (some (Value.int (iI (-1)))) = some (.int (iI z)) ∧ ((w = 0 → z = T) ∧ (w = 1 → z = nn) ∧ (w = 2 → z = n) ∧ (¬ (0 ≤ w ∧ w ≤ 2) → z = -1)) := ⟨_, rfl, (by omega)⟩
    exact z_iretR C hr hlocks hP9 dX10_count_53
set_option maxHeartbeats 4000000 in
set_option maxRecDepth 100000 in
/-- told -/
theorem c_X10_told (l : Launch) (G : GG) (x : Nat) (rg : Nat) (mk : Nat) (mh : Nat) (th : Nat) (ih : Nat) (nh : Nat) (fh : Nat) (sh : Nat) (ro : Nat) (ts : Nat) (rw : Int → Nat) (rr : Int) (bo : Nat) (bi : Nat) (no : Nat) (S : Nat) (M : Int) (L : Int) (n : Int) (B : Int → Int) (w : Int) (hr9 : 0 ≤ rr ∧ rr ≤ 3) (hS : S < 7) (hn : 0 ≤ n ∧ n ≤ 6) (hB : BD B) (hw : -2147483648 ≤ w ∧ w ≤ 2147483647) : MRc l yX10_told wsX10_told 1 G [.ref x, .int (iI rr), .int (iI w)] [(x, .inr (8, [.ref rg, .ref mk, .ref mh, .ref th, .ref ih, .ref nh, .ref fh, .ref sh, .ref ro, .ref ts])), (rg, .inl (G.2.1 3, 4, .inr (.inr (.inr (.inr (regF rw)))))), (rw rr, .inr (4, [.ref bo, .ref no, .ref (G.2.2 S), .int (iI M), .int (iI L)])), (bo, .inr (5, [.ref bi, .int (iI n)])), (bi, .inl (G.2.1 0, 6, .inl (iA B)))] (fun r => ∃ z : Int, r = some (.int (iI z)) ∧ (¬ (0 ≤ w ∧ w ≤ 7) → z = -1) ∧ (w = 0 → z = (S : Int)) ∧ (w = 1 → z = n) ∧ (2 ≤ w ∧ w ≤ 7 ∧ w - 2 < n → z = B (w - 2)) ∧ (2 ≤ w ∧ w ≤ 7 ∧ ¬ (w - 2 < n) → z = -4)) := by
  refine MRc.start (own := RX10) (by decide) rfl rfl (Nat.le_of_ble_eq_true rfl) ?_
  intro p9 e9 s9 m9 args below meth c9 A Q C hK hW hA hr hlocks hQ ls hl
  have hl : lv_has ls 4 [(0, .ref x), (1, .int (iI rr)), (2, .int (iI w))] := hl
  have hin5 : ∀ w ∈ wsX50, w ∈ wsX10_told := by decide +kernel
  have hin6 : ∀ w ∈ wsX60, w ∈ wsX10_told := by decide +kernel
  have hin10 : ∀ w ∈ wsX100, w ∈ wsX10_told := by decide +kernel
  refine lv_aload_n C.1 C.2.1 dX10_told_0 rfl (lv_at hl 0 rfl) ?_
  refine lv_iload_n C.1 C.2.1 dX10_told_1 rfl (lv_at hl 1 rfl) ?_
  refine z_callR (va_runV (As := [.int (iI rr)]) (rest := []) C (c_X10_registerOf l G x rg mk mh th ih nh fh sh ro ts rw rr hr9 s9.heap.size) (cwV 1 C.2.2.2.2 gX10_told_X10_registerOf rfl rfl rfl (by decide +kernel) ⟨Nat.le_of_ble_eq_true rfl, Nat.le_of_ble_eq_true rfl⟩) (z_preV hK hW hA [0, 1] rfl (by decide) (ci := 8) (q0 := 0) rfl rfl) rfl rfl hl.1 rfl (lv_room (Nat.le_of_ble_eq_true rfl)) dX10_told_2 ⟨Nat.zero_le _, Nat.zero_le _⟩) (fun r hp => ?_)
  have hp : (r = some (.ref (rw rr)) ∧ True) := hp
  have hq_2 := hp
  obtain ⟨rfl, hd_2⟩ := hq_2
  refine lv_astore_n (lv' := [(3, .ref (rw rr)), (0, .ref x), (1, .int (iI rr)), (2, .int (iI w))]) C.1 C.2.1 dX10_told_5 rfl hl (by decide) rfl (fun ls hl => ?_)
  refine lv_aload_n C.1 C.2.1 dX10_told_6 rfl (lv_at hl 0 rfl) ?_
  refine lv_ifnull C.1 C.2.1 dX10_told_7 ?_
  refine lv_iload_n C.1 C.2.1 dX10_told_10 rfl (lv_at hl 3 rfl) ?_
  refine z_if_lt (tgt := 20) C dX10_told_11 (by decide) (by omega) (fun c_11 => ?_) (fun c_11 => ?_)
  ·
    refine lv_iconst (v := iI (-1)) C.1 C.2.1 dX10_told_20 rfl ?_
    rw [hQ]
    have hP9 : ∃ z : Int, (some (Value.int (iI (-1)))) = some (.int (iI z)) ∧ (¬ (0 ≤ w ∧ w ≤ 7) → z = -1) ∧ (w = 0 → z = (S : Int)) ∧ (w = 1 → z = n) ∧ (2 ≤ w ∧ w ≤ 7 ∧ w - 2 < n → z = B (w - 2)) ∧ (2 ≤ w ∧ w ≤ 7 ∧ ¬ (w - 2 < n) → z = -4) := ⟨_, rfl, (fun q9 => by omega), (fun q9 => by omega), (fun q9 => by omega), (fun q9 => by first | omega | exact hz_56_0 (by omega)), (fun q9 => by first | omega | exact hz_56_1 (by omega))⟩
    exact z_iretR C hr hlocks hP9 dX10_told_21
  ·
    refine lv_iload_n C.1 C.2.1 dX10_told_14 rfl (lv_at hl 3 rfl) ?_
    refine lv_bipush (v := iI 7) C.1 C.2.1 dX10_told_15 (by decide +kernel) ?_
    refine z_icmp_le (tgt := 22) C dX10_told_17 (by decide) (by omega) (fun c_17 => ?_) (fun c_17 => ?_)
    ·
      refine lv_iload_n C.1 C.2.1 dX10_told_22 rfl (lv_at hl 3 rfl) ?_
      refine z_if_ne (tgt := 34) C dX10_told_23 (by decide) (by omega) (fun c_23 => ?_) (fun c_23 => ?_)
      ·
        refine lv_iload_n C.1 C.2.1 dX10_told_34 rfl (lv_at hl 3 rfl) ?_
        refine lv_iconst (v := iI 1) C.1 C.2.1 dX10_told_35 rfl ?_
        refine z_icmp_ne (tgt := 49) C dX10_told_36 (by decide) (by omega) (fun c_36 => ?_) (fun c_36 => ?_)
        ·
          refine lv_aload_n C.1 C.2.1 dX10_told_49 rfl (lv_at hl 0 rfl) ?_
          refine z_getN C hK hW hin5 (v := .ref bo) 2 rfl rfl 0 (by decide) (nw_f_RX10_117 hK.2.1) (fun _ h9 => h9) rfl dX10_told_50 ?_
          refine lv_iload_n C.1 C.2.1 dX10_told_53 rfl (lv_at hl 3 rfl) ?_
          refine lv_iconst (v := iI 2) C.1 C.2.1 dX10_told_54 rfl ?_
          refine z_isub C dX10_told_55 ?_
          refine z_callR (va_runV (As := [.int (iI (w - 2))]) (rest := []) C (c_X6_get l G bo bi 6 n B (w - 2) (by first | omega | assumption | (intros; first | rfl | omega | assumption | (and_intros <;> first | rfl | omega | assumption))) (by first | omega | assumption | (intros; first | rfl | omega | assumption | (and_intros <;> first | rfl | omega | assumption))) hB (by first | omega | assumption | (intros; first | rfl | omega | assumption | (and_intros <;> first | rfl | omega | assumption))) s9.heap.size) (cwV 1 C.2.2.2.2 gX10_told_X6_get rfl rfl rfl (by decide +kernel) ⟨Nat.le_of_ble_eq_true rfl, Nat.le_of_ble_eq_true rfl⟩) (z_preV hK hW hA [3, 4] rfl (by decide) (ci := 5) (q0 := 3) rfl rfl) rfl rfl hl.1 rfl (lv_room (Nat.le_of_ble_eq_true rfl)) dX10_told_56 ⟨Nat.zero_le _, Nat.zero_le _⟩) (fun r hp => ?_)
          have hp : ∃ z : Int, r = some (.int (iI z)) ∧ ((0 ≤ (w - 2) ∧ (w - 2) < n → z = B (w - 2))) ∧ ((¬ (0 ≤ (w - 2) ∧ (w - 2) < n) → z = -4)) ∧ (-2147483648 ≤ z ∧ z ≤ 2147483647) := hp
          obtain ⟨z_56, rfl, hz_56_0, hz_56_1, hz_56_2⟩ := hp
          rw [hQ]
          have hP9 : ∃ z : Int, (some (Value.int (iI z_56))) = some (.int (iI z)) ∧ (¬ (0 ≤ w ∧ w ≤ 7) → z = -1) ∧ (w = 0 → z = (S : Int)) ∧ (w = 1 → z = n) ∧ (2 ≤ w ∧ w ≤ 7 ∧ w - 2 < n → z = B (w - 2)) ∧ (2 ≤ w ∧ w ≤ 7 ∧ ¬ (w - 2 < n) → z = -4) := ⟨_, rfl, (fun q9 => by omega), (fun q9 => by omega), (fun q9 => by omega), (fun q9 => by first | omega | exact hz_56_0 (by omega)), (fun q9 => by first | omega | exact hz_56_1 (by omega))⟩
          exact z_iretR C hr hlocks hP9 dX10_told_59
        ·
          refine lv_aload_n C.1 C.2.1 dX10_told_39 rfl (lv_at hl 0 rfl) ?_
          refine z_getN C hK hW hin5 (v := .ref bo) 2 rfl rfl 0 (by decide) (nw_f_RX10_117 hK.2.1) (fun _ h9 => h9) rfl dX10_told_40 ?_
          refine z_callR (va_runV (As := []) (rest := []) C (c_X6_size l G bo bi 6 n B  s9.heap.size) (cwV 0 C.2.2.2.2 gX10_told_X6_size rfl rfl rfl (by decide +kernel) ⟨Nat.le_of_ble_eq_true rfl, Nat.le_of_ble_eq_true rfl⟩) (z_preV hK hW hA [3, 4] rfl (by decide) (ci := 5) (q0 := 3) rfl rfl) rfl rfl hl.1 rfl (lv_room (Nat.le_of_ble_eq_true rfl)) dX10_told_43 ⟨Nat.zero_le _, Nat.zero_le _⟩) (fun r hp => ?_)
          have hp : ∃ z : Int, r = some (.int (iI z)) ∧ (z = n) := hp
          obtain ⟨z_43, rfl, hz_43_0⟩ := hp
          refine lv_goto (tgt := 59) C.1 C.2.1 dX10_told_46 (by decide) ?_
          rw [hQ]
          have hP9 : ∃ z : Int, (some (Value.int (iI z_43))) = some (.int (iI z)) ∧ (¬ (0 ≤ w ∧ w ≤ 7) → z = -1) ∧ (w = 0 → z = (S : Int)) ∧ (w = 1 → z = n) ∧ (2 ≤ w ∧ w ≤ 7 ∧ w - 2 < n → z = B (w - 2)) ∧ (2 ≤ w ∧ w ≤ 7 ∧ ¬ (w - 2 < n) → z = -4) := ⟨_, rfl, (fun q9 => by omega), (fun q9 => by omega), (fun q9 => by omega), (fun q9 => by first | omega | exact hz_56_0 (by omega)), (fun q9 => by first | omega | exact hz_56_1 (by omega))⟩
          exact z_iretR C hr hlocks hP9 dX10_told_59
      ·
        refine lv_aload_n C.1 C.2.1 dX10_told_26 rfl (lv_at hl 0 rfl) ?_
        refine z_getN C hK hW hin5 (v := .ref (G.2.2 S)) 2 rfl rfl 2 (by decide) (nw_f_RX10_107 hK.2.1) (fun _ h9 => h9) rfl dX10_told_27 ?_
        refine z_geteN C hK hW (i := S) (by omega) (z := (S : Int)) (List.mem_of_getElem? (i := 1) rfl) (nw_f_RX10_111 hK.2.1) (fun _ h9 => h9) (sOrd_ok _ (by omega)) dX10_told_30 ?_
        rw [hQ]
        have hP9 : ∃ z : Int, (some (Value.int (iI (S : Int)))) = some (.int (iI z)) ∧ (¬ (0 ≤ w ∧ w ≤ 7) → z = -1) ∧ (w = 0 → z = (S : Int)) ∧ (w = 1 → z = n) ∧ (2 ≤ w ∧ w ≤ 7 ∧ w - 2 < n → z = B (w - 2)) ∧ (2 ≤ w ∧ w ≤ 7 ∧ ¬ (w - 2 < n) → z = -4) := ⟨_, rfl, (fun q9 => by omega), (fun q9 => by omega), (fun q9 => by omega), (fun q9 => by first | omega | exact hz_56_0 (by omega)), (fun q9 => by first | omega | exact hz_56_1 (by omega))⟩
        exact z_iretR C hr hlocks hP9 dX10_told_33
    ·
      refine lv_iconst (v := iI (-1)) C.1 C.2.1 dX10_told_20 rfl ?_
      rw [hQ]
      have hP9 : ∃ z : Int, (some (Value.int (iI (-1)))) = some (.int (iI z)) ∧ (¬ (0 ≤ w ∧ w ≤ 7) → z = -1) ∧ (w = 0 → z = (S : Int)) ∧ (w = 1 → z = n) ∧ (2 ≤ w ∧ w ≤ 7 ∧ w - 2 < n → z = B (w - 2)) ∧ (2 ≤ w ∧ w ≤ 7 ∧ ¬ (w - 2 < n) → z = -4) := ⟨_, rfl, (fun q9 => by omega), (fun q9 => by omega), (fun q9 => by omega), (fun q9 => by first | omega | exact hz_56_0 (by omega)), (fun q9 => by first | omega | exact hz_56_1 (by omega))⟩
      exact z_iretR C hr hlocks hP9 dX10_told_21
set_option maxHeartbeats 4000000 in
set_option maxRecDepth 100000 in
/-- told, none -/
theorem c_X10_told_bad (l : Launch) (G : GG) (x : Nat) (rg : Nat) (mk : Nat) (mh : Nat) (th : Nat) (ih : Nat) (nh : Nat) (fh : Nat) (sh : Nat) (ro : Nat) (ts : Nat) (rw : Int → Nat) (rr : Int) (w : Int) (hr9 : ¬ (0 ≤ rr ∧ rr ≤ 3)) (hrr : -2147483648 ≤ rr ∧ rr ≤ 2147483647) : MRc l yX10_told wsX10_told 1 G [.ref x, .int (iI rr), .int (iI w)] [(x, .inr (8, [.ref rg, .ref mk, .ref mh, .ref th, .ref ih, .ref nh, .ref fh, .ref sh, .ref ro, .ref ts])), (rg, .inl (G.2.1 3, 4, .inr (.inr (.inr (.inr (regF rw))))))] (fun r => ∃ z : Int, r = some (.int (iI z)) ∧ (z = -1)) := by
  refine MRc.start (own := RX10) (by decide) rfl rfl (Nat.le_of_ble_eq_true rfl) ?_
  intro p9 e9 s9 m9 args below meth c9 A Q C hK hW hA hr hlocks hQ ls hl
  have hl : lv_has ls 4 [(0, .ref x), (1, .int (iI rr)), (2, .int (iI w))] := hl
  have hin5 : ∀ w ∈ wsX50, w ∈ wsX10_told := by decide +kernel
  have hin6 : ∀ w ∈ wsX60, w ∈ wsX10_told := by decide +kernel
  have hin10 : ∀ w ∈ wsX100, w ∈ wsX10_told := by decide +kernel
  refine lv_aload_n C.1 C.2.1 dX10_told_0 rfl (lv_at hl 0 rfl) ?_
  refine lv_iload_n C.1 C.2.1 dX10_told_1 rfl (lv_at hl 1 rfl) ?_
  refine z_callR (va_runV (As := [.int (iI rr)]) (rest := []) C (c_X10_registerOf_bad l G x rg mk mh th ih nh fh sh ro ts rw rr hr9 hrr s9.heap.size) (cwV 1 C.2.2.2.2 gX10_told_X10_registerOf rfl rfl rfl (by decide +kernel) ⟨Nat.le_of_ble_eq_true rfl, Nat.le_of_ble_eq_true rfl⟩) (z_preV hK hW hA [0, 1] rfl (by decide) (ci := 8) (q0 := 0) rfl rfl) rfl rfl hl.1 rfl (lv_room (Nat.le_of_ble_eq_true rfl)) dX10_told_2 ⟨Nat.zero_le _, Nat.zero_le _⟩) (fun r hp => ?_)
  have hp : (r = some .null ∧ True) := hp
  have hq_2 := hp
  obtain ⟨rfl, hd_2⟩ := hq_2
  refine lv_astore_nN (lv' := [(3, .null), (0, .ref x), (1, .int (iI rr)), (2, .int (iI w))]) C.1 C.2.1 dX10_told_5 rfl hl (by decide) rfl (fun ls hl => ?_)
  refine lv_aload_nN C.1 C.2.1 dX10_told_6 rfl (lv_at hl 0 rfl) ?_
  refine lv_ifnullN (tgt := 20) C.1 C.2.1 dX10_told_7 (by decide) ?_
  refine lv_iconst (v := iI (-1)) C.1 C.2.1 dX10_told_20 rfl ?_
  rw [hQ]
  have hP9 : ∃ z : Int, (some (Value.int (iI (-1)))) = some (.int (iI z)) ∧ (z = -1) := ⟨_, rfl, (by first | omega | assumption | (intros; first | rfl | omega | assumption | (and_intros <;> first | rfl | omega | assumption)))⟩
  exact z_iretR C hr hlocks hP9 dX10_told_21
