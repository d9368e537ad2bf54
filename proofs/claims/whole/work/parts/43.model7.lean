/-! the model's law, and which row is laid -/
def LawR (lw : Int → Int) : Prop := ∀ r, 0 ≤ r → r ≤ 3 → 0 ≤ lw (8 * r) ∧ lw (8 * r) ≤ 6 ∧ AllowsR (lw (8 * r)).toNat (lw (8 * r + 1)) (fun j => lw (8 * r + 2 + j))
def RowL (lw : Int → Int) (r L : Int) (g : Int → Int) : Prop := RowR (lw (8 * r)).toNat (lw (8 * r + 1)) (fun j => lw (8 * r + 2 + j)) L g
def LaidR (lw : Int → Int) (ld mn : Int) (g : Int → Int) : Prop := ld = -1 ∨ ((0 ≤ ld ∧ ld ≤ 3) ∧ RowL lw ld mn g)
theorem RowL_b {lw g : Int → Int} {r L : Int} (h : RowL lw r L g) : (1 ≤ L ∧ L ≤ 2000) ∧ VAL g L := ⟨⟨h.2.1, h.2.2.1⟩, h.2.2.2.1⟩
theorem RowL_to {lw g : Int → Int} {r n L : Int} (hn : n = lw (8 * r + 1)) (hs : n = 0 → (lw (8 * r)).toNat = 6) (hn0 : 0 ≤ n) (hL : n ≤ L ∧ L ≤ 2000) (hV : VAL g L) (hB : ∀ j, 0 ≤ j → j < n → g j = lw (8 * r + 2 + j)) (hN : ∀ k, n ≤ k → k < L → NextR (lw (8 * r)).toNat g k (g k)) (he : L < 2000 → NextR (lw (8 * r)).toNat g L (-1)) : RowL lw r L g := by
  refine ⟨by omega, ?_, hL.2, hV, fun j j0 j1 => hB j j0 (by omega), fun k k0 k1 => hN k (by omega) k1, he⟩
  rcases Int.lt_or_le 0 L with q | q
  · omega
  · exfalso
    have h := he (by omega)
    rw [hs (by omega)] at h
    have := h.1
    omega
/-- the run at the end of i numbers -/
def RlR (g : Int → Int) (i ru : Int) : Prop := (0 ≤ ru ∧ ru ≤ i ∧ (0 < i → 1 ≤ ru)) ∧ (∀ j, i - ru ≤ j → j < i → g j = g (i - 1)) ∧ (ru < i → g (i - ru - 1) ≠ g (i - 1))
theorem RlR_c {g : Int → Int} {i ru : Int} (h : RlR g i ru) (h0 : 0 < i) (he : g i = g (i - 1)) : RlR g (i + 1) (ru + 1) := by
  obtain ⟨⟨h1, h2, h3⟩, h4, h5⟩ := h
  refine ⟨by omega, fun j j0 j1 => ?_, fun q => ?_⟩
  · rw [show i + 1 - 1 = i by omega]
    rcases Int.lt_or_le j i with q | q
    · rw [h4 j (by omega) q, he]
    · rw [show j = i by omega]
  · rw [show i + 1 - (ru + 1) - 1 = i - ru - 1 by omega, show i + 1 - 1 = i by omega, he]
    exact h5 (by omega)
theorem RlR_n {g : Int → Int} {i : Int} (h0 : 0 ≤ i) (he : 0 < i → g i ≠ g (i - 1)) : RlR g (i + 1) 1 := by
  refine ⟨by omega, fun j j0 j1 => by rw [show j = i by omega, show i + 1 - 1 = i by omega], fun q => ?_⟩
  rw [show i + 1 - 1 - 1 = i - 1 by omega, show i + 1 - 1 = i by omega]
  exact fun z => he (by omega) z.symm
theorem LongR_m {g : Int → Int} {i lg r : Int} (h0 : 0 ≤ i) (h : (i = 0 ∧ lg = 0) ∨ LongR g i lg) (hr : RlR g (i + 1) r) : LongR g (i + 1) (max lg r) := by
  obtain ⟨⟨r0, r1, r2⟩, r3, r4⟩ := hr
  have r2 := r2 (by omega)
  rw [show i + 1 - 1 = i by omega] at r3 r4
  have hold : i = 0 ∨ LongR g i lg := h.elim (fun q => Or.inl q.1) Or.inr
  refine ⟨?_, fun s y s0 s1 y1 s2 => ?_⟩
  · rcases Int.lt_or_le r lg with q | q
    · rcases h with h | h
      · omega
      · obtain ⟨⟨s, s0, s1, s2, s3⟩, -⟩ := h
        exact ⟨s, s0, by omega, by omega, fun j j0 j1 => s3 j j0 (by omega)⟩
    · refine ⟨i + 1 - r, by omega, by omega, by omega, fun j j0 j1 => ?_⟩
      rw [r3 j j0 (by omega), r3 (i + 1 - r) (by omega) (by omega)]
  · rcases Int.lt_or_le i (s + y) with q | q
    · rcases Int.lt_or_le r y with q2 | q2
      · exfalso
        apply r4 (by omega)
        rw [s2 (i + 1 - r - 1) (by omega) (by omega), s2 i (by omega) (by omega)]
      · omega
    · rcases hold with e | e
      · omega
      · have := e.2 s y s0 q y1 s2
        omega
/-- the first place of the greatest of n -/
def BestR (g : Int → Int) (n b : Int) : Prop := (0 ≤ b ∧ b < n) ∧ (∀ j, 0 ≤ j → j < n → g j ≤ g b) ∧ ∀ j, 0 ≤ j → j < b → g j ≠ g b
theorem BestR_y {g : Int → Int} {i b : Int} (h0 : 0 ≤ i) (h : (i = 0 ∧ b = 0) ∨ BestR g i b) (hc : g b < g i) : BestR g (i + 1) i := by
  rcases h with ⟨e, e2⟩ | ⟨h1, h2, h3⟩
  · subst e e2
    omega
  · refine ⟨by omega, fun j j0 j1 => ?_, fun j j0 j1 => ?_⟩
    · rcases Int.lt_or_le j i with q | q
      · have := h2 j j0 q
        omega
      · rw [show j = i by omega]
        omega
    · have := h2 j j0 j1
      omega
theorem BestR_n {g : Int → Int} {i b : Int} (h0 : 0 ≤ i) (h : (i = 0 ∧ b = 0) ∨ BestR g i b) (hc : g i ≤ g b) : BestR g (i + 1) b := by
  rcases h with ⟨e, e2⟩ | ⟨h1, h2, h3⟩
  · subst e e2
    exact ⟨by omega, fun j j0 j1 => by rw [show j = 0 by omega]; omega, fun j j0 j1 => by omega⟩
  · refine ⟨by omega, fun j j0 j1 => ?_, h3⟩
    rcases Int.lt_or_le j i with q | q
    · exact h2 j j0 q
    · rw [show j = i by omega]
      exact hc
theorem BestR_max {g : Int → Int} {n b : Int} (h : BestR g n b) : MaxR g n (g b) := ⟨⟨b, h.1.1, h.1.2, rfl⟩, h.2.1⟩
theorem BestR_first {g : Int → Int} {n b L : Int} (h : BestR g n b) (hL : n ≤ L) : FirstR g L (g b) b := Or.inl ⟨h.1.1, by have := h.1.2; omega, rfl, h.2.2⟩
set_option maxHeartbeats 4000000 in
set_option maxRecDepth 100000 in
/-- lays -/
theorem c_X11_lays (l : Launch) (G : GG) (x : Nat) (ln : Int) (a1 : Nat) (pl : Int) (a3 : Nat) (a4 : Nat) (ri : Int) (ld : Int) (mn : Int) (a8 : Nat) (a9 : Nat) (nn : Int) (a11 : Nat) (fn : Int) (a13 : Nat) (lm : Int) (a15 : Nat) (a16 : Nat) (a17 : Nat) (a18 : Nat) (a19 : Nat) (a20 : Nat) (lw : Int → Int) (g : Int → Int) (f : Int → Int) (h : Int → Int) (rr : Int) (hLw : LawR lw) (hlw : BD lw) (hg : BD g) (hf : BD f) (hh : BD h) (hLd : LaidR lw ld mn g) (hr9 : 0 ≤ rr ∧ rr ≤ 3) : MQc l yX11_lays wsX11_lays 3 G [.ref x, .int (iI rr)] [(x, .inr (9, [.int (iI ln), .ref a1, .int (iI pl), .ref a3, .ref a4, .int (iI ri), .int (iI ld), .int (iI mn), .ref a8, .ref a9, .int (iI nn), .ref a11, .int (iI fn), .ref a13, .int (iI lm), .ref a15, .ref a16, .ref a17, .ref a18, .ref a19, .ref a20])), (a3, .inl (G.2.1 0, 32, .inl (iA lw))), (a8, .inl (G.2.1 0, 2000, .inl (iA g))), (a9, .inl (G.2.1 0, 60001, .inl (iA f))), (a16, .inl (G.2.1 0, 5000, .inl (iA h)))] (fun r (u : Int × (Int → Int) × (Int → Int) × (Int → Int)) => r = none ∧ (RowL lw rr u.1 u.2.1) ∧ (BD u.2.1) ∧ (BD u.2.2.1) ∧ (BD u.2.2.2)) (fun u => [(x, .inr (9, [.int (iI ln), .ref a1, .int (iI pl), .ref a3, .ref a4, .int (iI ri), .int (iI rr), .int (iI u.1), .ref a8, .ref a9, .int (iI nn), .ref a11, .int (iI fn), .ref a13, .int (iI lm), .ref a15, .ref a16, .ref a17, .ref a18, .ref a19, .ref a20])), (a3, .inl (G.2.1 0, 32, .inl (iA lw))), (a8, .inl (G.2.1 0, 2000, .inl (iA u.2.1))), (a9, .inl (G.2.1 0, 60001, .inl (iA u.2.2.1))), (a16, .inl (G.2.1 0, 5000, .inl (iA u.2.2.2)))]) := by
  refine MQc.start (own := RX11) (by decide) rfl rfl (Nat.le_of_ble_eq_true rfl) ?_
  intro p9 e9 s9 m9 args below meth c9 A Q C hK hW hA hr hlocks hQ ls hl
  have hl : lv_has ls 4 [(0, .ref x), (1, .int (iI rr))] := hl
  have hin11 : ∀ w ∈ wsX110, w ∈ wsX11_lays := by decide +kernel
  have hldr : -1 ≤ ld ∧ ld ≤ 3 := hLd.elim (fun q => by omega) (fun q => by omega)
  have hL9 := hLw rr hr9.1 hr9.2
  have hsn := sort_n (S := (lw (8 * rr)).toNat) (by omega) hL9.2.2
  have hsv : ∀ j, 0 ≤ j → j < lw (8 * rr + 1) → 0 ≤ lw (8 * rr + 2 + j) ∧ lw (8 * rr + 2 + j) ≤ 99 := hsn.2.2
  have hfew := hL9.2.2.1
  have hf6 : lw (8 * rr + 1) = 0 → (lw (8 * rr)).toNat = 6 := fun q9 => few_6 _ (by omega) (by omega)
  have hf2 : (lw (8 * rr) < 2 → 2 ≤ lw (8 * rr + 1)) ∧ (lw (8 * rr) < 6 → 1 ≤ lw (8 * rr + 1)) := ⟨fun q9 => by have hk9 : lw (8 * rr) = 0 ∨ lw (8 * rr) = 1 := (by omega); rcases hk9 with e9 | e9 <;> (rw [e9] at hfew; have hfe : (2 : Int) ≤ lw (8 * rr + 1) := hfew; exact hfe), fun q9 => by rcases Int.lt_or_le 0 (lw (8 * rr + 1)) with q8 | q8; omega; have := hf6 (by omega); omega⟩
  refine lv_aload_n C.1 C.2.1 dX11_lays_0 rfl (lv_at hl 0 rfl) ?_
  refine z_get C hK hW hin11 (v := .int (iI ld)) 0 rfl rfl 6 (by decide) (C.2.2.2.2 (.fieldLink RX11 20 "TellingRowsModel" "laid" "I") (List.mem_of_getElem? (i := 1) rfl)) (fun _ h9 => h9) rfl dX11_lays_1 ?_
  refine lv_iload_n C.1 C.2.1 dX11_lays_4 rfl (lv_at hl 1 rfl) ?_
  refine z_icmp_ne (tgt := 9) C dX11_lays_5 (by decide) (by omega) (fun c_5 => ?_) (fun c_5 => ?_)
  ·
    refine lv_aload_n C.1 C.2.1 dX11_lays_9 rfl (lv_at hl 0 rfl) ?_
    refine lv_iload_n C.1 C.2.1 dX11_lays_10 rfl (lv_at hl 1 rfl) ?_
    refine z_put C hK hW hin11 tyX11 tyX11_ok nmX11 0 rfl rfl 6 (by decide) (C.2.2.2.2 (.fieldLink RX11 20 "TellingRowsModel" "laid" "I") (List.mem_of_getElem? (i := 1) rfl)) (fun _ h9 => h9) rfl rfl rfl (Nat.le_of_ble_eq_true rfl) dX11_lays_11 (fun H locs hW => ?_)
    have hW : Wd G A s9.heap [(x, .inr (9, [.int (iI ln), .ref a1, .int (iI pl), .ref a3, .ref a4, .int (iI ri), .int (iI rr), .int (iI mn), .ref a8, .ref a9, .int (iI nn), .ref a11, .int (iI fn), .ref a13, .int (iI lm), .ref a15, .ref a16, .ref a17, .ref a18, .ref a19, .ref a20])), (a3, .inl (G.2.1 0, 32, .inl (iA lw))), (a8, .inl (G.2.1 0, 2000, .inl (iA g))), (a9, .inl (G.2.1 0, 60001, .inl (iA f))), (a16, .inl (G.2.1 0, 5000, .inl (iA h)))] H locs := hW
    refine lv_aload_n C.1 C.2.1 dX11_lays_14 rfl (lv_at hl 0 rfl) ?_
    refine lv_aload_n C.1 C.2.1 dX11_lays_15 rfl (lv_at hl 0 rfl) ?_
    refine z_get C hK hW hin11 (v := .ref a3) 0 rfl rfl 3 (by decide) (C.2.2.2.2 (.fieldLink RX11 13 "TellingRowsModel" "law" "[I") (List.mem_of_getElem? (i := 2) rfl)) (fun _ h9 => h9) rfl dX11_lays_16 ?_
    refine lv_bipush (v := iI 8) C.1 C.2.1 dX11_lays_19 (by decide +kernel) ?_
    refine lv_iload_n C.1 C.2.1 dX11_lays_21 rfl (lv_at hl 1 rfl) ?_
    refine z_imul C dX11_lays_22 ?_
    refine lv_iconst (v := iI 1) C.1 C.2.1 dX11_lays_23 rfl ?_
    refine z_iadd C dX11_lays_24 ?_
    refine z_iald C hK hW 1 rfl (by omega) (by omega) dX11_lays_25 ?_
    have hb_25 := hlw ((8 * rr) + 1)
    refine z_put C hK hW hin11 tyX11 tyX11_ok nmX11 0 rfl rfl 7 (by decide) (C.2.2.2.2 (.fieldLink RX11 101 "TellingRowsModel" "many" "I") (List.mem_of_getElem? (i := 3) rfl)) (fun _ h9 => h9) rfl rfl rfl (Nat.le_of_ble_eq_true rfl) dX11_lays_26 (fun H locs hW => ?_)
    have hW : Wd G A s9.heap [(x, .inr (9, [.int (iI ln), .ref a1, .int (iI pl), .ref a3, .ref a4, .int (iI ri), .int (iI rr), .int (iI (lw ((8 * rr) + 1))), .ref a8, .ref a9, .int (iI nn), .ref a11, .int (iI fn), .ref a13, .int (iI lm), .ref a15, .ref a16, .ref a17, .ref a18, .ref a19, .ref a20])), (a3, .inl (G.2.1 0, 32, .inl (iA lw))), (a8, .inl (G.2.1 0, 2000, .inl (iA g))), (a9, .inl (G.2.1 0, 60001, .inl (iA f))), (a16, .inl (G.2.1 0, 5000, .inl (iA h)))] H locs := hW
    refine lv_iconst (v := iI 0) C.1 C.2.1 dX11_lays_29 rfl ?_
    refine lv_istore_n (lv' := [(2, .int (iI 0)), (0, .ref x), (1, .int (iI rr))]) C.1 C.2.1 dX11_lays_30 rfl hl (by decide) rfl (fun ls hl => ?_)
    have cut_31 : ∀ (n9 : Nat) (q : Int) (f1 : Int → Int), (0 ≤ q ∧ q ≤ 60001) → (BD f1) → (∀ j, 0 ≤ j → j < q → f1 j = 0) → (60001 - q < (n9 : Int)) → ∀ (H : Heap) (locs : List Loc) (ls : Array Slot), Wd G A s9.heap [(x, .inr (9, [.int (iI ln), .ref a1, .int (iI pl), .ref a3, .ref a4, .int (iI ri), .int (iI rr), .int (iI (lw ((8 * rr) + 1))), .ref a8, .ref a9, .int (iI nn), .ref a11, .int (iI fn), .ref a13, .int (iI lm), .ref a15, .ref a16, .ref a17, .ref a18, .ref a19, .ref a20])), (a3, .inl (G.2.1 0, 32, .inl (iA lw))), (a8, .inl (G.2.1 0, 2000, .inl (iA g))), (a9, .inl (G.2.1 0, 60001, .inl (iA f1))), (a16, .inl (G.2.1 0, 5000, .inl (iA h)))] H locs → lv_has ls 4 [(2, .int (iI q)), (0, .ref x), (1, .int (iI rr))] → W p9 l e9 (rmL 3) s9 m9 args below meth c9 H locs 0 0 Q (F0 m9 31 ls []) := by
      intro n9
      induction n9 with
      | zero => intro q f1 hq0 hf1 hz0 hmu; intros; exfalso; omega
      | succ n9 ih_31 =>
        intro q f1 hq0 hf1 hz0 hmu H locs ls hW hl
        refine lv_iload_n C.1 C.2.1 dX11_lays_31 rfl (lv_at hl 0 rfl) ?_
        refine z_ldc (z := 60000) C (C.2.2.2.2 (.constant RX11 104 (60000)) (List.mem_of_getElem? (i := 4) rfl)) (by decide +kernel) dX11_lays_32 ?_
        refine z_icmp_gt (tgt := 50) C dX11_lays_34 (by decide) (by omega) (fun c_34 => ?_) (fun c_34 => ?_)
        ·
          refine lv_iconst (v := iI 0) C.1 C.2.1 dX11_lays_50 rfl ?_
          refine lv_istore_n (lv' := [(2, .int (iI 0)), (0, .ref x), (1, .int (iI rr))]) C.1 C.2.1 dX11_lays_51 rfl hl (by decide) rfl (fun ls hl => ?_)
          have cut_52 : ∀ (n9 : Nat) (k : Int) (g1 : Int → Int) (f3 : Int → Int), (0 ≤ k ∧ k ≤ lw (8 * rr + 1)) → (BD g1) → (BD f3) → (∀ j, 0 ≤ j → j < k → g1 j = lw (8 * rr + 2 + j)) → (VAL g1 k) → (SeenQ (lw (8 * rr)) g1 k f3) → (lw (8 * rr + 1) - k < (n9 : Int)) → ∀ (H : Heap) (locs : List Loc) (ls : Array Slot), Wd G A s9.heap [(x, .inr (9, [.int (iI ln), .ref a1, .int (iI pl), .ref a3, .ref a4, .int (iI ri), .int (iI rr), .int (iI (lw ((8 * rr) + 1))), .ref a8, .ref a9, .int (iI nn), .ref a11, .int (iI fn), .ref a13, .int (iI lm), .ref a15, .ref a16, .ref a17, .ref a18, .ref a19, .ref a20])), (a3, .inl (G.2.1 0, 32, .inl (iA lw))), (a8, .inl (G.2.1 0, 2000, .inl (iA g1))), (a9, .inl (G.2.1 0, 60001, .inl (iA f3))), (a16, .inl (G.2.1 0, 5000, .inl (iA h)))] H locs → lv_has ls 4 [(2, .int (iI k)), (0, .ref x), (1, .int (iI rr))] → W p9 l e9 (rmL 3) s9 m9 args below meth c9 H locs 0 0 Q (F0 m9 52 ls []) := by
            intro n9
            induction n9 with
            | zero => intro k g1 f3 hk hg1 hf3 hB1 hV1 hS1 hmu; intros; exfalso; omega
            | succ n9 ih_52 =>
              intro k g1 f3 hk hg1 hf3 hB1 hV1 hS1 hmu H locs ls hW hl
              refine lv_iload_n C.1 C.2.1 dX11_lays_52 rfl (lv_at hl 0 rfl) ?_
              refine lv_aload_n C.1 C.2.1 dX11_lays_53 rfl (lv_at hl 1 rfl) ?_
              refine z_get C hK hW hin11 (v := .int (iI (lw ((8 * rr) + 1)))) 0 rfl rfl 7 (by decide) (C.2.2.2.2 (.fieldLink RX11 101 "TellingRowsModel" "many" "I") (List.mem_of_getElem? (i := 3) rfl)) (fun _ h9 => h9) rfl dX11_lays_54 ?_
              refine z_icmp_ge (tgt := 99) C dX11_lays_57 (by decide) (by omega) (fun c_57 => ?_) (fun c_57 => ?_)
              ·
                refine lv_iconst (v := iI 1) C.1 C.2.1 dX11_lays_99 rfl ?_
                refine lv_istore_n (lv' := [(2, .int (iI 1)), (0, .ref x), (1, .int (iI rr))]) C.1 C.2.1 dX11_lays_100 rfl hl (by decide) rfl (fun ls hl => ?_)
                have cut_101 : ∀ (n9 : Nat) (on : Int) (m : Int) (g3 : Int → Int) (f4 : Int → Int) (h3 : Int → Int), (on = 1 ∨ (on = 0 ∧ NextR (lw (8 * rr)).toNat g3 m (-1))) → (lw (8 * rr + 1) ≤ m ∧ m ≤ 2000) → (BD g3) → (BD f4) → (BD h3) → (∀ j, 0 ≤ j → j < lw (8 * rr + 1) → g3 j = lw (8 * rr + 2 + j)) → (VAL g3 m) → (∀ j, lw (8 * rr + 1) ≤ j → j < m → NextR (lw (8 * rr)).toNat g3 j (g3 j)) → (SeenQ (lw (8 * rr)) g3 m f4) → (2 * (2000 - m) + on < (n9 : Int)) → ∀ (H : Heap) (locs : List Loc) (ls : Array Slot), Wd G A s9.heap [(x, .inr (9, [.int (iI ln), .ref a1, .int (iI pl), .ref a3, .ref a4, .int (iI ri), .int (iI rr), .int (iI m), .ref a8, .ref a9, .int (iI nn), .ref a11, .int (iI fn), .ref a13, .int (iI lm), .ref a15, .ref a16, .ref a17, .ref a18, .ref a19, .ref a20])), (a3, .inl (G.2.1 0, 32, .inl (iA lw))), (a8, .inl (G.2.1 0, 2000, .inl (iA g3))), (a9, .inl (G.2.1 0, 60001, .inl (iA f4))), (a16, .inl (G.2.1 0, 5000, .inl (iA h3)))] H locs → lv_has ls 4 [(2, .int (iI on)), (0, .ref x), (1, .int (iI rr))] → W p9 l e9 (rmL 3) s9 m9 args below meth c9 H locs 0 0 Q (F0 m9 101 ls []) := by
                  intro n9
                  induction n9 with
                  | zero => intro on m g3 f4 h3 hon hm hg3 hf4 hh3 hB3 hV3 hN3 hS3 hmu; intros; exfalso; omega
                  | succ n9 ih_101 =>
                    intro on m g3 f4 h3 hon hm hg3 hf4 hh3 hB3 hV3 hN3 hS3 hmu H locs ls hW hl
                    have hon1 : on = 1 ∨ on = 0 := hon.elim Or.inl (fun q => Or.inr q.1)
                    refine lv_iload_n C.1 C.2.1 dX11_lays_101 rfl (lv_at hl 0 rfl) ?_
                    refine z_if_eq (tgt := 183) C dX11_lays_102 (by decide) (by omega) (fun c_102 => ?_) (fun c_102 => ?_)
                    ·
                      rw [hQ]
                      have hP9 : (none : Option Value) = none ∧ (RowL lw rr m g3) ∧ (BD g3) ∧ (BD f4) ∧ (BD h3) := ⟨rfl, (RowL_to rfl hf6 hsn.1 hm hV3 hB3 hN3 (fun q9 => hon.elim (fun q => by omega) (fun q => q.2))), hg3, hf4, hh3⟩
                      exact z_vret C hr hlocks hW (m, g3, f4, h3) rfl hP9 dX11_lays_183
                    ·
                      refine lv_aload_n C.1 C.2.1 dX11_lays_105 rfl (lv_at hl 1 rfl) ?_
                      refine z_get C hK hW hin11 (v := .int (iI m)) 0 rfl rfl 7 (by decide) (C.2.2.2.2 (.fieldLink RX11 101 "TellingRowsModel" "many" "I") (List.mem_of_getElem? (i := 3) rfl)) (fun _ h9 => h9) rfl dX11_lays_106 ?_
                      refine lv_sipush (v := iI 2000) C.1 C.2.1 dX11_lays_109 (by decide +kernel) ?_
                      refine z_icmp_ge (tgt := 183) C dX11_lays_112 (by decide) (by omega) (fun c_112 => ?_) (fun c_112 => ?_)
                      ·
                        rw [hQ]
                        have hP9 : (none : Option Value) = none ∧ (RowL lw rr m g3) ∧ (BD g3) ∧ (BD f4) ∧ (BD h3) := ⟨rfl, (RowL_to rfl hf6 hsn.1 hm hV3 hB3 hN3 (fun q9 => hon.elim (fun q => by omega) (fun q => q.2))), hg3, hf4, hh3⟩
                        exact z_vret C hr hlocks hW (m, g3, f4, h3) rfl hP9 dX11_lays_183
                      ·
                        refine lv_aload_n C.1 C.2.1 dX11_lays_115 rfl (lv_at hl 1 rfl) ?_
                        refine lv_aload_n C.1 C.2.1 dX11_lays_116 rfl (lv_at hl 1 rfl) ?_
                        refine z_get C hK hW hin11 (v := .ref a3) 0 rfl rfl 3 (by decide) (C.2.2.2.2 (.fieldLink RX11 13 "TellingRowsModel" "law" "[I") (List.mem_of_getElem? (i := 2) rfl)) (fun _ h9 => h9) rfl dX11_lays_117 ?_
                        refine lv_bipush (v := iI 8) C.1 C.2.1 dX11_lays_120 (by decide +kernel) ?_
                        refine lv_iload_n C.1 C.2.1 dX11_lays_122 rfl (lv_at hl 2 rfl) ?_
                        refine z_imul C dX11_lays_123 ?_
                        refine z_iald C hK hW 1 rfl (by omega) (by omega) dX11_lays_124 ?_
                        have hb_124 := hlw (8 * rr)
                        refine z_call (va_runV (As := [.int (iI (lw (8 * rr)))]) (rest := []) C (c_X11_next l G x ln a1 pl a3 a4 ri rr m a8 a9 nn a11 fn a13 lm a15 a16 a17 a18 a19 a20 g3 f4 h3 (lw (8 * rr)) (by first | omega | assumption | (intros; first | rfl | omega | assumption | (and_intros <;> first | rfl | omega | assumption))) (by first | omega | assumption | (intros; first | rfl | omega | assumption | (and_intros <;> first | rfl | omega | assumption))) ⟨fun q9 => by have := hf2.1 q9; omega, fun q9 => by have := hf2.2 q9; omega⟩ hV3 hg3 hf4 hh3 hS3 H.size) (cwV 1 C.2.2.2.2 gX11_lays_X11_next rfl rfl rfl (by decide +kernel) ⟨Nat.le_of_ble_eq_true rfl, Nat.le_of_ble_eq_true rfl⟩) (z_preV hK hW hA [0, 2, 3, 4] rfl (by decide) (ci := 9) (q0 := 0) rfl rfl) rfl rfl hl.1 rfl (lv_room (Nat.le_of_ble_eq_true rfl)) dX11_lays_125 ⟨Nat.zero_le _, Nat.zero_le _⟩) hW hA [0, 2, 3, 4] rfl (by decide) (fun _ => rfl) (fun r u H locs hp hW => ?_)
                        obtain ⟨h2_125, rfl⟩ : ∃ q9, q9 = u := ⟨_, rfl⟩
                        have hp : ∃ z : Int, r = some (.int (iI z)) ∧ (NextR (lw (8 * rr)).toNat g3 m z) ∧ (-1 ≤ z ∧ z ≤ 60000) ∧ (BD h2_125) := hp
                        obtain ⟨z_125, rfl, hz_125_0, hz_125_1, hz_125_2⟩ := hp
                        have hW : Wd G A s9.heap [(x, .inr (9, [.int (iI ln), .ref a1, .int (iI pl), .ref a3, .ref a4, .int (iI ri), .int (iI rr), .int (iI m), .ref a8, .ref a9, .int (iI nn), .ref a11, .int (iI fn), .ref a13, .int (iI lm), .ref a15, .ref a16, .ref a17, .ref a18, .ref a19, .ref a20])), (a3, .inl (G.2.1 0, 32, .inl (iA lw))), (a8, .inl (G.2.1 0, 2000, .inl (iA g3))), (a9, .inl (G.2.1 0, 60001, .inl (iA f4))), (a16, .inl (G.2.1 0, 5000, .inl (iA h2_125)))] H locs := hW
                        refine lv_istore_n (lv' := [(3, .int (iI z_125)), (2, .int (iI on)), (0, .ref x), (1, .int (iI rr))]) C.1 C.2.1 dX11_lays_128 rfl hl (by decide) rfl (fun ls hl => ?_)
                        refine lv_iload_n C.1 C.2.1 dX11_lays_129 rfl (lv_at hl 0 rfl) ?_
                        refine z_if_lt (tgt := 137) C dX11_lays_130 (by decide) (by omega) (fun c_130 => ?_) (fun c_130 => ?_)
                        ·
                          refine lv_iconst (v := iI 0) C.1 C.2.1 dX11_lays_137 rfl ?_
                          refine lv_istore_n (lv' := [(2, .int (iI 0)), (3, .int (iI z_125)), (0, .ref x), (1, .int (iI rr))]) C.1 C.2.1 dX11_lays_138 rfl hl (by decide) rfl (fun ls hl => ?_)
                          refine lv_iload_n C.1 C.2.1 dX11_lays_139 rfl (lv_at hl 0 rfl) ?_
                          refine z_if_eq (tgt := 180) C dX11_lays_140 (by decide) (by omega) (fun c_140 => ?_) (fun c_140 => ?_)
                          ·
                            refine lv_goto (tgt := 101) C.1 C.2.1 dX11_lays_180 (by decide) ?_
                            exact ih_101 0 m g3 f4 h2_125 (by first | exact Or.inl rfl | exact Or.inr ⟨rfl, by rw [show (-1 : Int) = z_125 by omega]; exact hz_125_0⟩) hm hg3 hf4 hz_125_2 (by first | exact hB3 | exact fun j j0 j1 => by rw [up_n _ _ (by omega)]; exact hB3 j j0 j1) (by first | exact hV3 | exact hVm) (by first | exact hN3 | exact fun j j0 j1 => (Int.lt_or_le j m).elim (fun q => by rw [up_n _ _ (by omega)]; exact NextR_congr (by first | exact (Int.lt_or_le 0 j).elim (fun r => Or.inl (by omega)) (fun r => Or.inr (hf6 (by omega)))) (by omega) (fun x x0 x1 => (up_n _ _ (by omega)).symm) (hN3 j j0 q)) (fun q => by rw [show j = m by omega, up_s]; exact NextR_congr (by first | exact (Int.lt_or_le 0 m).elim (fun r => Or.inl (by omega)) (fun r => Or.inr (hf6 (by omega)))) (by omega) (fun x x0 x1 => (up_n _ _ (by omega)).symm) hz_125_0)) (by first | exact hS3 | exact hz_167_0) (by omega) _ _ _ hW (lv_sub hl [0, 2, 3] rfl)
                          ·
                            exfalso; exact absurd c_140 (by decide)
                        ·
                          refine lv_iconst (v := iI 1) C.1 C.2.1 dX11_lays_133 rfl ?_
                          refine lv_goto (tgt := 138) C.1 C.2.1 dX11_lays_134 (by decide) ?_
                          refine lv_istore_n (lv' := [(2, .int (iI 1)), (3, .int (iI z_125)), (0, .ref x), (1, .int (iI rr))]) C.1 C.2.1 dX11_lays_138 rfl hl (by decide) rfl (fun ls hl => ?_)
                          refine lv_iload_n C.1 C.2.1 dX11_lays_139 rfl (lv_at hl 0 rfl) ?_
                          refine z_if_eq (tgt := 180) C dX11_lays_140 (by decide) (by omega) (fun c_140 => ?_) (fun c_140 => ?_)
                          ·
                            exfalso; exact absurd c_140 (by decide)
                          ·
                            refine lv_aload_n C.1 C.2.1 dX11_lays_143 rfl (lv_at hl 2 rfl) ?_
                            refine z_get C hK hW hin11 (v := .ref a8) 0 rfl rfl 8 (by decide) (C.2.2.2.2 (.fieldLink RX11 24 "TellingRowsModel" "row" "[I") (List.mem_of_getElem? (i := 6) rfl)) (fun _ h9 => h9) rfl dX11_lays_144 ?_
                            refine lv_aload_n C.1 C.2.1 dX11_lays_147 rfl (lv_at hl 2 rfl) ?_
                            refine z_get C hK hW hin11 (v := .int (iI m)) 0 rfl rfl 7 (by decide) (C.2.2.2.2 (.fieldLink RX11 101 "TellingRowsModel" "many" "I") (List.mem_of_getElem? (i := 3) rfl)) (fun _ h9 => h9) rfl dX11_lays_148 ?_
                            refine lv_iload_n C.1 C.2.1 dX11_lays_151 rfl (lv_at hl 1 rfl) ?_
                            refine z_iast C hK hW 2 rfl (by omega) (by omega) dX11_lays_152 (fun H locs hW => ?_)
                            have hbd_152 : BD (up g3 m z_125) := BD.up hg3 (by omega)
                            have hW : Wd G A s9.heap [(x, .inr (9, [.int (iI ln), .ref a1, .int (iI pl), .ref a3, .ref a4, .int (iI ri), .int (iI rr), .int (iI m), .ref a8, .ref a9, .int (iI nn), .ref a11, .int (iI fn), .ref a13, .int (iI lm), .ref a15, .ref a16, .ref a17, .ref a18, .ref a19, .ref a20])), (a3, .inl (G.2.1 0, 32, .inl (iA lw))), (a8, .inl (G.2.1 0, 2000, .inl (iA (up g3 m z_125)))), (a9, .inl (G.2.1 0, 60001, .inl (iA f4))), (a16, .inl (G.2.1 0, 5000, .inl (iA h2_125)))] H locs := hW
                            have hVm := VAL_up hV3 (v := z_125) (by omega)
                            have hSm := SeenQ_congr (g' := up g3 m z_125) (fun j j0 j1 => (up_n _ _ (by omega)).symm) hS3
                            refine lv_aload_n C.1 C.2.1 dX11_lays_153 rfl (lv_at hl 2 rfl) ?_
                            refine lv_aload_n C.1 C.2.1 dX11_lays_154 rfl (lv_at hl 2 rfl) ?_
                            refine z_get C hK hW hin11 (v := .ref a3) 0 rfl rfl 3 (by decide) (C.2.2.2.2 (.fieldLink RX11 13 "TellingRowsModel" "law" "[I") (List.mem_of_getElem? (i := 2) rfl)) (fun _ h9 => h9) rfl dX11_lays_155 ?_
                            refine lv_bipush (v := iI 8) C.1 C.2.1 dX11_lays_158 (by decide +kernel) ?_
                            refine lv_iload_n C.1 C.2.1 dX11_lays_160 rfl (lv_at hl 3 rfl) ?_
                            refine z_imul C dX11_lays_161 ?_
                            refine z_iald C hK hW 1 rfl (by omega) (by omega) dX11_lays_162 ?_
                            have hb_162 := hlw (8 * rr)
                            refine lv_aload_n C.1 C.2.1 dX11_lays_163 rfl (lv_at hl 2 rfl) ?_
                            refine z_get C hK hW hin11 (v := .int (iI m)) 0 rfl rfl 7 (by decide) (C.2.2.2.2 (.fieldLink RX11 101 "TellingRowsModel" "many" "I") (List.mem_of_getElem? (i := 3) rfl)) (fun _ h9 => h9) rfl dX11_lays_164 ?_
                            refine z_call (va_runV (As := [.int (iI (lw (8 * rr))), .int (iI m)]) (rest := []) C (c_X11_comes l G x ln a1 pl a3 a4 ri rr m a8 a9 nn a11 fn a13 lm a15 a16 a17 a18 a19 a20 (up g3 m z_125) f4 (lw (8 * rr)) m (by first | omega | assumption | (intros; first | rfl | omega | assumption | (and_intros <;> first | rfl | omega | assumption))) (by first | omega | assumption | (intros; first | rfl | omega | assumption | (and_intros <;> first | rfl | omega | assumption))) hVm hbd_152 hf4 hSm H.size) (cwV 2 C.2.2.2.2 gX11_lays_X11_comes rfl rfl rfl (by decide +kernel) ⟨Nat.le_of_ble_eq_true rfl, Nat.le_of_ble_eq_true rfl⟩) (z_preV hK hW hA [0, 2, 3] rfl (by decide) (ci := 9) (q0 := 0) rfl rfl) rfl rfl hl.1 rfl (lv_room (Nat.le_of_ble_eq_true rfl)) dX11_lays_167 ⟨Nat.zero_le _, Nat.zero_le _⟩) hW hA [0, 2, 3] rfl (by decide) (fun _ => rfl) (fun r u H locs hp hW => ?_)
                            obtain ⟨f2_167, rfl⟩ : ∃ q9, q9 = u := ⟨_, rfl⟩
                            have hp : r = none ∧ (SeenQ (lw (8 * rr)) (up g3 m z_125) (m + 1) f2_167) ∧ (BD f2_167) := hp
                            obtain ⟨rfl, hz_167_0, hz_167_1⟩ := hp
                            have hW : Wd G A s9.heap [(x, .inr (9, [.int (iI ln), .ref a1, .int (iI pl), .ref a3, .ref a4, .int (iI ri), .int (iI rr), .int (iI m), .ref a8, .ref a9, .int (iI nn), .ref a11, .int (iI fn), .ref a13, .int (iI lm), .ref a15, .ref a16, .ref a17, .ref a18, .ref a19, .ref a20])), (a3, .inl (G.2.1 0, 32, .inl (iA lw))), (a8, .inl (G.2.1 0, 2000, .inl (iA (up g3 m z_125)))), (a9, .inl (G.2.1 0, 60001, .inl (iA f2_167))), (a16, .inl (G.2.1 0, 5000, .inl (iA h2_125)))] H locs := hW
                            refine lv_aload_n C.1 C.2.1 dX11_lays_170 rfl (lv_at hl 2 rfl) ?_
                            refine lv_dup C.1 C.2.1 dX11_lays_171 rfl ?_
                            refine z_get C hK hW hin11 (v := .int (iI m)) 0 rfl rfl 7 (by decide) (C.2.2.2.2 (.fieldLink RX11 101 "TellingRowsModel" "many" "I") (List.mem_of_getElem? (i := 3) rfl)) (fun _ h9 => h9) rfl dX11_lays_172 ?_
                            refine lv_iconst (v := iI 1) C.1 C.2.1 dX11_lays_175 rfl ?_
                            refine z_iadd C dX11_lays_176 ?_
                            refine z_put C hK hW hin11 tyX11 tyX11_ok nmX11 0 rfl rfl 7 (by decide) (C.2.2.2.2 (.fieldLink RX11 101 "TellingRowsModel" "many" "I") (List.mem_of_getElem? (i := 3) rfl)) (fun _ h9 => h9) rfl rfl rfl (Nat.le_of_ble_eq_true rfl) dX11_lays_177 (fun H locs hW => ?_)
                            have hW : Wd G A s9.heap [(x, .inr (9, [.int (iI ln), .ref a1, .int (iI pl), .ref a3, .ref a4, .int (iI ri), .int (iI rr), .int (iI (m + 1)), .ref a8, .ref a9, .int (iI nn), .ref a11, .int (iI fn), .ref a13, .int (iI lm), .ref a15, .ref a16, .ref a17, .ref a18, .ref a19, .ref a20])), (a3, .inl (G.2.1 0, 32, .inl (iA lw))), (a8, .inl (G.2.1 0, 2000, .inl (iA (up g3 m z_125)))), (a9, .inl (G.2.1 0, 60001, .inl (iA f2_167))), (a16, .inl (G.2.1 0, 5000, .inl (iA h2_125)))] H locs := hW
                            refine lv_goto (tgt := 101) C.1 C.2.1 dX11_lays_180 (by decide) ?_
                            exact ih_101 1 (m + 1) (up g3 m z_125) f2_167 h2_125 (by first | exact Or.inl rfl | exact Or.inr ⟨rfl, by rw [show (-1 : Int) = z_125 by omega]; exact hz_125_0⟩) (by first | omega | assumption | (intros; first | rfl | omega | assumption | (and_intros <;> first | rfl | omega | assumption))) hbd_152 hz_167_1 hz_125_2 (by first | exact hB3 | exact fun j j0 j1 => by rw [up_n _ _ (by omega)]; exact hB3 j j0 j1) (by first | exact hV3 | exact hVm) (by first | exact hN3 | exact fun j j0 j1 => (Int.lt_or_le j m).elim (fun q => by rw [up_n _ _ (by omega)]; exact NextR_congr (by first | exact (Int.lt_or_le 0 j).elim (fun r => Or.inl (by omega)) (fun r => Or.inr (hf6 (by omega)))) (by omega) (fun x x0 x1 => (up_n _ _ (by omega)).symm) (hN3 j j0 q)) (fun q => by rw [show j = m by omega, up_s]; exact NextR_congr (by first | exact (Int.lt_or_le 0 m).elim (fun r => Or.inl (by omega)) (fun r => Or.inr (hf6 (by omega)))) (by omega) (fun x x0 x1 => (up_n _ _ (by omega)).symm) hz_125_0)) (by first | exact hS3 | exact hz_167_0) (by omega) _ _ _ hW (lv_sub hl [0, 2, 3] rfl)
                exact cut_101 (((2 * (2000 - (lw ((8 * rr) + 1))) + 1) + 1 : Int)).toNat 1 (lw ((8 * rr) + 1)) g1 f3 h (Or.inl rfl) (by first | omega | assumption | (intros; first | rfl | omega | assumption | (and_intros <;> first | rfl | omega | assumption))) hg1 hf3 hh (fun j j0 j1 => hB1 j j0 (by omega)) (fun j j0 j1 => hV1 j j0 (by omega)) (fun j j0 j1 => by omega) (by rw [show lw (8 * rr + 1) = k by omega]; exact hS1) (by omega) _ _ _ hW (lv_sub hl [0, 1, 2] rfl)
              ·
                refine lv_aload_n C.1 C.2.1 dX11_lays_60 rfl (lv_at hl 1 rfl) ?_
                refine z_get C hK hW hin11 (v := .ref a8) 0 rfl rfl 8 (by decide) (C.2.2.2.2 (.fieldLink RX11 24 "TellingRowsModel" "row" "[I") (List.mem_of_getElem? (i := 6) rfl)) (fun _ h9 => h9) rfl dX11_lays_61 ?_
                refine lv_iload_n C.1 C.2.1 dX11_lays_64 rfl (lv_at hl 0 rfl) ?_
                refine lv_aload_n C.1 C.2.1 dX11_lays_65 rfl (lv_at hl 1 rfl) ?_
                refine z_get C hK hW hin11 (v := .ref a3) 0 rfl rfl 3 (by decide) (C.2.2.2.2 (.fieldLink RX11 13 "TellingRowsModel" "law" "[I") (List.mem_of_getElem? (i := 2) rfl)) (fun _ h9 => h9) rfl dX11_lays_66 ?_
                refine lv_bipush (v := iI 8) C.1 C.2.1 dX11_lays_69 (by decide +kernel) ?_
                refine lv_iload_n C.1 C.2.1 dX11_lays_71 rfl (lv_at hl 2 rfl) ?_
                refine z_imul C dX11_lays_72 ?_
                refine lv_iconst (v := iI 2) C.1 C.2.1 dX11_lays_73 rfl ?_
                refine z_iadd C dX11_lays_74 ?_
                refine lv_iload_n C.1 C.2.1 dX11_lays_75 rfl (lv_at hl 0 rfl) ?_
                refine z_iadd C dX11_lays_76 ?_
                refine z_iald C hK hW 1 rfl (by omega) (by omega) dX11_lays_77 ?_
                have hb_77 := hlw (((8 * rr) + 2) + k)
                refine z_iast C hK hW 2 rfl (by omega) (by omega) dX11_lays_78 (fun H locs hW => ?_)
                have hbd_78 : BD (up g1 k (lw (((8 * rr) + 2) + k))) := BD.up hg1 (by omega)
                have hW : Wd G A s9.heap [(x, .inr (9, [.int (iI ln), .ref a1, .int (iI pl), .ref a3, .ref a4, .int (iI ri), .int (iI rr), .int (iI (lw ((8 * rr) + 1))), .ref a8, .ref a9, .int (iI nn), .ref a11, .int (iI fn), .ref a13, .int (iI lm), .ref a15, .ref a16, .ref a17, .ref a18, .ref a19, .ref a20])), (a3, .inl (G.2.1 0, 32, .inl (iA lw))), (a8, .inl (G.2.1 0, 2000, .inl (iA (up g1 k (lw (((8 * rr) + 2) + k)))))), (a9, .inl (G.2.1 0, 60001, .inl (iA f3))), (a16, .inl (G.2.1 0, 5000, .inl (iA h)))] H locs := hW
                have hVk := VAL_up hV1 (v := lw (8 * rr + 2 + k)) (by have := hsv k (by omega) (by omega); omega)
                have hSk := SeenQ_congr (g' := up g1 k (lw (8 * rr + 2 + k))) (fun j j0 j1 => (up_n _ _ (by omega)).symm) hS1
                refine lv_aload_n C.1 C.2.1 dX11_lays_79 rfl (lv_at hl 1 rfl) ?_
                refine lv_aload_n C.1 C.2.1 dX11_lays_80 rfl (lv_at hl 1 rfl) ?_
                refine z_get C hK hW hin11 (v := .ref a3) 0 rfl rfl 3 (by decide) (C.2.2.2.2 (.fieldLink RX11 13 "TellingRowsModel" "law" "[I") (List.mem_of_getElem? (i := 2) rfl)) (fun _ h9 => h9) rfl dX11_lays_81 ?_
                refine lv_bipush (v := iI 8) C.1 C.2.1 dX11_lays_84 (by decide +kernel) ?_
                refine lv_iload_n C.1 C.2.1 dX11_lays_86 rfl (lv_at hl 2 rfl) ?_
                refine z_imul C dX11_lays_87 ?_
                refine z_iald C hK hW 1 rfl (by omega) (by omega) dX11_lays_88 ?_
                have hb_88 := hlw (8 * rr)
                refine lv_iload_n C.1 C.2.1 dX11_lays_89 rfl (lv_at hl 0 rfl) ?_
                refine z_call (va_runV (As := [.int (iI (lw (8 * rr))), .int (iI k)]) (rest := []) C (c_X11_comes l G x ln a1 pl a3 a4 ri rr (lw ((8 * rr) + 1)) a8 a9 nn a11 fn a13 lm a15 a16 a17 a18 a19 a20 (up g1 k (lw (((8 * rr) + 2) + k))) f3 (lw (8 * rr)) k (by first | omega | assumption | (intros; first | rfl | omega | assumption | (and_intros <;> first | rfl | omega | assumption))) (by first | omega | assumption | (intros; first | rfl | omega | assumption | (and_intros <;> first | rfl | omega | assumption))) hVk hbd_78 hf3 hSk H.size) (cwV 2 C.2.2.2.2 gX11_lays_X11_comes rfl rfl rfl (by decide +kernel) ⟨Nat.le_of_ble_eq_true rfl, Nat.le_of_ble_eq_true rfl⟩) (z_preV hK hW hA [0, 2, 3] rfl (by decide) (ci := 9) (q0 := 0) rfl rfl) rfl rfl hl.1 rfl (lv_room (Nat.le_of_ble_eq_true rfl)) dX11_lays_90 ⟨Nat.zero_le _, Nat.zero_le _⟩) hW hA [0, 2, 3] rfl (by decide) (fun _ => rfl) (fun r u H locs hp hW => ?_)
                obtain ⟨f2_90, rfl⟩ : ∃ q9, q9 = u := ⟨_, rfl⟩
                have hp : r = none ∧ (SeenQ (lw (8 * rr)) (up g1 k (lw (((8 * rr) + 2) + k))) (k + 1) f2_90) ∧ (BD f2_90) := hp
                obtain ⟨rfl, hz_90_0, hz_90_1⟩ := hp
                have hW : Wd G A s9.heap [(x, .inr (9, [.int (iI ln), .ref a1, .int (iI pl), .ref a3, .ref a4, .int (iI ri), .int (iI rr), .int (iI (lw ((8 * rr) + 1))), .ref a8, .ref a9, .int (iI nn), .ref a11, .int (iI fn), .ref a13, .int (iI lm), .ref a15, .ref a16, .ref a17, .ref a18, .ref a19, .ref a20])), (a3, .inl (G.2.1 0, 32, .inl (iA lw))), (a8, .inl (G.2.1 0, 2000, .inl (iA (up g1 k (lw (((8 * rr) + 2) + k)))))), (a9, .inl (G.2.1 0, 60001, .inl (iA f2_90))), (a16, .inl (G.2.1 0, 5000, .inl (iA h)))] H locs := hW
                refine lv_iinc (v := iI (k + 1)) (lv' := [(2, .int (iI (k + 1))), (0, .ref x), (1, .int (iI rr))]) C.1 C.2.1 dX11_lays_93 hl (k := 0) rfl (iI_add _ _) (by decide) rfl (fun ls hl => ?_)
                refine lv_goto (tgt := 52) C.1 C.2.1 dX11_lays_96 (by decide) ?_
                exact ih_52 (k + 1) (up g1 k (lw (((8 * rr) + 2) + k))) f2_90 (by first | omega | assumption | (intros; first | rfl | omega | assumption | (and_intros <;> first | rfl | omega | assumption))) hbd_78 hz_90_1 (fun j j0 j1 => if q : j = k then (by rw [q, up_s]) else (by rw [up_n _ _ q]; exact hB1 j j0 (by omega))) hVk hz_90_0 (by omega) _ _ _ hW (lv_sub hl [0, 1, 2] rfl)
          exact cut_52 (((lw (8 * rr + 1) - 0) + 1 : Int)).toNat 0 g f1 (by first | omega | assumption | (intros; first | rfl | omega | assumption | (and_intros <;> first | rfl | omega | assumption))) hg hf1 (fun j j0 j1 => by omega) (fun j j0 j1 => by omega) (SeenQ_0 (fun v v0 v1 => hz0 v v0 (by omega))) (by omega) _ _ _ hW (lv_sub hl [0, 1, 2] rfl)
        ·
          refine lv_aload_n C.1 C.2.1 dX11_lays_37 rfl (lv_at hl 1 rfl) ?_
          refine z_get C hK hW hin11 (v := .ref a9) 0 rfl rfl 9 (by decide) (C.2.2.2.2 (.fieldLink RX11 28 "TellingRowsModel" "seen" "[I") (List.mem_of_getElem? (i := 5) rfl)) (fun _ h9 => h9) rfl dX11_lays_38 ?_
          refine lv_iload_n C.1 C.2.1 dX11_lays_41 rfl (lv_at hl 0 rfl) ?_
          refine lv_iconst (v := iI 0) C.1 C.2.1 dX11_lays_42 rfl ?_
          refine z_iast C hK hW 3 rfl (by omega) (by omega) dX11_lays_43 (fun H locs hW => ?_)
          have hbd_43 : BD (up f1 q 0) := BD.up hf1 (by omega)
          have hW : Wd G A s9.heap [(x, .inr (9, [.int (iI ln), .ref a1, .int (iI pl), .ref a3, .ref a4, .int (iI ri), .int (iI rr), .int (iI (lw ((8 * rr) + 1))), .ref a8, .ref a9, .int (iI nn), .ref a11, .int (iI fn), .ref a13, .int (iI lm), .ref a15, .ref a16, .ref a17, .ref a18, .ref a19, .ref a20])), (a3, .inl (G.2.1 0, 32, .inl (iA lw))), (a8, .inl (G.2.1 0, 2000, .inl (iA g))), (a9, .inl (G.2.1 0, 60001, .inl (iA (up f1 q 0)))), (a16, .inl (G.2.1 0, 5000, .inl (iA h)))] H locs := hW
          refine lv_iinc (v := iI (q + 1)) (lv' := [(2, .int (iI (q + 1))), (0, .ref x), (1, .int (iI rr))]) C.1 C.2.1 dX11_lays_44 hl (k := 0) rfl (iI_add _ _) (by decide) rfl (fun ls hl => ?_)
          refine lv_goto (tgt := 31) C.1 C.2.1 dX11_lays_47 (by decide) ?_
          exact ih_31 (q + 1) (up f1 q 0) (by first | omega | assumption | (intros; first | rfl | omega | assumption | (and_intros <;> first | rfl | omega | assumption))) hbd_43 (fun j j0 j1 => if r9 : j = q then (by rw [r9, up_s]) else (by rw [up_n _ _ r9]; exact hz0 j j0 (by omega))) (by omega) _ _ _ hW (lv_sub hl [0, 1, 2] rfl)
    exact cut_31 (((60001 - 0) + 1 : Int)).toNat 0 f (by first | omega | assumption | (intros; first | rfl | omega | assumption | (and_intros <;> first | rfl | omega | assumption))) hf (fun j j0 j1 => by omega) (by omega) _ _ _ hW (lv_sub hl [0, 1, 2] rfl)
  ·
    have hld : rr = ld := by omega
    subst hld
    rw [hQ]
    have hP9 : (none : Option Value) = none ∧ (RowL lw rr mn g) ∧ (BD g) ∧ (BD f) ∧ (BD h) := ⟨rfl, (hLd.elim (fun q => by omega) (fun q => q.2)), hg, hf, hh⟩
    exact z_vret C hr hlocks hW (mn, g, f, h) rfl hP9 dX11_lays_8
set_option maxHeartbeats 4000000 in
set_option maxRecDepth 100000 in
/-- X11_at -/
theorem c_X11_at (l : Launch) (G : GG) (x : Nat) (ln : Int) (a1 : Nat) (pl : Int) (a3 : Nat) (a4 : Nat) (ri : Int) (ld : Int) (mn : Int) (a8 : Nat) (a9 : Nat) (nn : Int) (a11 : Nat) (fn : Int) (a13 : Nat) (lm : Int) (a15 : Nat) (a16 : Nat) (a17 : Nat) (a18 : Nat) (a19 : Nat) (a20 : Nat) (lw : Int → Int) (g : Int → Int) (f : Int → Int) (h : Int → Int) (rr : Int) (i : Int) (hLw : LawR lw) (hlw : BD lw) (hg : BD g) (hf : BD f) (hh : BD h) (hLd : LaidR lw ld mn g) (hrr : -2147483648 ≤ rr ∧ rr ≤ 2147483647) (hi : -2147483648 ≤ i ∧ i ≤ 2147483647) : MQc l yX11_at wsX11_at 4 G [.ref x, .int (iI rr), .int (iI i)] [(x, .inr (9, [.int (iI ln), .ref a1, .int (iI pl), .ref a3, .ref a4, .int (iI ri), .int (iI ld), .int (iI mn), .ref a8, .ref a9, .int (iI nn), .ref a11, .int (iI fn), .ref a13, .int (iI lm), .ref a15, .ref a16, .ref a17, .ref a18, .ref a19, .ref a20])), (a3, .inl (G.2.1 0, 32, .inl (iA lw))), (a8, .inl (G.2.1 0, 2000, .inl (iA g))), (a9, .inl (G.2.1 0, 60001, .inl (iA f))), (a16, .inl (G.2.1 0, 5000, .inl (iA h)))] (fun r (u : Int × Int × (Int → Int) × (Int → Int) × (Int → Int)) => ∃ z : Int, r = some (.int (iI z)) ∧ ((0 ≤ rr ∧ rr ≤ 3) ∧ (0 ≤ i ∧ i ≤ 1999) → RowL lw rr u.2.1 u.2.2.1 ∧ (i < u.2.1 → z = u.2.2.1 i) ∧ (u.2.1 ≤ i → z = -4)) ∧ (¬ ((0 ≤ rr ∧ rr ≤ 3) ∧ (0 ≤ i ∧ i ≤ 1999)) → z = -1) ∧ (LaidR lw u.1 u.2.1 u.2.2.1) ∧ (BD u.2.2.1) ∧ (BD u.2.2.2.1) ∧ (BD u.2.2.2.2)) (fun u => [(x, .inr (9, [.int (iI ln), .ref a1, .int (iI pl), .ref a3, .ref a4, .int (iI ri), .int (iI u.1), .int (iI u.2.1), .ref a8, .ref a9, .int (iI nn), .ref a11, .int (iI fn), .ref a13, .int (iI lm), .ref a15, .ref a16, .ref a17, .ref a18, .ref a19, .ref a20])), (a3, .inl (G.2.1 0, 32, .inl (iA lw))), (a8, .inl (G.2.1 0, 2000, .inl (iA u.2.2.1))), (a9, .inl (G.2.1 0, 60001, .inl (iA u.2.2.2.1))), (a16, .inl (G.2.1 0, 5000, .inl (iA u.2.2.2.2)))]) := by
  refine MQc.start (own := RX11) (by decide) rfl rfl (Nat.le_of_ble_eq_true rfl) ?_
  intro p9 e9 s9 m9 args below meth c9 A Q C hK hW hA hr hlocks hQ ls hl
  have hl : lv_has ls 3 [(0, .ref x), (1, .int (iI rr)), (2, .int (iI i))] := hl
  have hin11 : ∀ w ∈ wsX110, w ∈ wsX11_at := by decide +kernel
  refine lv_iload_n C.1 C.2.1 dX11_at_0 rfl (lv_at hl 1 rfl) ?_
  refine z_callR (va_runS (As := [.int (iI rr)]) (rest := []) C (c_X11_isRegister l G rr hrr s9.heap.size) (va_cwS 1 C.2.2.2.2 gX11_at_X11_isRegister rfl rfl rfl (by decide +kernel) ⟨Nat.le_of_ble_eq_true rfl, Nat.le_of_ble_eq_true rfl⟩) (z_preS hK hW hA [] rfl (by decide)) rfl rfl hl.1 rfl (lv_room (Nat.le_of_ble_eq_true rfl)) dX11_at_1 ⟨Nat.zero_le _, Nat.zero_le _⟩) (fun r hp => ?_)
  have hp : ∃ z : Int, r = some (.int (iI z)) ∧ ((z = 1 ∧ (0 ≤ rr ∧ rr ≤ 3)) ∨ (z = 0 ∧ ¬ (0 ≤ rr ∧ rr ≤ 3))) := hp
  obtain ⟨z_1, rfl, hz_1_0⟩ := hp
  refine z_if_eq (tgt := 19) C dX11_at_4 (by decide) (by omega) (fun c_4 => ?_) (fun c_4 => ?_)
  ·
    refine lv_iconst (v := iI (-1)) C.1 C.2.1 dX11_at_19 rfl ?_
    rw [hQ]
    have hP9 : ∃ z : Int, (some (Value.int (iI (-1)))) = some (.int (iI z)) ∧ ((0 ≤ rr ∧ rr ≤ 3) ∧ (0 ≤ i ∧ i ≤ 1999) → RowL lw rr mn g ∧ (i < mn → z = g i) ∧ (mn ≤ i → z = -4)) ∧ (¬ ((0 ≤ rr ∧ rr ≤ 3) ∧ (0 ≤ i ∧ i ≤ 1999)) → z = -1) ∧ (LaidR lw ld mn g) ∧ (BD g) ∧ (BD f) ∧ (BD h) := ⟨_, rfl, (fun q9 => by omega), (fun _ => rfl), hLd, hg, hf, hh⟩
    exact z_iret C hr hlocks hW (ld, mn, g, f, h) rfl hP9 dX11_at_20
  ·
    refine lv_iload_n C.1 C.2.1 dX11_at_7 rfl (lv_at hl 2 rfl) ?_
    refine z_i2l C dX11_at_8 (by omega) ?_
    refine lv_lconst (v := lI 0) C.1 C.2.1 dX11_at_9 rfl ?_
    refine z_ldc2 (z := 1999) C (C.2.2.2.2 (.constantLong RX11 123 (1999)) (List.mem_of_getElem? (i := 1) rfl)) (by decide +kernel) dX11_at_10 ?_
    refine z_callR (va_runS (As := [.long (lI i), .long (lI 0), .long (lI 1999)]) (rest := []) C (c_X11_in l G i 0 1999 (by first | omega | assumption | (intros; first | rfl | omega | assumption | (and_intros <;> first | rfl | omega | assumption))) (by first | omega | assumption | (intros; first | rfl | omega | assumption | (and_intros <;> first | rfl | omega | assumption))) (by first | omega | assumption | (intros; first | rfl | omega | assumption | (and_intros <;> first | rfl | omega | assumption))) s9.heap.size) (va_cwS 3 C.2.2.2.2 gX11_at_X11_in rfl rfl rfl (by decide +kernel) ⟨Nat.le_of_ble_eq_true rfl, Nat.le_of_ble_eq_true rfl⟩) (z_preS hK hW hA [] rfl (by decide)) rfl rfl hl.1 rfl (lv_room (Nat.le_of_ble_eq_true rfl)) dX11_at_13 ⟨Nat.zero_le _, Nat.zero_le _⟩) (fun r hp => ?_)
    have hp : ∃ z : Int, r = some (.int (iI z)) ∧ ((z = 1 ∧ ((0 : Int) ≤ i ∧ i ≤ (1999 : Int))) ∨ (z = 0 ∧ ¬ ((0 : Int) ≤ i ∧ i ≤ (1999 : Int)))) := hp
    obtain ⟨z_13, rfl, hz_13_0⟩ := hp
    refine z_if_ne (tgt := 21) C dX11_at_16 (by decide) (by omega) (fun c_16 => ?_) (fun c_16 => ?_)
    ·
      refine lv_aload_n C.1 C.2.1 dX11_at_21 rfl (lv_at hl 0 rfl) ?_
      refine lv_iload_n C.1 C.2.1 dX11_at_22 rfl (lv_at hl 1 rfl) ?_
      refine z_call (va_runV (As := [.int (iI rr)]) (rest := []) C (c_X11_lays l G x ln a1 pl a3 a4 ri ld mn a8 a9 nn a11 fn a13 lm a15 a16 a17 a18 a19 a20 lw g f h rr hLw hlw hg hf hh hLd (by first | omega | assumption | (intros; first | rfl | omega | assumption | (and_intros <;> first | rfl | omega | assumption))) s9.heap.size) (cwV 1 C.2.2.2.2 gX11_at_X11_lays rfl rfl rfl (by decide +kernel) ⟨Nat.le_of_ble_eq_true rfl, Nat.le_of_ble_eq_true rfl⟩) (z_preV hK hW hA [0, 1, 2, 3, 4] rfl (by decide) (ci := 9) (q0 := 0) rfl rfl) rfl rfl hl.1 rfl (lv_room (Nat.le_of_ble_eq_true rfl)) dX11_at_23 ⟨Nat.zero_le _, Nat.zero_le _⟩) hW hA [0, 1, 2, 3, 4] rfl (by decide) (fun _ => rfl) (fun r u H locs hp hW => ?_)
      obtain ⟨mn2_23, g2_23, f2_23, h2_23⟩ := u
      have hp : r = none ∧ (RowL lw rr mn2_23 g2_23) ∧ (BD g2_23) ∧ (BD f2_23) ∧ (BD h2_23) := hp
      obtain ⟨rfl, hz_23_0, hz_23_1, hz_23_2, hz_23_3⟩ := hp
      have hW : Wd G A s9.heap [(x, .inr (9, [.int (iI ln), .ref a1, .int (iI pl), .ref a3, .ref a4, .int (iI ri), .int (iI rr), .int (iI mn2_23), .ref a8, .ref a9, .int (iI nn), .ref a11, .int (iI fn), .ref a13, .int (iI lm), .ref a15, .ref a16, .ref a17, .ref a18, .ref a19, .ref a20])), (a3, .inl (G.2.1 0, 32, .inl (iA lw))), (a8, .inl (G.2.1 0, 2000, .inl (iA g2_23))), (a9, .inl (G.2.1 0, 60001, .inl (iA f2_23))), (a16, .inl (G.2.1 0, 5000, .inl (iA h2_23)))] H locs := hW
      have hr99 : 0 ≤ rr ∧ rr ≤ 3 := by omega
      have hRb := RowL_b hz_23_0
      have hRm := hRb.1
      have hV9 := hRb.2
      refine lv_iload_n C.1 C.2.1 dX11_at_26 rfl (lv_at hl 2 rfl) ?_
      refine lv_aload_n C.1 C.2.1 dX11_at_27 rfl (lv_at hl 0 rfl) ?_
      refine z_get C hK hW hin11 (v := .int (iI mn2_23)) 0 rfl rfl 7 (by decide) (C.2.2.2.2 (.fieldLink RX11 101 "TellingRowsModel" "many" "I") (List.mem_of_getElem? (i := 2) rfl)) (fun _ h9 => h9) rfl dX11_at_28 ?_
      refine z_icmp_ge (tgt := 43) C dX11_at_31 (by decide) (by omega) (fun c_31 => ?_) (fun c_31 => ?_)
      ·
        refine lv_bipush (v := iI (-4)) C.1 C.2.1 dX11_at_43 (by decide +kernel) ?_
        rw [hQ]
        have hP9 : ∃ z : Int, (some (Value.int (iI (-4)))) = some (.int (iI z)) ∧ ((0 ≤ rr ∧ rr ≤ 3) ∧ (0 ≤ i ∧ i ≤ 1999) → RowL lw rr mn2_23 g2_23 ∧ (i < mn2_23 → z = g2_23 i) ∧ (mn2_23 ≤ i → z = -4)) ∧ (¬ ((0 ≤ rr ∧ rr ≤ 3) ∧ (0 ≤ i ∧ i ≤ 1999)) → z = -1) ∧ (LaidR lw rr mn2_23 g2_23) ∧ (BD g2_23) ∧ (BD f2_23) ∧ (BD h2_23) := ⟨_, rfl, (fun _ => ⟨hz_23_0, fun q9 => by first | rfl | omega, fun q9 => by first | rfl | omega⟩), (fun q9 => by first | omega | (exfalso; apply q9; omega)), (Or.inr ⟨hr99, hz_23_0⟩), hz_23_1, hz_23_2, hz_23_3⟩
        exact z_iret C hr hlocks hW (rr, mn2_23, g2_23, f2_23, h2_23) rfl hP9 dX11_at_45
      ·
        refine lv_aload_n C.1 C.2.1 dX11_at_34 rfl (lv_at hl 0 rfl) ?_
        refine z_get C hK hW hin11 (v := .ref a8) 0 rfl rfl 8 (by decide) (C.2.2.2.2 (.fieldLink RX11 24 "TellingRowsModel" "row" "[I") (List.mem_of_getElem? (i := 3) rfl)) (fun _ h9 => h9) rfl dX11_at_35 ?_
        refine lv_iload_n C.1 C.2.1 dX11_at_38 rfl (lv_at hl 2 rfl) ?_
        refine z_iald C hK hW 2 rfl (by omega) (by omega) dX11_at_39 ?_
        have hb_39 := hz_23_1 i
        refine lv_goto (tgt := 45) C.1 C.2.1 dX11_at_40 (by decide) ?_
        rw [hQ]
        have hP9 : ∃ z : Int, (some (Value.int (iI (g2_23 i)))) = some (.int (iI z)) ∧ ((0 ≤ rr ∧ rr ≤ 3) ∧ (0 ≤ i ∧ i ≤ 1999) → RowL lw rr mn2_23 g2_23 ∧ (i < mn2_23 → z = g2_23 i) ∧ (mn2_23 ≤ i → z = -4)) ∧ (¬ ((0 ≤ rr ∧ rr ≤ 3) ∧ (0 ≤ i ∧ i ≤ 1999)) → z = -1) ∧ (LaidR lw rr mn2_23 g2_23) ∧ (BD g2_23) ∧ (BD f2_23) ∧ (BD h2_23) := ⟨_, rfl, (fun _ => ⟨hz_23_0, fun q9 => by first | rfl | omega, fun q9 => by first | rfl | omega⟩), (fun q9 => by first | omega | (exfalso; apply q9; omega)), (Or.inr ⟨hr99, hz_23_0⟩), hz_23_1, hz_23_2, hz_23_3⟩
        exact z_iret C hr hlocks hW (rr, mn2_23, g2_23, f2_23, h2_23) rfl hP9 dX11_at_45
    ·
      refine lv_iconst (v := iI (-1)) C.1 C.2.1 dX11_at_19 rfl ?_
      rw [hQ]
      have hP9 : ∃ z : Int, (some (Value.int (iI (-1)))) = some (.int (iI z)) ∧ ((0 ≤ rr ∧ rr ≤ 3) ∧ (0 ≤ i ∧ i ≤ 1999) → RowL lw rr mn g ∧ (i < mn → z = g i) ∧ (mn ≤ i → z = -4)) ∧ (¬ ((0 ≤ rr ∧ rr ≤ 3) ∧ (0 ≤ i ∧ i ≤ 1999)) → z = -1) ∧ (LaidR lw ld mn g) ∧ (BD g) ∧ (BD f) ∧ (BD h) := ⟨_, rfl, (fun q9 => by omega), (fun _ => rfl), hLd, hg, hf, hh⟩
      exact z_iret C hr hlocks hW (ld, mn, g, f, h) rfl hP9 dX11_at_20
set_option maxHeartbeats 4000000 in
set_option maxRecDepth 100000 in
/-- X11_first -/
theorem c_X11_first (l : Launch) (G : GG) (x : Nat) (ln : Int) (a1 : Nat) (pl : Int) (a3 : Nat) (a4 : Nat) (ri : Int) (ld : Int) (mn : Int) (a8 : Nat) (a9 : Nat) (nn : Int) (a11 : Nat) (fn : Int) (a13 : Nat) (lm : Int) (a15 : Nat) (a16 : Nat) (a17 : Nat) (a18 : Nat) (a19 : Nat) (a20 : Nat) (lw : Int → Int) (g : Int → Int) (f : Int → Int) (h : Int → Int) (rr : Int) (v : Int) (hLw : LawR lw) (hlw : BD lw) (hg : BD g) (hf : BD f) (hh : BD h) (hLd : LaidR lw ld mn g) (hrr : -2147483648 ≤ rr ∧ rr ≤ 2147483647) (hv : -2147483648 ≤ v ∧ v ≤ 2147483647) : MQc l yX11_first wsX11_first 4 G [.ref x, .int (iI rr), .int (iI v)] [(x, .inr (9, [.int (iI ln), .ref a1, .int (iI pl), .ref a3, .ref a4, .int (iI ri), .int (iI ld), .int (iI mn), .ref a8, .ref a9, .int (iI nn), .ref a11, .int (iI fn), .ref a13, .int (iI lm), .ref a15, .ref a16, .ref a17, .ref a18, .ref a19, .ref a20])), (a3, .inl (G.2.1 0, 32, .inl (iA lw))), (a8, .inl (G.2.1 0, 2000, .inl (iA g))), (a9, .inl (G.2.1 0, 60001, .inl (iA f))), (a16, .inl (G.2.1 0, 5000, .inl (iA h)))] (fun r (u : Int × Int × (Int → Int) × (Int → Int) × (Int → Int)) => ∃ z : Int, r = some (.int (iI z)) ∧ ((0 ≤ rr ∧ rr ≤ 3) ∧ (0 ≤ v ∧ v ≤ 60000) → RowL lw rr u.2.1 u.2.2.1 ∧ FirstR u.2.2.1 u.2.1 v z) ∧ (¬ ((0 ≤ rr ∧ rr ≤ 3) ∧ (0 ≤ v ∧ v ≤ 60000)) → z = -1) ∧ (LaidR lw u.1 u.2.1 u.2.2.1) ∧ (BD u.2.2.1) ∧ (BD u.2.2.2.1) ∧ (BD u.2.2.2.2)) (fun u => [(x, .inr (9, [.int (iI ln), .ref a1, .int (iI pl), .ref a3, .ref a4, .int (iI ri), .int (iI u.1), .int (iI u.2.1), .ref a8, .ref a9, .int (iI nn), .ref a11, .int (iI fn), .ref a13, .int (iI lm), .ref a15, .ref a16, .ref a17, .ref a18, .ref a19, .ref a20])), (a3, .inl (G.2.1 0, 32, .inl (iA lw))), (a8, .inl (G.2.1 0, 2000, .inl (iA u.2.2.1))), (a9, .inl (G.2.1 0, 60001, .inl (iA u.2.2.2.1))), (a16, .inl (G.2.1 0, 5000, .inl (iA u.2.2.2.2)))]) := by
  refine MQc.start (own := RX11) (by decide) rfl rfl (Nat.le_of_ble_eq_true rfl) ?_
  intro p9 e9 s9 m9 args below meth c9 A Q C hK hW hA hr hlocks hQ ls hl
  have hl : lv_has ls 4 [(0, .ref x), (1, .int (iI rr)), (2, .int (iI v))] := hl
  have hin11 : ∀ w ∈ wsX110, w ∈ wsX11_first := by decide +kernel
  refine lv_iload_n C.1 C.2.1 dX11_first_0 rfl (lv_at hl 1 rfl) ?_
  refine z_callR (va_runS (As := [.int (iI rr)]) (rest := []) C (c_X11_isRegister l G rr hrr s9.heap.size) (va_cwS 1 C.2.2.2.2 gX11_first_X11_isRegister rfl rfl rfl (by decide +kernel) ⟨Nat.le_of_ble_eq_true rfl, Nat.le_of_ble_eq_true rfl⟩) (z_preS hK hW hA [] rfl (by decide)) rfl rfl hl.1 rfl (lv_room (Nat.le_of_ble_eq_true rfl)) dX11_first_1 ⟨Nat.zero_le _, Nat.zero_le _⟩) (fun r hp => ?_)
  have hp : ∃ z : Int, r = some (.int (iI z)) ∧ ((z = 1 ∧ (0 ≤ rr ∧ rr ≤ 3)) ∨ (z = 0 ∧ ¬ (0 ≤ rr ∧ rr ≤ 3))) := hp
  obtain ⟨z_1, rfl, hz_1_0⟩ := hp
  refine z_if_eq (tgt := 19) C dX11_first_4 (by decide) (by omega) (fun c_4 => ?_) (fun c_4 => ?_)
  ·
    refine lv_iconst (v := iI (-1)) C.1 C.2.1 dX11_first_19 rfl ?_
    rw [hQ]
    have hP9 : ∃ z : Int, (some (Value.int (iI (-1)))) = some (.int (iI z)) ∧ ((0 ≤ rr ∧ rr ≤ 3) ∧ (0 ≤ v ∧ v ≤ 60000) → RowL lw rr mn g ∧ FirstR g mn v z) ∧ (¬ ((0 ≤ rr ∧ rr ≤ 3) ∧ (0 ≤ v ∧ v ≤ 60000)) → z = -1) ∧ (LaidR lw ld mn g) ∧ (BD g) ∧ (BD f) ∧ (BD h) := ⟨_, rfl, (fun q9 => by omega), (fun _ => rfl), hLd, hg, hf, hh⟩
    exact z_iret C hr hlocks hW (ld, mn, g, f, h) rfl hP9 dX11_first_20
  ·
    refine lv_iload_n C.1 C.2.1 dX11_first_7 rfl (lv_at hl 2 rfl) ?_
    refine z_i2l C dX11_first_8 (by omega) ?_
    refine lv_lconst (v := lI 0) C.1 C.2.1 dX11_first_9 rfl ?_
    refine z_ldc2 (z := 60000) C (C.2.2.2.2 (.constantLong RX11 129 (60000)) (List.mem_of_getElem? (i := 1) rfl)) (by decide +kernel) dX11_first_10 ?_
    refine z_callR (va_runS (As := [.long (lI v), .long (lI 0), .long (lI 60000)]) (rest := []) C (c_X11_in l G v 0 60000 (by first | omega | assumption | (intros; first | rfl | omega | assumption | (and_intros <;> first | rfl | omega | assumption))) (by first | omega | assumption | (intros; first | rfl | omega | assumption | (and_intros <;> first | rfl | omega | assumption))) (by first | omega | assumption | (intros; first | rfl | omega | assumption | (and_intros <;> first | rfl | omega | assumption))) s9.heap.size) (va_cwS 3 C.2.2.2.2 gX11_first_X11_in rfl rfl rfl (by decide +kernel) ⟨Nat.le_of_ble_eq_true rfl, Nat.le_of_ble_eq_true rfl⟩) (z_preS hK hW hA [] rfl (by decide)) rfl rfl hl.1 rfl (lv_room (Nat.le_of_ble_eq_true rfl)) dX11_first_13 ⟨Nat.zero_le _, Nat.zero_le _⟩) (fun r hp => ?_)
    have hp : ∃ z : Int, r = some (.int (iI z)) ∧ ((z = 1 ∧ ((0 : Int) ≤ v ∧ v ≤ (60000 : Int))) ∨ (z = 0 ∧ ¬ ((0 : Int) ≤ v ∧ v ≤ (60000 : Int)))) := hp
    obtain ⟨z_13, rfl, hz_13_0⟩ := hp
    refine z_if_ne (tgt := 21) C dX11_first_16 (by decide) (by omega) (fun c_16 => ?_) (fun c_16 => ?_)
    ·
      refine lv_aload_n C.1 C.2.1 dX11_first_21 rfl (lv_at hl 0 rfl) ?_
      refine lv_iload_n C.1 C.2.1 dX11_first_22 rfl (lv_at hl 1 rfl) ?_
      refine z_call (va_runV (As := [.int (iI rr)]) (rest := []) C (c_X11_lays l G x ln a1 pl a3 a4 ri ld mn a8 a9 nn a11 fn a13 lm a15 a16 a17 a18 a19 a20 lw g f h rr hLw hlw hg hf hh hLd (by first | omega | assumption | (intros; first | rfl | omega | assumption | (and_intros <;> first | rfl | omega | assumption))) s9.heap.size) (cwV 1 C.2.2.2.2 gX11_first_X11_lays rfl rfl rfl (by decide +kernel) ⟨Nat.le_of_ble_eq_true rfl, Nat.le_of_ble_eq_true rfl⟩) (z_preV hK hW hA [0, 1, 2, 3, 4] rfl (by decide) (ci := 9) (q0 := 0) rfl rfl) rfl rfl hl.1 rfl (lv_room (Nat.le_of_ble_eq_true rfl)) dX11_first_23 ⟨Nat.zero_le _, Nat.zero_le _⟩) hW hA [0, 1, 2, 3, 4] rfl (by decide) (fun _ => rfl) (fun r u H locs hp hW => ?_)
      obtain ⟨mn2_23, g2_23, f2_23, h2_23⟩ := u
      have hp : r = none ∧ (RowL lw rr mn2_23 g2_23) ∧ (BD g2_23) ∧ (BD f2_23) ∧ (BD h2_23) := hp
      obtain ⟨rfl, hz_23_0, hz_23_1, hz_23_2, hz_23_3⟩ := hp
      have hW : Wd G A s9.heap [(x, .inr (9, [.int (iI ln), .ref a1, .int (iI pl), .ref a3, .ref a4, .int (iI ri), .int (iI rr), .int (iI mn2_23), .ref a8, .ref a9, .int (iI nn), .ref a11, .int (iI fn), .ref a13, .int (iI lm), .ref a15, .ref a16, .ref a17, .ref a18, .ref a19, .ref a20])), (a3, .inl (G.2.1 0, 32, .inl (iA lw))), (a8, .inl (G.2.1 0, 2000, .inl (iA g2_23))), (a9, .inl (G.2.1 0, 60001, .inl (iA f2_23))), (a16, .inl (G.2.1 0, 5000, .inl (iA h2_23)))] H locs := hW
      have hr99 : 0 ≤ rr ∧ rr ≤ 3 := by omega
      have hRb := RowL_b hz_23_0
      have hRm := hRb.1
      have hV9 := hRb.2
      refine lv_iconst (v := iI 0) C.1 C.2.1 dX11_first_26 rfl ?_
      refine lv_istore_n (lv' := [(3, .int (iI 0)), (0, .ref x), (1, .int (iI rr)), (2, .int (iI v))]) C.1 C.2.1 dX11_first_27 rfl hl (by decide) rfl (fun ls hl => ?_)
      have cut_28 : ∀ (n9 : Nat) (k : Int), (0 ≤ k ∧ k ≤ mn2_23) → (∀ j, 0 ≤ j → j < k → g2_23 j ≠ v) → (mn2_23 - k < (n9 : Int)) → ∀ (H : Heap) (locs : List Loc) (ls : Array Slot), Wd G A s9.heap [(x, .inr (9, [.int (iI ln), .ref a1, .int (iI pl), .ref a3, .ref a4, .int (iI ri), .int (iI rr), .int (iI mn2_23), .ref a8, .ref a9, .int (iI nn), .ref a11, .int (iI fn), .ref a13, .int (iI lm), .ref a15, .ref a16, .ref a17, .ref a18, .ref a19, .ref a20])), (a3, .inl (G.2.1 0, 32, .inl (iA lw))), (a8, .inl (G.2.1 0, 2000, .inl (iA g2_23))), (a9, .inl (G.2.1 0, 60001, .inl (iA f2_23))), (a16, .inl (G.2.1 0, 5000, .inl (iA h2_23)))] H locs → lv_has ls 4 [(3, .int (iI k)), (0, .ref x), (1, .int (iI rr)), (2, .int (iI v))] → W p9 l e9 (rmL 4) s9 m9 args below meth c9 H locs 0 0 Q (F0 m9 28 ls []) := by
        intro n9
        induction n9 with
        | zero => intro k hk he hmu; intros; exfalso; omega
        | succ n9 ih_28 =>
          intro k hk he hmu H locs ls hW hl
          refine lv_iload_n C.1 C.2.1 dX11_first_28 rfl (lv_at hl 0 rfl) ?_
          refine lv_aload_n C.1 C.2.1 dX11_first_29 rfl (lv_at hl 1 rfl) ?_
          refine z_get C hK hW hin11 (v := .int (iI mn2_23)) 0 rfl rfl 7 (by decide) (C.2.2.2.2 (.fieldLink RX11 101 "TellingRowsModel" "many" "I") (List.mem_of_getElem? (i := 2) rfl)) (fun _ h9 => h9) rfl dX11_first_30 ?_
          refine z_icmp_ge (tgt := 54) C dX11_first_33 (by decide) (by omega) (fun c_33 => ?_) (fun c_33 => ?_)
          ·
            refine lv_bipush (v := iI (-4)) C.1 C.2.1 dX11_first_54 (by decide +kernel) ?_
            rw [hQ]
            have hP9 : ∃ z : Int, (some (Value.int (iI (-4)))) = some (.int (iI z)) ∧ ((0 ≤ rr ∧ rr ≤ 3) ∧ (0 ≤ v ∧ v ≤ 60000) → RowL lw rr mn2_23 g2_23 ∧ FirstR g2_23 mn2_23 v z) ∧ (¬ ((0 ≤ rr ∧ rr ≤ 3) ∧ (0 ≤ v ∧ v ≤ 60000)) → z = -1) ∧ (LaidR lw rr mn2_23 g2_23) ∧ (BD g2_23) ∧ (BD f2_23) ∧ (BD h2_23) := ⟨_, rfl, (fun _ => ⟨hz_23_0, Or.inr ⟨rfl, fun j j0 j1 => he j j0 (by omega)⟩⟩), (fun q9 => by first | omega | (exfalso; apply q9; omega)), (Or.inr ⟨hr99, hz_23_0⟩), hz_23_1, hz_23_2, hz_23_3⟩
            exact z_iret C hr hlocks hW (rr, mn2_23, g2_23, f2_23, h2_23) rfl hP9 dX11_first_56
          ·
            refine lv_aload_n C.1 C.2.1 dX11_first_36 rfl (lv_at hl 1 rfl) ?_
            refine z_get C hK hW hin11 (v := .ref a8) 0 rfl rfl 8 (by decide) (C.2.2.2.2 (.fieldLink RX11 24 "TellingRowsModel" "row" "[I") (List.mem_of_getElem? (i := 3) rfl)) (fun _ h9 => h9) rfl dX11_first_37 ?_
            refine lv_iload_n C.1 C.2.1 dX11_first_40 rfl (lv_at hl 0 rfl) ?_
            refine z_iald C hK hW 2 rfl (by omega) (by omega) dX11_first_41 ?_
            have hb_41 := hz_23_1 k
            have hv1 := hV9 k (by omega) (by omega)
            refine lv_iload_n C.1 C.2.1 dX11_first_42 rfl (lv_at hl 3 rfl) ?_
            refine z_icmp_ne (tgt := 48) C dX11_first_43 (by decide) (by omega) (fun c_43 => ?_) (fun c_43 => ?_)
            ·
              refine lv_iinc (v := iI (k + 1)) (lv' := [(3, .int (iI (k + 1))), (0, .ref x), (1, .int (iI rr)), (2, .int (iI v))]) C.1 C.2.1 dX11_first_48 hl (k := 0) rfl (iI_add _ _) (by decide) rfl (fun ls hl => ?_)
              refine lv_goto (tgt := 28) C.1 C.2.1 dX11_first_51 (by decide) ?_
              exact ih_28 (k + 1) (by first | omega | assumption | (intros; first | rfl | omega | assumption | (and_intros <;> first | rfl | omega | assumption))) (fun j j0 j1 => if q : j = k then (by rw [q]; exact c_43) else he j j0 (by omega)) (by omega) _ _ _ hW (lv_sub hl [0, 1, 2, 3] rfl)
            ·
              refine lv_iload_n C.1 C.2.1 dX11_first_46 rfl (lv_at hl 0 rfl) ?_
              rw [hQ]
              have hP9 : ∃ z : Int, (some (Value.int (iI k))) = some (.int (iI z)) ∧ ((0 ≤ rr ∧ rr ≤ 3) ∧ (0 ≤ v ∧ v ≤ 60000) → RowL lw rr mn2_23 g2_23 ∧ FirstR g2_23 mn2_23 v z) ∧ (¬ ((0 ≤ rr ∧ rr ≤ 3) ∧ (0 ≤ v ∧ v ≤ 60000)) → z = -1) ∧ (LaidR lw rr mn2_23 g2_23) ∧ (BD g2_23) ∧ (BD f2_23) ∧ (BD h2_23) := ⟨_, rfl, (fun _ => ⟨hz_23_0, Or.inl ⟨by omega, by omega, by omega, he⟩⟩), (fun q9 => by first | omega | (exfalso; apply q9; omega)), (Or.inr ⟨hr99, hz_23_0⟩), hz_23_1, hz_23_2, hz_23_3⟩
              exact z_iret C hr hlocks hW (rr, mn2_23, g2_23, f2_23, h2_23) rfl hP9 dX11_first_47
      exact cut_28 (((mn2_23 - 0) + 1 : Int)).toNat 0 (by first | omega | assumption | (intros; first | rfl | omega | assumption | (and_intros <;> first | rfl | omega | assumption))) (fun j j0 j1 => by omega) (by omega) _ _ _ hW (lv_sub hl [0, 1, 2, 3] rfl)
    ·
      refine lv_iconst (v := iI (-1)) C.1 C.2.1 dX11_first_19 rfl ?_
      rw [hQ]
      have hP9 : ∃ z : Int, (some (Value.int (iI (-1)))) = some (.int (iI z)) ∧ ((0 ≤ rr ∧ rr ≤ 3) ∧ (0 ≤ v ∧ v ≤ 60000) → RowL lw rr mn g ∧ FirstR g mn v z) ∧ (¬ ((0 ≤ rr ∧ rr ≤ 3) ∧ (0 ≤ v ∧ v ≤ 60000)) → z = -1) ∧ (LaidR lw ld mn g) ∧ (BD g) ∧ (BD f) ∧ (BD h) := ⟨_, rfl, (fun q9 => by omega), (fun _ => rfl), hLd, hg, hf, hh⟩
      exact z_iret C hr hlocks hW (ld, mn, g, f, h) rfl hP9 dX11_first_20
set_option maxHeartbeats 4000000 in
set_option maxRecDepth 100000 in
/-- X11_often -/
theorem c_X11_often (l : Launch) (G : GG) (x : Nat) (ln : Int) (a1 : Nat) (pl : Int) (a3 : Nat) (a4 : Nat) (ri : Int) (ld : Int) (mn : Int) (a8 : Nat) (a9 : Nat) (nn : Int) (a11 : Nat) (fn : Int) (a13 : Nat) (lm : Int) (a15 : Nat) (a16 : Nat) (a17 : Nat) (a18 : Nat) (a19 : Nat) (a20 : Nat) (lw : Int → Int) (g : Int → Int) (f : Int → Int) (h : Int → Int) (rr : Int) (v : Int) (n : Int) (hLw : LawR lw) (hlw : BD lw) (hg : BD g) (hf : BD f) (hh : BD h) (hLd : LaidR lw ld mn g) (hrr : -2147483648 ≤ rr ∧ rr ≤ 2147483647) (hv : -2147483648 ≤ v ∧ v ≤ 2147483647) (hn : -2147483648 ≤ n ∧ n ≤ 2147483647) : MQc l yX11_often wsX11_often 4 G [.ref x, .int (iI rr), .int (iI v), .int (iI n)] [(x, .inr (9, [.int (iI ln), .ref a1, .int (iI pl), .ref a3, .ref a4, .int (iI ri), .int (iI ld), .int (iI mn), .ref a8, .ref a9, .int (iI nn), .ref a11, .int (iI fn), .ref a13, .int (iI lm), .ref a15, .ref a16, .ref a17, .ref a18, .ref a19, .ref a20])), (a3, .inl (G.2.1 0, 32, .inl (iA lw))), (a8, .inl (G.2.1 0, 2000, .inl (iA g))), (a9, .inl (G.2.1 0, 60001, .inl (iA f))), (a16, .inl (G.2.1 0, 5000, .inl (iA h)))] (fun r (u : Int × Int × (Int → Int) × (Int → Int) × (Int → Int)) => ∃ z : Int, r = some (.int (iI z)) ∧ ((0 ≤ rr ∧ rr ≤ 3) ∧ (0 ≤ v ∧ v ≤ 60000) ∧ (0 ≤ n ∧ n ≤ 2000) → RowL lw rr u.2.1 u.2.2.1 ∧ z = oc u.2.2.1 v (min n u.2.1)) ∧ (¬ ((0 ≤ rr ∧ rr ≤ 3) ∧ (0 ≤ v ∧ v ≤ 60000) ∧ (0 ≤ n ∧ n ≤ 2000)) → z = -1) ∧ (LaidR lw u.1 u.2.1 u.2.2.1) ∧ (BD u.2.2.1) ∧ (BD u.2.2.2.1) ∧ (BD u.2.2.2.2)) (fun u => [(x, .inr (9, [.int (iI ln), .ref a1, .int (iI pl), .ref a3, .ref a4, .int (iI ri), .int (iI u.1), .int (iI u.2.1), .ref a8, .ref a9, .int (iI nn), .ref a11, .int (iI fn), .ref a13, .int (iI lm), .ref a15, .ref a16, .ref a17, .ref a18, .ref a19, .ref a20])), (a3, .inl (G.2.1 0, 32, .inl (iA lw))), (a8, .inl (G.2.1 0, 2000, .inl (iA u.2.2.1))), (a9, .inl (G.2.1 0, 60001, .inl (iA u.2.2.2.1))), (a16, .inl (G.2.1 0, 5000, .inl (iA u.2.2.2.2)))]) := by
  refine MQc.start (own := RX11) (by decide) rfl rfl (Nat.le_of_ble_eq_true rfl) ?_
  intro p9 e9 s9 m9 args below meth c9 A Q C hK hW hA hr hlocks hQ ls hl
  have hl : lv_has ls 6 [(0, .ref x), (1, .int (iI rr)), (2, .int (iI v)), (3, .int (iI n))] := hl
  have hin11 : ∀ w ∈ wsX110, w ∈ wsX11_often := by decide +kernel
  refine lv_iload_n C.1 C.2.1 dX11_often_0 rfl (lv_at hl 1 rfl) ?_
  refine z_callR (va_runS (As := [.int (iI rr)]) (rest := []) C (c_X11_isRegister l G rr hrr s9.heap.size) (va_cwS 1 C.2.2.2.2 gX11_often_X11_isRegister rfl rfl rfl (by decide +kernel) ⟨Nat.le_of_ble_eq_true rfl, Nat.le_of_ble_eq_true rfl⟩) (z_preS hK hW hA [] rfl (by decide)) rfl rfl hl.1 rfl (lv_room (Nat.le_of_ble_eq_true rfl)) dX11_often_1 ⟨Nat.zero_le _, Nat.zero_le _⟩) (fun r hp => ?_)
  have hp : ∃ z : Int, r = some (.int (iI z)) ∧ ((z = 1 ∧ (0 ≤ rr ∧ rr ≤ 3)) ∨ (z = 0 ∧ ¬ (0 ≤ rr ∧ rr ≤ 3))) := hp
  obtain ⟨z_1, rfl, hz_1_0⟩ := hp
  refine z_if_eq (tgt := 31) C dX11_often_4 (by decide) (by omega) (fun c_4 => ?_) (fun c_4 => ?_)
  ·
    refine lv_iconst (v := iI (-1)) C.1 C.2.1 dX11_often_31 rfl ?_
    rw [hQ]
    have hP9 : ∃ z : Int, (some (Value.int (iI (-1)))) = some (.int (iI z)) ∧ ((0 ≤ rr ∧ rr ≤ 3) ∧ (0 ≤ v ∧ v ≤ 60000) ∧ (0 ≤ n ∧ n ≤ 2000) → RowL lw rr mn g ∧ z = oc g v (min n mn)) ∧ (¬ ((0 ≤ rr ∧ rr ≤ 3) ∧ (0 ≤ v ∧ v ≤ 60000) ∧ (0 ≤ n ∧ n ≤ 2000)) → z = -1) ∧ (LaidR lw ld mn g) ∧ (BD g) ∧ (BD f) ∧ (BD h) := ⟨_, rfl, (fun q9 => by omega), (fun _ => rfl), hLd, hg, hf, hh⟩
    exact z_iret C hr hlocks hW (ld, mn, g, f, h) rfl hP9 dX11_often_32
  ·
    refine lv_iload_n C.1 C.2.1 dX11_often_7 rfl (lv_at hl 2 rfl) ?_
    refine z_i2l C dX11_often_8 (by omega) ?_
    refine lv_lconst (v := lI 0) C.1 C.2.1 dX11_often_9 rfl ?_
    refine z_ldc2 (z := 60000) C (C.2.2.2.2 (.constantLong RX11 129 (60000)) (List.mem_of_getElem? (i := 1) rfl)) (by decide +kernel) dX11_often_10 ?_
    refine z_callR (va_runS (As := [.long (lI v), .long (lI 0), .long (lI 60000)]) (rest := []) C (c_X11_in l G v 0 60000 (by first | omega | assumption | (intros; first | rfl | omega | assumption | (and_intros <;> first | rfl | omega | assumption))) (by first | omega | assumption | (intros; first | rfl | omega | assumption | (and_intros <;> first | rfl | omega | assumption))) (by first | omega | assumption | (intros; first | rfl | omega | assumption | (and_intros <;> first | rfl | omega | assumption))) s9.heap.size) (va_cwS 3 C.2.2.2.2 gX11_often_X11_in rfl rfl rfl (by decide +kernel) ⟨Nat.le_of_ble_eq_true rfl, Nat.le_of_ble_eq_true rfl⟩) (z_preS hK hW hA [] rfl (by decide)) rfl rfl hl.1 rfl (lv_room (Nat.le_of_ble_eq_true rfl)) dX11_often_13 ⟨Nat.zero_le _, Nat.zero_le _⟩) (fun r hp => ?_)
    have hp : ∃ z : Int, r = some (.int (iI z)) ∧ ((z = 1 ∧ ((0 : Int) ≤ v ∧ v ≤ (60000 : Int))) ∨ (z = 0 ∧ ¬ ((0 : Int) ≤ v ∧ v ≤ (60000 : Int)))) := hp
    obtain ⟨z_13, rfl, hz_13_0⟩ := hp
    refine z_if_eq (tgt := 31) C dX11_often_16 (by decide) (by omega) (fun c_16 => ?_) (fun c_16 => ?_)
    ·
      refine lv_iconst (v := iI (-1)) C.1 C.2.1 dX11_often_31 rfl ?_
      rw [hQ]
      have hP9 : ∃ z : Int, (some (Value.int (iI (-1)))) = some (.int (iI z)) ∧ ((0 ≤ rr ∧ rr ≤ 3) ∧ (0 ≤ v ∧ v ≤ 60000) ∧ (0 ≤ n ∧ n ≤ 2000) → RowL lw rr mn g ∧ z = oc g v (min n mn)) ∧ (¬ ((0 ≤ rr ∧ rr ≤ 3) ∧ (0 ≤ v ∧ v ≤ 60000) ∧ (0 ≤ n ∧ n ≤ 2000)) → z = -1) ∧ (LaidR lw ld mn g) ∧ (BD g) ∧ (BD f) ∧ (BD h) := ⟨_, rfl, (fun q9 => by omega), (fun _ => rfl), hLd, hg, hf, hh⟩
      exact z_iret C hr hlocks hW (ld, mn, g, f, h) rfl hP9 dX11_often_32
    ·
      refine lv_iload_n C.1 C.2.1 dX11_often_19 rfl (lv_at hl 3 rfl) ?_
      refine z_i2l C dX11_often_20 (by omega) ?_
      refine lv_lconst (v := lI 0) C.1 C.2.1 dX11_often_21 rfl ?_
      refine z_ldc2 (z := 2000) C (C.2.2.2.2 (.constantLong RX11 131 (2000)) (List.mem_of_getElem? (i := 2) rfl)) (by decide +kernel) dX11_often_22 ?_
      refine z_callR (va_runS (As := [.long (lI n), .long (lI 0), .long (lI 2000)]) (rest := []) C (c_X11_in l G n 0 2000 (by first | omega | assumption | (intros; first | rfl | omega | assumption | (and_intros <;> first | rfl | omega | assumption))) (by first | omega | assumption | (intros; first | rfl | omega | assumption | (and_intros <;> first | rfl | omega | assumption))) (by first | omega | assumption | (intros; first | rfl | omega | assumption | (and_intros <;> first | rfl | omega | assumption))) s9.heap.size) (va_cwS 3 C.2.2.2.2 gX11_often_X11_in rfl rfl rfl (by decide +kernel) ⟨Nat.le_of_ble_eq_true rfl, Nat.le_of_ble_eq_true rfl⟩) (z_preS hK hW hA [] rfl (by decide)) rfl rfl hl.1 rfl (lv_room (Nat.le_of_ble_eq_true rfl)) dX11_often_25 ⟨Nat.zero_le _, Nat.zero_le _⟩) (fun r hp => ?_)
      have hp : ∃ z : Int, r = some (.int (iI z)) ∧ ((z = 1 ∧ ((0 : Int) ≤ n ∧ n ≤ (2000 : Int))) ∨ (z = 0 ∧ ¬ ((0 : Int) ≤ n ∧ n ≤ (2000 : Int)))) := hp
      obtain ⟨z_25, rfl, hz_25_0⟩ := hp
      refine z_if_ne (tgt := 33) C dX11_often_28 (by decide) (by omega) (fun c_28 => ?_) (fun c_28 => ?_)
      ·
        refine lv_aload_n C.1 C.2.1 dX11_often_33 rfl (lv_at hl 0 rfl) ?_
        refine lv_iload_n C.1 C.2.1 dX11_often_34 rfl (lv_at hl 1 rfl) ?_
        refine z_call (va_runV (As := [.int (iI rr)]) (rest := []) C (c_X11_lays l G x ln a1 pl a3 a4 ri ld mn a8 a9 nn a11 fn a13 lm a15 a16 a17 a18 a19 a20 lw g f h rr hLw hlw hg hf hh hLd (by first | omega | assumption | (intros; first | rfl | omega | assumption | (and_intros <;> first | rfl | omega | assumption))) s9.heap.size) (cwV 1 C.2.2.2.2 gX11_often_X11_lays rfl rfl rfl (by decide +kernel) ⟨Nat.le_of_ble_eq_true rfl, Nat.le_of_ble_eq_true rfl⟩) (z_preV hK hW hA [0, 1, 2, 3, 4] rfl (by decide) (ci := 9) (q0 := 0) rfl rfl) rfl rfl hl.1 rfl (lv_room (Nat.le_of_ble_eq_true rfl)) dX11_often_35 ⟨Nat.zero_le _, Nat.zero_le _⟩) hW hA [0, 1, 2, 3, 4] rfl (by decide) (fun _ => rfl) (fun r u H locs hp hW => ?_)
        obtain ⟨mn2_35, g2_35, f2_35, h2_35⟩ := u
        have hp : r = none ∧ (RowL lw rr mn2_35 g2_35) ∧ (BD g2_35) ∧ (BD f2_35) ∧ (BD h2_35) := hp
        obtain ⟨rfl, hz_35_0, hz_35_1, hz_35_2, hz_35_3⟩ := hp
        have hW : Wd G A s9.heap [(x, .inr (9, [.int (iI ln), .ref a1, .int (iI pl), .ref a3, .ref a4, .int (iI ri), .int (iI rr), .int (iI mn2_35), .ref a8, .ref a9, .int (iI nn), .ref a11, .int (iI fn), .ref a13, .int (iI lm), .ref a15, .ref a16, .ref a17, .ref a18, .ref a19, .ref a20])), (a3, .inl (G.2.1 0, 32, .inl (iA lw))), (a8, .inl (G.2.1 0, 2000, .inl (iA g2_35))), (a9, .inl (G.2.1 0, 60001, .inl (iA f2_35))), (a16, .inl (G.2.1 0, 5000, .inl (iA h2_35)))] H locs := hW
        have hr99 : 0 ≤ rr ∧ rr ≤ 3 := by omega
        have hRb := RowL_b hz_35_0
        have hRm := hRb.1
        have hV9 := hRb.2
        refine lv_iconst (v := iI 0) C.1 C.2.1 dX11_often_38 rfl ?_
        refine lv_istore (lv' := [(4, .int (iI 0)), (0, .ref x), (1, .int (iI rr)), (2, .int (iI v)), (3, .int (iI n))]) C.1 C.2.1 dX11_often_39 hl (by decide) rfl (fun ls hl => ?_)
        refine lv_iconst (v := iI 0) C.1 C.2.1 dX11_often_41 rfl ?_
        refine lv_istore (lv' := [(5, .int (iI 0)), (4, .int (iI 0)), (0, .ref x), (1, .int (iI rr)), (2, .int (iI v)), (3, .int (iI n))]) C.1 C.2.1 dX11_often_42 hl (by decide) rfl (fun ls hl => ?_)
        have cut_44 : ∀ (n9 : Nat) (c : Int) (k : Int), (0 ≤ k ∧ k ≤ mn2_35 ∧ k ≤ n) → (c = oc g2_35 v k) → (mn2_35 - k < (n9 : Int)) → ∀ (H : Heap) (locs : List Loc) (ls : Array Slot), Wd G A s9.heap [(x, .inr (9, [.int (iI ln), .ref a1, .int (iI pl), .ref a3, .ref a4, .int (iI ri), .int (iI rr), .int (iI mn2_35), .ref a8, .ref a9, .int (iI nn), .ref a11, .int (iI fn), .ref a13, .int (iI lm), .ref a15, .ref a16, .ref a17, .ref a18, .ref a19, .ref a20])), (a3, .inl (G.2.1 0, 32, .inl (iA lw))), (a8, .inl (G.2.1 0, 2000, .inl (iA g2_35))), (a9, .inl (G.2.1 0, 60001, .inl (iA f2_35))), (a16, .inl (G.2.1 0, 5000, .inl (iA h2_35)))] H locs → lv_has ls 6 [(5, .int (iI k)), (4, .int (iI c)), (0, .ref x), (1, .int (iI rr)), (2, .int (iI v)), (3, .int (iI n))] → W p9 l e9 (rmL 4) s9 m9 args below meth c9 H locs 0 0 Q (F0 m9 44 ls []) := by
          intro n9
          induction n9 with
          | zero => intro c k hk hc hmu; intros; exfalso; omega
          | succ n9 ih_44 =>
            intro c k hk hc hmu H locs ls hW hl
            have hcb := oc_b (g := g2_35) (v := v) hk.1
            refine lv_iload C.1 C.2.1 dX11_often_44 (lv_at hl 0 rfl) ?_
            refine lv_aload_n C.1 C.2.1 dX11_often_46 rfl (lv_at hl 2 rfl) ?_
            refine z_get C hK hW hin11 (v := .int (iI mn2_35)) 0 rfl rfl 7 (by decide) (C.2.2.2.2 (.fieldLink RX11 101 "TellingRowsModel" "many" "I") (List.mem_of_getElem? (i := 3) rfl)) (fun _ h9 => h9) rfl dX11_often_47 ?_
            refine z_icmp_ge (tgt := 86) C dX11_often_50 (by decide) (by omega) (fun c_50 => ?_) (fun c_50 => ?_)
            ·
              refine lv_iload C.1 C.2.1 dX11_often_86 (lv_at hl 1 rfl) ?_
              rw [hQ]
              have hP9 : ∃ z : Int, (some (Value.int (iI c))) = some (.int (iI z)) ∧ ((0 ≤ rr ∧ rr ≤ 3) ∧ (0 ≤ v ∧ v ≤ 60000) ∧ (0 ≤ n ∧ n ≤ 2000) → RowL lw rr mn2_35 g2_35 ∧ z = oc g2_35 v (min n mn2_35)) ∧ (¬ ((0 ≤ rr ∧ rr ≤ 3) ∧ (0 ≤ v ∧ v ≤ 60000) ∧ (0 ≤ n ∧ n ≤ 2000)) → z = -1) ∧ (LaidR lw rr mn2_35 g2_35) ∧ (BD g2_35) ∧ (BD f2_35) ∧ (BD h2_35) := ⟨_, rfl, (fun _ => ⟨hz_35_0, by rw [hc]; congr 1; omega⟩), (fun q9 => by first | omega | (exfalso; apply q9; omega)), (Or.inr ⟨hr99, hz_35_0⟩), hz_35_1, hz_35_2, hz_35_3⟩
              exact z_iret C hr hlocks hW (rr, mn2_35, g2_35, f2_35, h2_35) rfl hP9 dX11_often_88
            ·
              refine lv_iload C.1 C.2.1 dX11_often_53 (lv_at hl 0 rfl) ?_
              refine lv_iload_n C.1 C.2.1 dX11_often_55 rfl (lv_at hl 5 rfl) ?_
              refine z_icmp_ge (tgt := 86) C dX11_often_56 (by decide) (by omega) (fun c_56 => ?_) (fun c_56 => ?_)
              ·
                refine lv_iload C.1 C.2.1 dX11_often_86 (lv_at hl 1 rfl) ?_
                rw [hQ]
                have hP9 : ∃ z : Int, (some (Value.int (iI c))) = some (.int (iI z)) ∧ ((0 ≤ rr ∧ rr ≤ 3) ∧ (0 ≤ v ∧ v ≤ 60000) ∧ (0 ≤ n ∧ n ≤ 2000) → RowL lw rr mn2_35 g2_35 ∧ z = oc g2_35 v (min n mn2_35)) ∧ (¬ ((0 ≤ rr ∧ rr ≤ 3) ∧ (0 ≤ v ∧ v ≤ 60000) ∧ (0 ≤ n ∧ n ≤ 2000)) → z = -1) ∧ (LaidR lw rr mn2_35 g2_35) ∧ (BD g2_35) ∧ (BD f2_35) ∧ (BD h2_35) := ⟨_, rfl, (fun _ => ⟨hz_35_0, by rw [hc]; congr 1; omega⟩), (fun q9 => by first | omega | (exfalso; apply q9; omega)), (Or.inr ⟨hr99, hz_35_0⟩), hz_35_1, hz_35_2, hz_35_3⟩
                exact z_iret C hr hlocks hW (rr, mn2_35, g2_35, f2_35, h2_35) rfl hP9 dX11_often_88
              ·
                refine lv_iload C.1 C.2.1 dX11_often_59 (lv_at hl 1 rfl) ?_
                refine lv_aload_n C.1 C.2.1 dX11_often_61 rfl (lv_at hl 2 rfl) ?_
                refine z_get C hK hW hin11 (v := .ref a8) 0 rfl rfl 8 (by decide) (C.2.2.2.2 (.fieldLink RX11 24 "TellingRowsModel" "row" "[I") (List.mem_of_getElem? (i := 4) rfl)) (fun _ h9 => h9) rfl dX11_often_62 ?_
                refine lv_iload C.1 C.2.1 dX11_often_65 (lv_at hl 0 rfl) ?_
                refine z_iald C hK hW 2 rfl (by omega) (by omega) dX11_often_67 ?_
                have hb_67 := hz_35_1 k
                have hv1 := hV9 k (by omega) (by omega)
                refine lv_iload_n C.1 C.2.1 dX11_often_68 rfl (lv_at hl 4 rfl) ?_
                refine z_icmp_ne (tgt := 76) C dX11_often_69 (by decide) (by omega) (fun c_69 => ?_) (fun c_69 => ?_)
                ·
                  refine lv_iconst (v := iI 0) C.1 C.2.1 dX11_often_76 rfl ?_
                  refine z_iadd C dX11_often_77 ?_
                  refine lv_istore (lv' := [(4, .int (iI (c + 0))), (5, .int (iI k)), (0, .ref x), (1, .int (iI rr)), (2, .int (iI v)), (3, .int (iI n))]) C.1 C.2.1 dX11_often_78 hl (by decide) rfl (fun ls hl => ?_)
                  refine lv_iinc (v := iI (k + 1)) (lv' := [(5, .int (iI (k + 1))), (4, .int (iI (c + 0))), (0, .ref x), (1, .int (iI rr)), (2, .int (iI v)), (3, .int (iI n))]) C.1 C.2.1 dX11_often_80 hl (k := 1) rfl (iI_add _ _) (by decide) rfl (fun ls hl => ?_)
                  refine lv_goto (tgt := 44) C.1 C.2.1 dX11_often_83 (by decide) ?_
                  exact ih_44 (c + 0) (k + 1) (by first | omega | assumption | (intros; first | rfl | omega | assumption | (and_intros <;> first | rfl | omega | assumption))) (by rw [oc_s (by omega)]; split <;> omega) (by omega) _ _ _ hW (lv_sub hl [0, 1, 2, 3, 4, 5] rfl)
                ·
                  refine lv_iconst (v := iI 1) C.1 C.2.1 dX11_often_72 rfl ?_
                  refine lv_goto (tgt := 77) C.1 C.2.1 dX11_often_73 (by decide) ?_
                  refine z_iadd C dX11_often_77 ?_
                  refine lv_istore (lv' := [(4, .int (iI (c + 1))), (5, .int (iI k)), (0, .ref x), (1, .int (iI rr)), (2, .int (iI v)), (3, .int (iI n))]) C.1 C.2.1 dX11_often_78 hl (by decide) rfl (fun ls hl => ?_)
                  refine lv_iinc (v := iI (k + 1)) (lv' := [(5, .int (iI (k + 1))), (4, .int (iI (c + 1))), (0, .ref x), (1, .int (iI rr)), (2, .int (iI v)), (3, .int (iI n))]) C.1 C.2.1 dX11_often_80 hl (k := 1) rfl (iI_add _ _) (by decide) rfl (fun ls hl => ?_)
                  refine lv_goto (tgt := 44) C.1 C.2.1 dX11_often_83 (by decide) ?_
                  exact ih_44 (c + 1) (k + 1) (by first | omega | assumption | (intros; first | rfl | omega | assumption | (and_intros <;> first | rfl | omega | assumption))) (by rw [oc_s (by omega)]; split <;> omega) (by omega) _ _ _ hW (lv_sub hl [0, 1, 2, 3, 4, 5] rfl)
        exact cut_44 (((mn2_35 - 0) + 1 : Int)).toNat 0 0 (by first | omega | assumption | (intros; first | rfl | omega | assumption | (and_intros <;> first | rfl | omega | assumption))) (by rw [oc_0 (by omega)]) (by omega) _ _ _ hW (lv_sub hl [0, 1, 2, 3, 4, 5] rfl)
      ·
        refine lv_iconst (v := iI (-1)) C.1 C.2.1 dX11_often_31 rfl ?_
        rw [hQ]
        have hP9 : ∃ z : Int, (some (Value.int (iI (-1)))) = some (.int (iI z)) ∧ ((0 ≤ rr ∧ rr ≤ 3) ∧ (0 ≤ v ∧ v ≤ 60000) ∧ (0 ≤ n ∧ n ≤ 2000) → RowL lw rr mn g ∧ z = oc g v (min n mn)) ∧ (¬ ((0 ≤ rr ∧ rr ≤ 3) ∧ (0 ≤ v ∧ v ≤ 60000) ∧ (0 ≤ n ∧ n ≤ 2000)) → z = -1) ∧ (LaidR lw ld mn g) ∧ (BD g) ∧ (BD f) ∧ (BD h) := ⟨_, rfl, (fun q9 => by omega), (fun _ => rfl), hLd, hg, hf, hh⟩
        exact z_iret C hr hlocks hW (ld, mn, g, f, h) rfl hP9 dX11_often_32
set_option maxHeartbeats 4000000 in
set_option maxRecDepth 100000 in
/-- X11_run -/
theorem c_X11_run (l : Launch) (G : GG) (x : Nat) (ln : Int) (a1 : Nat) (pl : Int) (a3 : Nat) (a4 : Nat) (ri : Int) (ld : Int) (mn : Int) (a8 : Nat) (a9 : Nat) (nn : Int) (a11 : Nat) (fn : Int) (a13 : Nat) (lm : Int) (a15 : Nat) (a16 : Nat) (a17 : Nat) (a18 : Nat) (a19 : Nat) (a20 : Nat) (lw : Int → Int) (g : Int → Int) (f : Int → Int) (h : Int → Int) (rr : Int) (k : Int) (w : Int) (hLw : LawR lw) (hlw : BD lw) (hg : BD g) (hf : BD f) (hh : BD h) (hLd : LaidR lw ld mn g) (hrr : -2147483648 ≤ rr ∧ rr ≤ 2147483647) (hk : -2147483648 ≤ k ∧ k ≤ 2147483647) (hw : -2147483648 ≤ w ∧ w ≤ 2147483647) : MQc l yX11_run wsX11_run 4 G [.ref x, .int (iI rr), .int (iI k), .int (iI w)] [(x, .inr (9, [.int (iI ln), .ref a1, .int (iI pl), .ref a3, .ref a4, .int (iI ri), .int (iI ld), .int (iI mn), .ref a8, .ref a9, .int (iI nn), .ref a11, .int (iI fn), .ref a13, .int (iI lm), .ref a15, .ref a16, .ref a17, .ref a18, .ref a19, .ref a20])), (a3, .inl (G.2.1 0, 32, .inl (iA lw))), (a8, .inl (G.2.1 0, 2000, .inl (iA g))), (a9, .inl (G.2.1 0, 60001, .inl (iA f))), (a16, .inl (G.2.1 0, 5000, .inl (iA h)))] (fun r (u : Int × Int × (Int → Int) × (Int → Int) × (Int → Int)) => ∃ z : Int, r = some (.int (iI z)) ∧ ((0 ≤ rr ∧ rr ≤ 3) ∧ 0 ≤ k ∧ (0 ≤ w ∧ w ≤ 2) → RowL lw rr u.2.1 u.2.2.1 ∧ RunQ u.2.2.1 u.2.1 k w z) ∧ (¬ ((0 ≤ rr ∧ rr ≤ 3) ∧ 0 ≤ k ∧ (0 ≤ w ∧ w ≤ 2)) → z = -1) ∧ (LaidR lw u.1 u.2.1 u.2.2.1) ∧ (BD u.2.2.1) ∧ (BD u.2.2.2.1) ∧ (BD u.2.2.2.2)) (fun u => [(x, .inr (9, [.int (iI ln), .ref a1, .int (iI pl), .ref a3, .ref a4, .int (iI ri), .int (iI u.1), .int (iI u.2.1), .ref a8, .ref a9, .int (iI nn), .ref a11, .int (iI fn), .ref a13, .int (iI lm), .ref a15, .ref a16, .ref a17, .ref a18, .ref a19, .ref a20])), (a3, .inl (G.2.1 0, 32, .inl (iA lw))), (a8, .inl (G.2.1 0, 2000, .inl (iA u.2.2.1))), (a9, .inl (G.2.1 0, 60001, .inl (iA u.2.2.2.1))), (a16, .inl (G.2.1 0, 5000, .inl (iA u.2.2.2.2)))]) := by
  refine MQc.start (own := RX11) (by decide) rfl rfl (Nat.le_of_ble_eq_true rfl) ?_
  intro p9 e9 s9 m9 args below meth c9 A Q C hK hW hA hr hlocks hQ ls hl
  have hl : lv_has ls 7 [(0, .ref x), (1, .int (iI rr)), (2, .int (iI k)), (3, .int (iI w))] := hl
  have hin11 : ∀ w ∈ wsX110, w ∈ wsX11_run := by decide +kernel
  refine lv_iload_n C.1 C.2.1 dX11_run_0 rfl (lv_at hl 1 rfl) ?_
  refine z_callR (va_runS (As := [.int (iI rr)]) (rest := []) C (c_X11_isRegister l G rr hrr s9.heap.size) (va_cwS 1 C.2.2.2.2 gX11_run_X11_isRegister rfl rfl rfl (by decide +kernel) ⟨Nat.le_of_ble_eq_true rfl, Nat.le_of_ble_eq_true rfl⟩) (z_preS hK hW hA [] rfl (by decide)) rfl rfl hl.1 rfl (lv_room (Nat.le_of_ble_eq_true rfl)) dX11_run_1 ⟨Nat.zero_le _, Nat.zero_le _⟩) (fun r hp => ?_)
  have hp : ∃ z : Int, r = some (.int (iI z)) ∧ ((z = 1 ∧ (0 ≤ rr ∧ rr ≤ 3)) ∨ (z = 0 ∧ ¬ (0 ≤ rr ∧ rr ≤ 3))) := hp
  obtain ⟨z_1, rfl, hz_1_0⟩ := hp
  refine z_if_eq (tgt := 23) C dX11_run_4 (by decide) (by omega) (fun c_4 => ?_) (fun c_4 => ?_)
  ·
    refine lv_iconst (v := iI (-1)) C.1 C.2.1 dX11_run_23 rfl ?_
    rw [hQ]
    have hP9 : ∃ z : Int, (some (Value.int (iI (-1)))) = some (.int (iI z)) ∧ ((0 ≤ rr ∧ rr ≤ 3) ∧ 0 ≤ k ∧ (0 ≤ w ∧ w ≤ 2) → RowL lw rr mn g ∧ RunQ g mn k w z) ∧ (¬ ((0 ≤ rr ∧ rr ≤ 3) ∧ 0 ≤ k ∧ (0 ≤ w ∧ w ≤ 2)) → z = -1) ∧ (LaidR lw ld mn g) ∧ (BD g) ∧ (BD f) ∧ (BD h) := ⟨_, rfl, (fun q9 => by omega), (fun _ => rfl), hLd, hg, hf, hh⟩
    exact z_iret C hr hlocks hW (ld, mn, g, f, h) rfl hP9 dX11_run_24
  ·
    refine lv_iload_n C.1 C.2.1 dX11_run_7 rfl (lv_at hl 2 rfl) ?_
    refine z_if_lt (tgt := 23) C dX11_run_8 (by decide) (by omega) (fun c_8 => ?_) (fun c_8 => ?_)
    ·
      refine lv_iconst (v := iI (-1)) C.1 C.2.1 dX11_run_23 rfl ?_
      rw [hQ]
      have hP9 : ∃ z : Int, (some (Value.int (iI (-1)))) = some (.int (iI z)) ∧ ((0 ≤ rr ∧ rr ≤ 3) ∧ 0 ≤ k ∧ (0 ≤ w ∧ w ≤ 2) → RowL lw rr mn g ∧ RunQ g mn k w z) ∧ (¬ ((0 ≤ rr ∧ rr ≤ 3) ∧ 0 ≤ k ∧ (0 ≤ w ∧ w ≤ 2)) → z = -1) ∧ (LaidR lw ld mn g) ∧ (BD g) ∧ (BD f) ∧ (BD h) := ⟨_, rfl, (fun q9 => by omega), (fun _ => rfl), hLd, hg, hf, hh⟩
      exact z_iret C hr hlocks hW (ld, mn, g, f, h) rfl hP9 dX11_run_24
    ·
      refine lv_iload_n C.1 C.2.1 dX11_run_11 rfl (lv_at hl 3 rfl) ?_
      refine z_i2l C dX11_run_12 (by omega) ?_
      refine lv_lconst (v := lI 0) C.1 C.2.1 dX11_run_13 rfl ?_
      refine z_ldc2 (z := 2) C (C.2.2.2.2 (.constantLong RX11 72 (2)) (List.mem_of_getElem? (i := 1) rfl)) (by decide +kernel) dX11_run_14 ?_
      refine z_callR (va_runS (As := [.long (lI w), .long (lI 0), .long (lI 2)]) (rest := []) C (c_X11_in l G w 0 2 (by first | omega | assumption | (intros; first | rfl | omega | assumption | (and_intros <;> first | rfl | omega | assumption))) (by first | omega | assumption | (intros; first | rfl | omega | assumption | (and_intros <;> first | rfl | omega | assumption))) (by first | omega | assumption | (intros; first | rfl | omega | assumption | (and_intros <;> first | rfl | omega | assumption))) s9.heap.size) (va_cwS 3 C.2.2.2.2 gX11_run_X11_in rfl rfl rfl (by decide +kernel) ⟨Nat.le_of_ble_eq_true rfl, Nat.le_of_ble_eq_true rfl⟩) (z_preS hK hW hA [] rfl (by decide)) rfl rfl hl.1 rfl (lv_room (Nat.le_of_ble_eq_true rfl)) dX11_run_17 ⟨Nat.zero_le _, Nat.zero_le _⟩) (fun r hp => ?_)
      have hp : ∃ z : Int, r = some (.int (iI z)) ∧ ((z = 1 ∧ ((0 : Int) ≤ w ∧ w ≤ (2 : Int))) ∨ (z = 0 ∧ ¬ ((0 : Int) ≤ w ∧ w ≤ (2 : Int)))) := hp
      obtain ⟨z_17, rfl, hz_17_0⟩ := hp
      refine z_if_ne (tgt := 25) C dX11_run_20 (by decide) (by omega) (fun c_20 => ?_) (fun c_20 => ?_)
      ·
        refine lv_aload_n C.1 C.2.1 dX11_run_25 rfl (lv_at hl 0 rfl) ?_
        refine lv_iload_n C.1 C.2.1 dX11_run_26 rfl (lv_at hl 1 rfl) ?_
        refine z_call (va_runV (As := [.int (iI rr)]) (rest := []) C (c_X11_lays l G x ln a1 pl a3 a4 ri ld mn a8 a9 nn a11 fn a13 lm a15 a16 a17 a18 a19 a20 lw g f h rr hLw hlw hg hf hh hLd (by first | omega | assumption | (intros; first | rfl | omega | assumption | (and_intros <;> first | rfl | omega | assumption))) s9.heap.size) (cwV 1 C.2.2.2.2 gX11_run_X11_lays rfl rfl rfl (by decide +kernel) ⟨Nat.le_of_ble_eq_true rfl, Nat.le_of_ble_eq_true rfl⟩) (z_preV hK hW hA [0, 1, 2, 3, 4] rfl (by decide) (ci := 9) (q0 := 0) rfl rfl) rfl rfl hl.1 rfl (lv_room (Nat.le_of_ble_eq_true rfl)) dX11_run_27 ⟨Nat.zero_le _, Nat.zero_le _⟩) hW hA [0, 1, 2, 3, 4] rfl (by decide) (fun _ => rfl) (fun r u H locs hp hW => ?_)
        obtain ⟨mn2_27, g2_27, f2_27, h2_27⟩ := u
        have hp : r = none ∧ (RowL lw rr mn2_27 g2_27) ∧ (BD g2_27) ∧ (BD f2_27) ∧ (BD h2_27) := hp
        obtain ⟨rfl, hz_27_0, hz_27_1, hz_27_2, hz_27_3⟩ := hp
        have hW : Wd G A s9.heap [(x, .inr (9, [.int (iI ln), .ref a1, .int (iI pl), .ref a3, .ref a4, .int (iI ri), .int (iI rr), .int (iI mn2_27), .ref a8, .ref a9, .int (iI nn), .ref a11, .int (iI fn), .ref a13, .int (iI lm), .ref a15, .ref a16, .ref a17, .ref a18, .ref a19, .ref a20])), (a3, .inl (G.2.1 0, 32, .inl (iA lw))), (a8, .inl (G.2.1 0, 2000, .inl (iA g2_27))), (a9, .inl (G.2.1 0, 60001, .inl (iA f2_27))), (a16, .inl (G.2.1 0, 5000, .inl (iA h2_27)))] H locs := hW
        have hr99 : 0 ≤ rr ∧ rr ≤ 3 := by omega
        have hRb := RowL_b hz_27_0
        have hRm := hRb.1
        have hV9 := hRb.2
        refine lv_iconst (v := iI 0) C.1 C.2.1 dX11_run_30 rfl ?_
        refine lv_istore (lv' := [(4, .int (iI 0)), (0, .ref x), (1, .int (iI rr)), (2, .int (iI k)), (3, .int (iI w))]) C.1 C.2.1 dX11_run_31 hl (by decide) rfl (fun ls hl => ?_)
        refine lv_iconst (v := iI 0) C.1 C.2.1 dX11_run_33 rfl ?_
        refine lv_istore (lv' := [(5, .int (iI 0)), (4, .int (iI 0)), (0, .ref x), (1, .int (iI rr)), (2, .int (iI k)), (3, .int (iI w))]) C.1 C.2.1 dX11_run_34 hl (by decide) rfl (fun ls hl => ?_)
        have cut_36 : ∀ (n9 : Nat) (fr : Int) (ru : Int), (0 ≤ ru ∧ ru ≤ k ∧ 0 ≤ fr ∧ fr ≤ mn2_27) → (RunAt g2_27 mn2_27 ru.toNat fr) → (mn2_27 - fr < (n9 : Int)) → ∀ (H : Heap) (locs : List Loc) (ls : Array Slot), Wd G A s9.heap [(x, .inr (9, [.int (iI ln), .ref a1, .int (iI pl), .ref a3, .ref a4, .int (iI ri), .int (iI rr), .int (iI mn2_27), .ref a8, .ref a9, .int (iI nn), .ref a11, .int (iI fn), .ref a13, .int (iI lm), .ref a15, .ref a16, .ref a17, .ref a18, .ref a19, .ref a20])), (a3, .inl (G.2.1 0, 32, .inl (iA lw))), (a8, .inl (G.2.1 0, 2000, .inl (iA g2_27))), (a9, .inl (G.2.1 0, 60001, .inl (iA f2_27))), (a16, .inl (G.2.1 0, 5000, .inl (iA h2_27)))] H locs → lv_has ls 7 [(5, .int (iI ru)), (4, .int (iI fr)), (0, .ref x), (1, .int (iI rr)), (2, .int (iI k)), (3, .int (iI w))] → W p9 l e9 (rmL 4) s9 m9 args below meth c9 H locs 0 0 Q (F0 m9 36 ls []) := by
          intro n9
          induction n9 with
          | zero => intro fr ru hfr hr2 hmu; intros; exfalso; omega
          | succ n9 ih_36 =>
            intro fr ru hfr hr2 hmu H locs ls hW hl
            refine lv_iload C.1 C.2.1 dX11_run_36 (lv_at hl 1 rfl) ?_
            refine lv_aload_n C.1 C.2.1 dX11_run_38 rfl (lv_at hl 2 rfl) ?_
            refine z_get C hK hW hin11 (v := .int (iI mn2_27)) 0 rfl rfl 7 (by decide) (C.2.2.2.2 (.fieldLink RX11 101 "TellingRowsModel" "many" "I") (List.mem_of_getElem? (i := 2) rfl)) (fun _ h9 => h9) rfl dX11_run_39 ?_
            refine z_icmp_ge (tgt := 127) C dX11_run_42 (by decide) (by omega) (fun c_42 => ?_) (fun c_42 => ?_)
            ·
              refine lv_bipush (v := iI (-4)) C.1 C.2.1 dX11_run_127 (by decide +kernel) ?_
              rw [hQ]
              have hP9 : ∃ z : Int, (some (Value.int (iI (-4)))) = some (.int (iI z)) ∧ ((0 ≤ rr ∧ rr ≤ 3) ∧ 0 ≤ k ∧ (0 ≤ w ∧ w ≤ 2) → RowL lw rr mn2_27 g2_27 ∧ RunQ g2_27 mn2_27 k w z) ∧ (¬ ((0 ≤ rr ∧ rr ≤ 3) ∧ 0 ≤ k ∧ (0 ≤ w ∧ w ≤ 2)) → z = -1) ∧ (LaidR lw rr mn2_27 g2_27) ∧ (BD g2_27) ∧ (BD f2_27) ∧ (BD h2_27) := ⟨_, rfl, (fun _ => ⟨hz_27_0, -4, Or.inr ⟨rfl, by rw [show k.toNat = ru.toNat + (k - ru).toNat by omega]; exact fun s9 h9 => RunAt_end hr2 (by omega) _ s9 h9⟩, fun _ => rfl, fun q9 => by omega⟩), (fun q9 => by first | omega | (exfalso; apply q9; omega)), (Or.inr ⟨hr99, hz_27_0⟩), hz_27_1, hz_27_2, hz_27_3⟩
              exact z_iret C hr hlocks hW (rr, mn2_27, g2_27, f2_27, h2_27) rfl hP9 dX11_run_129
            ·
              have cut_81 : ∀ (to : Int), (RunE g2_27 fr mn2_27 to) → ∀ (H : Heap) (locs : List Loc) (ls : Array Slot), Wd G A s9.heap [(x, .inr (9, [.int (iI ln), .ref a1, .int (iI pl), .ref a3, .ref a4, .int (iI ri), .int (iI rr), .int (iI mn2_27), .ref a8, .ref a9, .int (iI nn), .ref a11, .int (iI fn), .ref a13, .int (iI lm), .ref a15, .ref a16, .ref a17, .ref a18, .ref a19, .ref a20])), (a3, .inl (G.2.1 0, 32, .inl (iA lw))), (a8, .inl (G.2.1 0, 2000, .inl (iA g2_27))), (a9, .inl (G.2.1 0, 60001, .inl (iA f2_27))), (a16, .inl (G.2.1 0, 5000, .inl (iA h2_27)))] H locs → lv_has ls 7 [(5, .int (iI ru)), (4, .int (iI fr)), (0, .ref x), (1, .int (iI rr)), (2, .int (iI k)), (3, .int (iI w)), (6, .int (iI to))] → W p9 l e9 (rmL 4) s9 m9 args below meth c9 H locs 0 0 Q (F0 m9 81 ls []) := by
                intro to hE H locs ls hW hl
                have hE1 := hE.1
                have hE2 := hE.2.1
                refine lv_iload C.1 C.2.1 dX11_run_81 (lv_at hl 0 rfl) ?_
                refine lv_iload_n C.1 C.2.1 dX11_run_83 rfl (lv_at hl 4 rfl) ?_
                refine z_icmp_ne (tgt := 117) C dX11_run_84 (by decide) (by omega) (fun c_84 => ?_) (fun c_84 => ?_)
                ·
                  refine lv_iinc (v := iI (ru + 1)) (lv' := [(5, .int (iI (ru + 1))), (4, .int (iI fr)), (0, .ref x), (1, .int (iI rr)), (2, .int (iI k)), (3, .int (iI w)), (6, .int (iI to))]) C.1 C.2.1 dX11_run_117 hl (k := 0) rfl (iI_add _ _) (by decide) rfl (fun ls hl => ?_)
                  refine lv_iload C.1 C.2.1 dX11_run_120 (lv_at hl 6 rfl) ?_
                  refine lv_istore (lv' := [(4, .int (iI to)), (5, .int (iI (ru + 1))), (0, .ref x), (1, .int (iI rr)), (2, .int (iI k)), (3, .int (iI w)), (6, .int (iI to))]) C.1 C.2.1 dX11_run_122 hl (by decide) rfl (fun ls hl => ?_)
                  refine lv_goto (tgt := 36) C.1 C.2.1 dX11_run_124 (by decide) ?_
                  exact ih_36 to (ru + 1) (by first | omega | assumption | (intros; first | rfl | omega | assumption | (and_intros <;> first | rfl | omega | assumption))) (by rw [show (ru + 1).toNat = ru.toNat + 1 by omega]; exact ⟨fr, hr2, by omega, hE⟩) (by omega) _ _ _ hW (lv_sub hl [1, 0, 2, 3, 4, 5] rfl)
                ·
                  refine lv_iload_n C.1 C.2.1 dX11_run_87 rfl (lv_at hl 5 rfl) ?_
                  refine z_if_ne (tgt := 101) C dX11_run_88 (by decide) (by omega) (fun c_88 => ?_) (fun c_88 => ?_)
                  ·
                    refine lv_iload_n C.1 C.2.1 dX11_run_101 rfl (lv_at hl 5 rfl) ?_
                    refine lv_iconst (v := iI 1) C.1 C.2.1 dX11_run_102 rfl ?_
                    refine z_icmp_ne (tgt := 114) C dX11_run_103 (by decide) (by omega) (fun c_103 => ?_) (fun c_103 => ?_)
                    ·
                      refine lv_iload C.1 C.2.1 dX11_run_114 (lv_at hl 1 rfl) ?_
                      rw [hQ]
                      have hP9 : ∃ z : Int, (some (Value.int (iI fr))) = some (.int (iI z)) ∧ ((0 ≤ rr ∧ rr ≤ 3) ∧ 0 ≤ k ∧ (0 ≤ w ∧ w ≤ 2) → RowL lw rr mn2_27 g2_27 ∧ RunQ g2_27 mn2_27 k w z) ∧ (¬ ((0 ≤ rr ∧ rr ≤ 3) ∧ 0 ≤ k ∧ (0 ≤ w ∧ w ≤ 2)) → z = -1) ∧ (LaidR lw rr mn2_27 g2_27) ∧ (BD g2_27) ∧ (BD f2_27) ∧ (BD h2_27) := ⟨_, rfl, (fun _ => ⟨hz_27_0, fr, Or.inl ⟨by omega, by omega, by rw [show k = ru by omega]; exact hr2⟩, fun q9 => by omega, fun _ => ⟨fun q9 => by first | rfl | omega, fun q9 => by first | exact ⟨to, hE, rfl⟩ | omega, fun q9 => by first | rfl | omega⟩⟩), (fun q9 => by first | omega | (exfalso; apply q9; omega)), (Or.inr ⟨hr99, hz_27_0⟩), hz_27_1, hz_27_2, hz_27_3⟩
                      exact z_iret C hr hlocks hW (rr, mn2_27, g2_27, f2_27, h2_27) rfl hP9 dX11_run_116
                    ·
                      refine lv_iload C.1 C.2.1 dX11_run_106 (lv_at hl 6 rfl) ?_
                      refine lv_iload C.1 C.2.1 dX11_run_108 (lv_at hl 1 rfl) ?_
                      refine z_isub C dX11_run_110 ?_
                      refine lv_goto (tgt := 116) C.1 C.2.1 dX11_run_111 (by decide) ?_
                      rw [hQ]
                      have hP9 : ∃ z : Int, (some (Value.int (iI (to - fr)))) = some (.int (iI z)) ∧ ((0 ≤ rr ∧ rr ≤ 3) ∧ 0 ≤ k ∧ (0 ≤ w ∧ w ≤ 2) → RowL lw rr mn2_27 g2_27 ∧ RunQ g2_27 mn2_27 k w z) ∧ (¬ ((0 ≤ rr ∧ rr ≤ 3) ∧ 0 ≤ k ∧ (0 ≤ w ∧ w ≤ 2)) → z = -1) ∧ (LaidR lw rr mn2_27 g2_27) ∧ (BD g2_27) ∧ (BD f2_27) ∧ (BD h2_27) := ⟨_, rfl, (fun _ => ⟨hz_27_0, fr, Or.inl ⟨by omega, by omega, by rw [show k = ru by omega]; exact hr2⟩, fun q9 => by omega, fun _ => ⟨fun q9 => by first | rfl | omega, fun q9 => by first | exact ⟨to, hE, rfl⟩ | omega, fun q9 => by first | rfl | omega⟩⟩), (fun q9 => by first | omega | (exfalso; apply q9; omega)), (Or.inr ⟨hr99, hz_27_0⟩), hz_27_1, hz_27_2, hz_27_3⟩
                      exact z_iret C hr hlocks hW (rr, mn2_27, g2_27, f2_27, h2_27) rfl hP9 dX11_run_116
                  ·
                    refine lv_aload_n C.1 C.2.1 dX11_run_91 rfl (lv_at hl 2 rfl) ?_
                    refine z_get C hK hW hin11 (v := .ref a8) 0 rfl rfl 8 (by decide) (C.2.2.2.2 (.fieldLink RX11 24 "TellingRowsModel" "row" "[I") (List.mem_of_getElem? (i := 3) rfl)) (fun _ h9 => h9) rfl dX11_run_92 ?_
                    refine lv_iload C.1 C.2.1 dX11_run_95 (lv_at hl 1 rfl) ?_
                    refine z_iald C hK hW 2 rfl (by omega) (by omega) dX11_run_97 ?_
                    have hb_97 := hz_27_1 fr
                    have hv3 := hV9 fr (by omega) (by omega)
                    refine lv_goto (tgt := 116) C.1 C.2.1 dX11_run_98 (by decide) ?_
                    rw [hQ]
                    have hP9 : ∃ z : Int, (some (Value.int (iI (g2_27 fr)))) = some (.int (iI z)) ∧ ((0 ≤ rr ∧ rr ≤ 3) ∧ 0 ≤ k ∧ (0 ≤ w ∧ w ≤ 2) → RowL lw rr mn2_27 g2_27 ∧ RunQ g2_27 mn2_27 k w z) ∧ (¬ ((0 ≤ rr ∧ rr ≤ 3) ∧ 0 ≤ k ∧ (0 ≤ w ∧ w ≤ 2)) → z = -1) ∧ (LaidR lw rr mn2_27 g2_27) ∧ (BD g2_27) ∧ (BD f2_27) ∧ (BD h2_27) := ⟨_, rfl, (fun _ => ⟨hz_27_0, fr, Or.inl ⟨by omega, by omega, by rw [show k = ru by omega]; exact hr2⟩, fun q9 => by omega, fun _ => ⟨fun q9 => by first | rfl | omega, fun q9 => by first | exact ⟨to, hE, rfl⟩ | omega, fun q9 => by first | rfl | omega⟩⟩), (fun q9 => by first | omega | (exfalso; apply q9; omega)), (Or.inr ⟨hr99, hz_27_0⟩), hz_27_1, hz_27_2, hz_27_3⟩
                    exact z_iret C hr hlocks hW (rr, mn2_27, g2_27, f2_27, h2_27) rfl hP9 dX11_run_116
              refine lv_iload C.1 C.2.1 dX11_run_45 (lv_at hl 1 rfl) ?_
              refine lv_istore (lv' := [(6, .int (iI fr)), (5, .int (iI ru)), (4, .int (iI fr)), (0, .ref x), (1, .int (iI rr)), (2, .int (iI k)), (3, .int (iI w))]) C.1 C.2.1 dX11_run_47 hl (by decide) rfl (fun ls hl => ?_)
              have cut_49 : ∀ (n9 : Nat) (to : Int), (fr ≤ to ∧ to ≤ mn2_27) → (∀ j, fr ≤ j → j < to → g2_27 j = g2_27 fr) → (mn2_27 - to < (n9 : Int)) → ∀ (H : Heap) (locs : List Loc) (ls : Array Slot), Wd G A s9.heap [(x, .inr (9, [.int (iI ln), .ref a1, .int (iI pl), .ref a3, .ref a4, .int (iI ri), .int (iI rr), .int (iI mn2_27), .ref a8, .ref a9, .int (iI nn), .ref a11, .int (iI fn), .ref a13, .int (iI lm), .ref a15, .ref a16, .ref a17, .ref a18, .ref a19, .ref a20])), (a3, .inl (G.2.1 0, 32, .inl (iA lw))), (a8, .inl (G.2.1 0, 2000, .inl (iA g2_27))), (a9, .inl (G.2.1 0, 60001, .inl (iA f2_27))), (a16, .inl (G.2.1 0, 5000, .inl (iA h2_27)))] H locs → lv_has ls 7 [(6, .int (iI to)), (5, .int (iI ru)), (4, .int (iI fr)), (0, .ref x), (1, .int (iI rr)), (2, .int (iI k)), (3, .int (iI w))] → W p9 l e9 (rmL 4) s9 m9 args below meth c9 H locs 0 0 Q (F0 m9 49 ls []) := by
                intro n9
                induction n9 with
                | zero => intro to hto he hmu; intros; exfalso; omega
                | succ n9 ih_49 =>
                  intro to hto he hmu H locs ls hW hl
                  refine lv_iload C.1 C.2.1 dX11_run_49 (lv_at hl 0 rfl) ?_
                  refine lv_aload_n C.1 C.2.1 dX11_run_51 rfl (lv_at hl 3 rfl) ?_
                  refine z_get C hK hW hin11 (v := .int (iI mn2_27)) 0 rfl rfl 7 (by decide) (C.2.2.2.2 (.fieldLink RX11 101 "TellingRowsModel" "many" "I") (List.mem_of_getElem? (i := 2) rfl)) (fun _ h9 => h9) rfl dX11_run_52 ?_
                  refine z_icmp_ge (tgt := 81) C dX11_run_55 (by decide) (by omega) (fun c_55 => ?_) (fun c_55 => ?_)
                  ·
                    exact cut_81 to ⟨(Int.lt_or_le fr to).elim id (fun q => by first | omega | exact absurd (by rw [show to = fr by omega]) c_72), by omega, he, fun q9 => by first | omega | exact c_72⟩ _ _ _ hW (lv_sub hl [1, 2, 3, 4, 5, 6, 0] rfl)
                  ·
                    refine lv_aload_n C.1 C.2.1 dX11_run_58 rfl (lv_at hl 3 rfl) ?_
                    refine z_get C hK hW hin11 (v := .ref a8) 0 rfl rfl 8 (by decide) (C.2.2.2.2 (.fieldLink RX11 24 "TellingRowsModel" "row" "[I") (List.mem_of_getElem? (i := 3) rfl)) (fun _ h9 => h9) rfl dX11_run_59 ?_
                    refine lv_iload C.1 C.2.1 dX11_run_62 (lv_at hl 0 rfl) ?_
                    refine z_iald C hK hW 2 rfl (by omega) (by omega) dX11_run_64 ?_
                    have hb_64 := hz_27_1 to
                    have hv1 := hV9 to (by omega) (by omega)
                    refine lv_aload_n C.1 C.2.1 dX11_run_65 rfl (lv_at hl 3 rfl) ?_
                    refine z_get C hK hW hin11 (v := .ref a8) 0 rfl rfl 8 (by decide) (C.2.2.2.2 (.fieldLink RX11 24 "TellingRowsModel" "row" "[I") (List.mem_of_getElem? (i := 3) rfl)) (fun _ h9 => h9) rfl dX11_run_66 ?_
                    refine lv_iload C.1 C.2.1 dX11_run_69 (lv_at hl 2 rfl) ?_
                    refine z_iald C hK hW 2 rfl (by omega) (by omega) dX11_run_71 ?_
                    have hb_71 := hz_27_1 fr
                    have hv2 := hV9 fr (by omega) (by omega)
                    refine z_icmp_ne (tgt := 81) C dX11_run_72 (by decide) (by omega) (fun c_72 => ?_) (fun c_72 => ?_)
                    ·
                      exact cut_81 to ⟨(Int.lt_or_le fr to).elim id (fun q => by first | omega | exact absurd (by rw [show to = fr by omega]) c_72), by omega, he, fun q9 => by first | omega | exact c_72⟩ _ _ _ hW (lv_sub hl [1, 2, 3, 4, 5, 6, 0] rfl)
                    ·
                      refine lv_iinc (v := iI (to + 1)) (lv' := [(6, .int (iI (to + 1))), (5, .int (iI ru)), (4, .int (iI fr)), (0, .ref x), (1, .int (iI rr)), (2, .int (iI k)), (3, .int (iI w))]) C.1 C.2.1 dX11_run_75 hl (k := 0) rfl (iI_add _ _) (by decide) rfl (fun ls hl => ?_)
                      refine lv_goto (tgt := 49) C.1 C.2.1 dX11_run_78 (by decide) ?_
                      exact ih_49 (to + 1) (by first | omega | assumption | (intros; first | rfl | omega | assumption | (and_intros <;> first | rfl | omega | assumption))) (fun j j0 j1 => if q : j = to then (by rw [q]; omega) else he j j0 (by omega)) (by omega) _ _ _ hW (lv_sub hl [0, 1, 2, 3, 4, 5, 6] rfl)
              exact cut_49 (((mn2_27 - fr) + 1 : Int)).toNat fr (by first | omega | assumption | (intros; first | rfl | omega | assumption | (and_intros <;> first | rfl | omega | assumption))) (fun j j0 j1 => by omega) (by omega) _ _ _ hW (lv_sub hl [0, 1, 2, 3, 4, 5, 6] rfl)
        exact cut_36 (((mn2_27 - 0) + 1 : Int)).toNat 0 0 (by first | omega | assumption | (intros; first | rfl | omega | assumption | (and_intros <;> first | rfl | omega | assumption))) rfl (by omega) _ _ _ hW (lv_sub hl [0, 1, 2, 3, 4, 5] rfl)
      ·
        refine lv_iconst (v := iI (-1)) C.1 C.2.1 dX11_run_23 rfl ?_
        rw [hQ]
        have hP9 : ∃ z : Int, (some (Value.int (iI (-1)))) = some (.int (iI z)) ∧ ((0 ≤ rr ∧ rr ≤ 3) ∧ 0 ≤ k ∧ (0 ≤ w ∧ w ≤ 2) → RowL lw rr mn g ∧ RunQ g mn k w z) ∧ (¬ ((0 ≤ rr ∧ rr ≤ 3) ∧ 0 ≤ k ∧ (0 ≤ w ∧ w ≤ 2)) → z = -1) ∧ (LaidR lw ld mn g) ∧ (BD g) ∧ (BD f) ∧ (BD h) := ⟨_, rfl, (fun q9 => by omega), (fun _ => rfl), hLd, hg, hf, hh⟩
        exact z_iret C hr hlocks hW (ld, mn, g, f, h) rfl hP9 dX11_run_24
set_option maxHeartbeats 4000000 in
set_option maxRecDepth 100000 in
/-- X11_most -/
theorem c_X11_most (l : Launch) (G : GG) (x : Nat) (ln : Int) (a1 : Nat) (pl : Int) (a3 : Nat) (a4 : Nat) (ri : Int) (ld : Int) (mn : Int) (a8 : Nat) (a9 : Nat) (nn : Int) (a11 : Nat) (fn : Int) (a13 : Nat) (lm : Int) (a15 : Nat) (a16 : Nat) (a17 : Nat) (a18 : Nat) (a19 : Nat) (a20 : Nat) (lw : Int → Int) (g : Int → Int) (f : Int → Int) (h : Int → Int) (rr : Int) (n : Int) (w : Int) (hLw : LawR lw) (hlw : BD lw) (hg : BD g) (hf : BD f) (hh : BD h) (hLd : LaidR lw ld mn g) (hrr : -2147483648 ≤ rr ∧ rr ≤ 2147483647) (hn : -2147483648 ≤ n ∧ n ≤ 2147483647) (hw : -2147483648 ≤ w ∧ w ≤ 2147483647) : MQc l yX11_most wsX11_most 4 G [.ref x, .int (iI rr), .int (iI n), .int (iI w)] [(x, .inr (9, [.int (iI ln), .ref a1, .int (iI pl), .ref a3, .ref a4, .int (iI ri), .int (iI ld), .int (iI mn), .ref a8, .ref a9, .int (iI nn), .ref a11, .int (iI fn), .ref a13, .int (iI lm), .ref a15, .ref a16, .ref a17, .ref a18, .ref a19, .ref a20])), (a3, .inl (G.2.1 0, 32, .inl (iA lw))), (a8, .inl (G.2.1 0, 2000, .inl (iA g))), (a9, .inl (G.2.1 0, 60001, .inl (iA f))), (a16, .inl (G.2.1 0, 5000, .inl (iA h)))] (fun r (u : Int × Int × (Int → Int) × (Int → Int) × (Int → Int)) => ∃ z : Int, r = some (.int (iI z)) ∧ ((0 ≤ rr ∧ rr ≤ 3) ∧ (1 ≤ n ∧ n ≤ 2000) ∧ (0 ≤ w ∧ w ≤ 3) → RowL lw rr u.2.1 u.2.2.1 ∧ MostQ u.2.2.1 u.2.1 n w z) ∧ (¬ ((0 ≤ rr ∧ rr ≤ 3) ∧ (1 ≤ n ∧ n ≤ 2000) ∧ (0 ≤ w ∧ w ≤ 3)) → z = -1) ∧ (LaidR lw u.1 u.2.1 u.2.2.1) ∧ (BD u.2.2.1) ∧ (BD u.2.2.2.1) ∧ (BD u.2.2.2.2)) (fun u => [(x, .inr (9, [.int (iI ln), .ref a1, .int (iI pl), .ref a3, .ref a4, .int (iI ri), .int (iI u.1), .int (iI u.2.1), .ref a8, .ref a9, .int (iI nn), .ref a11, .int (iI fn), .ref a13, .int (iI lm), .ref a15, .ref a16, .ref a17, .ref a18, .ref a19, .ref a20])), (a3, .inl (G.2.1 0, 32, .inl (iA lw))), (a8, .inl (G.2.1 0, 2000, .inl (iA u.2.2.1))), (a9, .inl (G.2.1 0, 60001, .inl (iA u.2.2.2.1))), (a16, .inl (G.2.1 0, 5000, .inl (iA u.2.2.2.2)))]) := by
  refine MQc.start (own := RX11) (by decide) rfl rfl (Nat.le_of_ble_eq_true rfl) ?_
  intro p9 e9 s9 m9 args below meth c9 A Q C hK hW hA hr hlocks hQ ls hl
  have hl : lv_has ls 11 [(0, .ref x), (1, .int (iI rr)), (2, .int (iI n)), (3, .int (iI w))] := hl
  have hin11 : ∀ w ∈ wsX110, w ∈ wsX11_most := by decide +kernel
  refine lv_iload_n C.1 C.2.1 dX11_most_0 rfl (lv_at hl 1 rfl) ?_
  refine z_callR (va_runS (As := [.int (iI rr)]) (rest := []) C (c_X11_isRegister l G rr hrr s9.heap.size) (va_cwS 1 C.2.2.2.2 gX11_most_X11_isRegister rfl rfl rfl (by decide +kernel) ⟨Nat.le_of_ble_eq_true rfl, Nat.le_of_ble_eq_true rfl⟩) (z_preS hK hW hA [] rfl (by decide)) rfl rfl hl.1 rfl (lv_room (Nat.le_of_ble_eq_true rfl)) dX11_most_1 ⟨Nat.zero_le _, Nat.zero_le _⟩) (fun r hp => ?_)
  have hp : ∃ z : Int, r = some (.int (iI z)) ∧ ((z = 1 ∧ (0 ≤ rr ∧ rr ≤ 3)) ∨ (z = 0 ∧ ¬ (0 ≤ rr ∧ rr ≤ 3))) := hp
  obtain ⟨z_1, rfl, hz_1_0⟩ := hp
  refine z_if_eq (tgt := 31) C dX11_most_4 (by decide) (by omega) (fun c_4 => ?_) (fun c_4 => ?_)
  ·
    refine lv_iconst (v := iI (-1)) C.1 C.2.1 dX11_most_31 rfl ?_
    rw [hQ]
    have hP9 : ∃ z : Int, (some (Value.int (iI (-1)))) = some (.int (iI z)) ∧ ((0 ≤ rr ∧ rr ≤ 3) ∧ (1 ≤ n ∧ n ≤ 2000) ∧ (0 ≤ w ∧ w ≤ 3) → RowL lw rr mn g ∧ MostQ g mn n w z) ∧ (¬ ((0 ≤ rr ∧ rr ≤ 3) ∧ (1 ≤ n ∧ n ≤ 2000) ∧ (0 ≤ w ∧ w ≤ 3)) → z = -1) ∧ (LaidR lw ld mn g) ∧ (BD g) ∧ (BD f) ∧ (BD h) := ⟨_, rfl, (fun q9 => by omega), (fun _ => rfl), hLd, hg, hf, hh⟩
    exact z_iret C hr hlocks hW (ld, mn, g, f, h) rfl hP9 dX11_most_32
  ·
    refine lv_iload_n C.1 C.2.1 dX11_most_7 rfl (lv_at hl 2 rfl) ?_
    refine z_i2l C dX11_most_8 (by omega) ?_
    refine lv_lconst (v := lI 1) C.1 C.2.1 dX11_most_9 rfl ?_
    refine z_ldc2 (z := 2000) C (C.2.2.2.2 (.constantLong RX11 131 (2000)) (List.mem_of_getElem? (i := 1) rfl)) (by decide +kernel) dX11_most_10 ?_
    refine z_callR (va_runS (As := [.long (lI n), .long (lI 1), .long (lI 2000)]) (rest := []) C (c_X11_in l G n 1 2000 (by first | omega | assumption | (intros; first | rfl | omega | assumption | (and_intros <;> first | rfl | omega | assumption))) (by first | omega | assumption | (intros; first | rfl | omega | assumption | (and_intros <;> first | rfl | omega | assumption))) (by first | omega | assumption | (intros; first | rfl | omega | assumption | (and_intros <;> first | rfl | omega | assumption))) s9.heap.size) (va_cwS 3 C.2.2.2.2 gX11_most_X11_in rfl rfl rfl (by decide +kernel) ⟨Nat.le_of_ble_eq_true rfl, Nat.le_of_ble_eq_true rfl⟩) (z_preS hK hW hA [] rfl (by decide)) rfl rfl hl.1 rfl (lv_room (Nat.le_of_ble_eq_true rfl)) dX11_most_13 ⟨Nat.zero_le _, Nat.zero_le _⟩) (fun r hp => ?_)
    have hp : ∃ z : Int, r = some (.int (iI z)) ∧ ((z = 1 ∧ ((1 : Int) ≤ n ∧ n ≤ (2000 : Int))) ∨ (z = 0 ∧ ¬ ((1 : Int) ≤ n ∧ n ≤ (2000 : Int)))) := hp
    obtain ⟨z_13, rfl, hz_13_0⟩ := hp
    refine z_if_eq (tgt := 31) C dX11_most_16 (by decide) (by omega) (fun c_16 => ?_) (fun c_16 => ?_)
    ·
      refine lv_iconst (v := iI (-1)) C.1 C.2.1 dX11_most_31 rfl ?_
      rw [hQ]
      have hP9 : ∃ z : Int, (some (Value.int (iI (-1)))) = some (.int (iI z)) ∧ ((0 ≤ rr ∧ rr ≤ 3) ∧ (1 ≤ n ∧ n ≤ 2000) ∧ (0 ≤ w ∧ w ≤ 3) → RowL lw rr mn g ∧ MostQ g mn n w z) ∧ (¬ ((0 ≤ rr ∧ rr ≤ 3) ∧ (1 ≤ n ∧ n ≤ 2000) ∧ (0 ≤ w ∧ w ≤ 3)) → z = -1) ∧ (LaidR lw ld mn g) ∧ (BD g) ∧ (BD f) ∧ (BD h) := ⟨_, rfl, (fun q9 => by omega), (fun _ => rfl), hLd, hg, hf, hh⟩
      exact z_iret C hr hlocks hW (ld, mn, g, f, h) rfl hP9 dX11_most_32
    ·
      refine lv_iload_n C.1 C.2.1 dX11_most_19 rfl (lv_at hl 3 rfl) ?_
      refine z_i2l C dX11_most_20 (by omega) ?_
      refine lv_lconst (v := lI 0) C.1 C.2.1 dX11_most_21 rfl ?_
      refine z_ldc2 (z := 3) C (C.2.2.2.2 (.constantLong RX11 82 (3)) (List.mem_of_getElem? (i := 2) rfl)) (by decide +kernel) dX11_most_22 ?_
      refine z_callR (va_runS (As := [.long (lI w), .long (lI 0), .long (lI 3)]) (rest := []) C (c_X11_in l G w 0 3 (by first | omega | assumption | (intros; first | rfl | omega | assumption | (and_intros <;> first | rfl | omega | assumption))) (by first | omega | assumption | (intros; first | rfl | omega | assumption | (and_intros <;> first | rfl | omega | assumption))) (by first | omega | assumption | (intros; first | rfl | omega | assumption | (and_intros <;> first | rfl | omega | assumption))) s9.heap.size) (va_cwS 3 C.2.2.2.2 gX11_most_X11_in rfl rfl rfl (by decide +kernel) ⟨Nat.le_of_ble_eq_true rfl, Nat.le_of_ble_eq_true rfl⟩) (z_preS hK hW hA [] rfl (by decide)) rfl rfl hl.1 rfl (lv_room (Nat.le_of_ble_eq_true rfl)) dX11_most_25 ⟨Nat.zero_le _, Nat.zero_le _⟩) (fun r hp => ?_)
      have hp : ∃ z : Int, r = some (.int (iI z)) ∧ ((z = 1 ∧ ((0 : Int) ≤ w ∧ w ≤ (3 : Int))) ∨ (z = 0 ∧ ¬ ((0 : Int) ≤ w ∧ w ≤ (3 : Int)))) := hp
      obtain ⟨z_25, rfl, hz_25_0⟩ := hp
      refine z_if_ne (tgt := 33) C dX11_most_28 (by decide) (by omega) (fun c_28 => ?_) (fun c_28 => ?_)
      ·
        refine lv_aload_n C.1 C.2.1 dX11_most_33 rfl (lv_at hl 0 rfl) ?_
        refine lv_iload_n C.1 C.2.1 dX11_most_34 rfl (lv_at hl 1 rfl) ?_
        refine z_call (va_runV (As := [.int (iI rr)]) (rest := []) C (c_X11_lays l G x ln a1 pl a3 a4 ri ld mn a8 a9 nn a11 fn a13 lm a15 a16 a17 a18 a19 a20 lw g f h rr hLw hlw hg hf hh hLd (by first | omega | assumption | (intros; first | rfl | omega | assumption | (and_intros <;> first | rfl | omega | assumption))) s9.heap.size) (cwV 1 C.2.2.2.2 gX11_most_X11_lays rfl rfl rfl (by decide +kernel) ⟨Nat.le_of_ble_eq_true rfl, Nat.le_of_ble_eq_true rfl⟩) (z_preV hK hW hA [0, 1, 2, 3, 4] rfl (by decide) (ci := 9) (q0 := 0) rfl rfl) rfl rfl hl.1 rfl (lv_room (Nat.le_of_ble_eq_true rfl)) dX11_most_35 ⟨Nat.zero_le _, Nat.zero_le _⟩) hW hA [0, 1, 2, 3, 4] rfl (by decide) (fun _ => rfl) (fun r u H locs hp hW => ?_)
        obtain ⟨mn2_35, g2_35, f2_35, h2_35⟩ := u
        have hp : r = none ∧ (RowL lw rr mn2_35 g2_35) ∧ (BD g2_35) ∧ (BD f2_35) ∧ (BD h2_35) := hp
        obtain ⟨rfl, hz_35_0, hz_35_1, hz_35_2, hz_35_3⟩ := hp
        have hW : Wd G A s9.heap [(x, .inr (9, [.int (iI ln), .ref a1, .int (iI pl), .ref a3, .ref a4, .int (iI ri), .int (iI rr), .int (iI mn2_35), .ref a8, .ref a9, .int (iI nn), .ref a11, .int (iI fn), .ref a13, .int (iI lm), .ref a15, .ref a16, .ref a17, .ref a18, .ref a19, .ref a20])), (a3, .inl (G.2.1 0, 32, .inl (iA lw))), (a8, .inl (G.2.1 0, 2000, .inl (iA g2_35))), (a9, .inl (G.2.1 0, 60001, .inl (iA f2_35))), (a16, .inl (G.2.1 0, 5000, .inl (iA h2_35)))] H locs := hW
        have hr99 : 0 ≤ rr ∧ rr ≤ 3 := by omega
        have hRb := RowL_b hz_35_0
        have hRm := hRb.1
        have hV9 := hRb.2
        refine lv_iconst (v := iI 0) C.1 C.2.1 dX11_most_38 rfl ?_
        refine lv_istore (lv' := [(4, .int (iI 0)), (0, .ref x), (1, .int (iI rr)), (2, .int (iI n)), (3, .int (iI w))]) C.1 C.2.1 dX11_most_39 hl (by decide) rfl (fun ls hl => ?_)
        refine lv_iconst (v := iI 0) C.1 C.2.1 dX11_most_41 rfl ?_
        refine lv_istore (lv' := [(5, .int (iI 0)), (4, .int (iI 0)), (0, .ref x), (1, .int (iI rr)), (2, .int (iI n)), (3, .int (iI w))]) C.1 C.2.1 dX11_most_42 hl (by decide) rfl (fun ls hl => ?_)
        refine lv_iconst (v := iI 0) C.1 C.2.1 dX11_most_44 rfl ?_
        refine lv_istore (lv' := [(6, .int (iI 0)), (5, .int (iI 0)), (4, .int (iI 0)), (0, .ref x), (1, .int (iI rr)), (2, .int (iI n)), (3, .int (iI w))]) C.1 C.2.1 dX11_most_45 hl (by decide) rfl (fun ls hl => ?_)
        refine lv_iconst (v := iI 0) C.1 C.2.1 dX11_most_47 rfl ?_
        refine lv_istore (lv' := [(7, .int (iI 0)), (6, .int (iI 0)), (5, .int (iI 0)), (4, .int (iI 0)), (0, .ref x), (1, .int (iI rr)), (2, .int (iI n)), (3, .int (iI w))]) C.1 C.2.1 dX11_most_48 hl (by decide) rfl (fun ls hl => ?_)
        refine lv_iconst (v := iI 0) C.1 C.2.1 dX11_most_50 rfl ?_
        refine lv_istore (lv' := [(8, .int (iI 0)), (7, .int (iI 0)), (6, .int (iI 0)), (5, .int (iI 0)), (4, .int (iI 0)), (0, .ref x), (1, .int (iI rr)), (2, .int (iI n)), (3, .int (iI w))]) C.1 C.2.1 dX11_most_51 hl (by decide) rfl (fun ls hl => ?_)
        have cut_53 : ∀ (n9 : Nat) (b : Int) (lg : Int) (ru : Int) (un : Int) (i : Int), (0 ≤ i ∧ i ≤ mn2_35 ∧ i ≤ n) → (0 ≤ b ∧ b < mn2_35) → ((i = 0 ∧ b = 0) ∨ BestR g2_35 i b) → (RlR g2_35 i ru) → ((i = 0 ∧ lg = 0) ∨ LongR g2_35 i lg) → (0 ≤ lg ∧ lg ≤ 2000) → (un = dst g2_35 i) → (mn2_35 - i < (n9 : Int)) → ∀ (H : Heap) (locs : List Loc) (ls : Array Slot), Wd G A s9.heap [(x, .inr (9, [.int (iI ln), .ref a1, .int (iI pl), .ref a3, .ref a4, .int (iI ri), .int (iI rr), .int (iI mn2_35), .ref a8, .ref a9, .int (iI nn), .ref a11, .int (iI fn), .ref a13, .int (iI lm), .ref a15, .ref a16, .ref a17, .ref a18, .ref a19, .ref a20])), (a3, .inl (G.2.1 0, 32, .inl (iA lw))), (a8, .inl (G.2.1 0, 2000, .inl (iA g2_35))), (a9, .inl (G.2.1 0, 60001, .inl (iA f2_35))), (a16, .inl (G.2.1 0, 5000, .inl (iA h2_35)))] H locs → lv_has ls 11 [(8, .int (iI i)), (7, .int (iI un)), (6, .int (iI ru)), (5, .int (iI lg)), (4, .int (iI b)), (0, .ref x), (1, .int (iI rr)), (2, .int (iI n)), (3, .int (iI w))] → W p9 l e9 (rmL 4) s9 m9 args below meth c9 H locs 0 0 Q (F0 m9 53 ls []) := by
          intro n9
          induction n9 with
          | zero => intro b lg ru un i hi hbb hbe hru hlo hlb hun hmu; intros; exfalso; omega
          | succ n9 ih_53 =>
            intro b lg ru un i hi hbb hbe hru hlo hlb hun hmu H locs ls hW hl
            have hrub := hru.1
            have hdb := dst_b (g := g2_35) (n := i) hi.1
            refine lv_iload C.1 C.2.1 dX11_most_53 (lv_at hl 0 rfl) ?_
            refine lv_aload_n C.1 C.2.1 dX11_most_55 rfl (lv_at hl 5 rfl) ?_
            refine z_get C hK hW hin11 (v := .int (iI mn2_35)) 0 rfl rfl 7 (by decide) (C.2.2.2.2 (.fieldLink RX11 101 "TellingRowsModel" "many" "I") (List.mem_of_getElem? (i := 3) rfl)) (fun _ h9 => h9) rfl dX11_most_56 ?_
            refine z_icmp_ge (tgt := 213) C dX11_most_59 (by decide) (by omega) (fun c_59 => ?_) (fun c_59 => ?_)
            ·
              refine lv_iload_n C.1 C.2.1 dX11_most_213 rfl (lv_at hl 8 rfl) ?_
              refine z_if_ne (tgt := 227) C dX11_most_214 (by decide) (by omega) (fun c_214 => ?_) (fun c_214 => ?_)
              ·
                refine lv_iload_n C.1 C.2.1 dX11_most_227 rfl (lv_at hl 8 rfl) ?_
                refine lv_iconst (v := iI 1) C.1 C.2.1 dX11_most_228 rfl ?_
                refine z_icmp_ne (tgt := 237) C dX11_most_229 (by decide) (by omega) (fun c_229 => ?_) (fun c_229 => ?_)
                ·
                  refine lv_iload_n C.1 C.2.1 dX11_most_237 rfl (lv_at hl 8 rfl) ?_
                  refine lv_iconst (v := iI 2) C.1 C.2.1 dX11_most_238 rfl ?_
                  refine z_icmp_ne (tgt := 247) C dX11_most_239 (by decide) (by omega) (fun c_239 => ?_) (fun c_239 => ?_)
                  ·
                    refine lv_iload C.1 C.2.1 dX11_most_247 (lv_at hl 1 rfl) ?_
                    rw [hQ]
                    have hP9 : ∃ z : Int, (some (Value.int (iI un))) = some (.int (iI z)) ∧ ((0 ≤ rr ∧ rr ≤ 3) ∧ (1 ≤ n ∧ n ≤ 2000) ∧ (0 ≤ w ∧ w ≤ 3) → RowL lw rr mn2_35 g2_35 ∧ MostQ g2_35 mn2_35 n w z) ∧ (¬ ((0 ≤ rr ∧ rr ≤ 3) ∧ (1 ≤ n ∧ n ≤ 2000) ∧ (0 ≤ w ∧ w ≤ 3)) → z = -1) ∧ (LaidR lw rr mn2_35 g2_35) ∧ (BD g2_35) ∧ (BD f2_35) ∧ (BD h2_35) := ⟨_, rfl, (fun _ => ⟨hz_35_0, by have hmi : min n mn2_35 = i := (by omega); unfold MostQ; rw [hmi]; have hB := hbe.elim (fun q => absurd q.1 (by omega)) id; have hL := hlo.elim (fun q => absurd q.1 (by omega)) id; exact ⟨fun q9 => by first | exact BestR_max hB | omega, fun q9 => by first | exact ⟨_, BestR_max hB, BestR_first hB (by omega)⟩ | omega, fun q9 => by first | exact hL | omega, fun q9 => by first | exact hun | omega⟩⟩), (fun q9 => by first | omega | (exfalso; apply q9; omega)), (Or.inr ⟨hr99, hz_35_0⟩), hz_35_1, hz_35_2, hz_35_3⟩
                    exact z_iret C hr hlocks hW (rr, mn2_35, g2_35, f2_35, h2_35) rfl hP9 dX11_most_249
                  ·
                    refine lv_iload C.1 C.2.1 dX11_most_242 (lv_at hl 3 rfl) ?_
                    refine lv_goto (tgt := 249) C.1 C.2.1 dX11_most_244 (by decide) ?_
                    rw [hQ]
                    have hP9 : ∃ z : Int, (some (Value.int (iI lg))) = some (.int (iI z)) ∧ ((0 ≤ rr ∧ rr ≤ 3) ∧ (1 ≤ n ∧ n ≤ 2000) ∧ (0 ≤ w ∧ w ≤ 3) → RowL lw rr mn2_35 g2_35 ∧ MostQ g2_35 mn2_35 n w z) ∧ (¬ ((0 ≤ rr ∧ rr ≤ 3) ∧ (1 ≤ n ∧ n ≤ 2000) ∧ (0 ≤ w ∧ w ≤ 3)) → z = -1) ∧ (LaidR lw rr mn2_35 g2_35) ∧ (BD g2_35) ∧ (BD f2_35) ∧ (BD h2_35) := ⟨_, rfl, (fun _ => ⟨hz_35_0, by have hmi : min n mn2_35 = i := (by omega); unfold MostQ; rw [hmi]; have hB := hbe.elim (fun q => absurd q.1 (by omega)) id; have hL := hlo.elim (fun q => absurd q.1 (by omega)) id; exact ⟨fun q9 => by first | exact BestR_max hB | omega, fun q9 => by first | exact ⟨_, BestR_max hB, BestR_first hB (by omega)⟩ | omega, fun q9 => by first | exact hL | omega, fun q9 => by first | exact hun | omega⟩⟩), (fun q9 => by first | omega | (exfalso; apply q9; omega)), (Or.inr ⟨hr99, hz_35_0⟩), hz_35_1, hz_35_2, hz_35_3⟩
                    exact z_iret C hr hlocks hW (rr, mn2_35, g2_35, f2_35, h2_35) rfl hP9 dX11_most_249
                ·
                  refine lv_iload C.1 C.2.1 dX11_most_232 (lv_at hl 4 rfl) ?_
                  refine lv_goto (tgt := 249) C.1 C.2.1 dX11_most_234 (by decide) ?_
                  rw [hQ]
                  have hP9 : ∃ z : Int, (some (Value.int (iI b))) = some (.int (iI z)) ∧ ((0 ≤ rr ∧ rr ≤ 3) ∧ (1 ≤ n ∧ n ≤ 2000) ∧ (0 ≤ w ∧ w ≤ 3) → RowL lw rr mn2_35 g2_35 ∧ MostQ g2_35 mn2_35 n w z) ∧ (¬ ((0 ≤ rr ∧ rr ≤ 3) ∧ (1 ≤ n ∧ n ≤ 2000) ∧ (0 ≤ w ∧ w ≤ 3)) → z = -1) ∧ (LaidR lw rr mn2_35 g2_35) ∧ (BD g2_35) ∧ (BD f2_35) ∧ (BD h2_35) := ⟨_, rfl, (fun _ => ⟨hz_35_0, by have hmi : min n mn2_35 = i := (by omega); unfold MostQ; rw [hmi]; have hB := hbe.elim (fun q => absurd q.1 (by omega)) id; have hL := hlo.elim (fun q => absurd q.1 (by omega)) id; exact ⟨fun q9 => by first | exact BestR_max hB | omega, fun q9 => by first | exact ⟨_, BestR_max hB, BestR_first hB (by omega)⟩ | omega, fun q9 => by first | exact hL | omega, fun q9 => by first | exact hun | omega⟩⟩), (fun q9 => by first | omega | (exfalso; apply q9; omega)), (Or.inr ⟨hr99, hz_35_0⟩), hz_35_1, hz_35_2, hz_35_3⟩
                  exact z_iret C hr hlocks hW (rr, mn2_35, g2_35, f2_35, h2_35) rfl hP9 dX11_most_249
              ·
                refine lv_aload_n C.1 C.2.1 dX11_most_217 rfl (lv_at hl 5 rfl) ?_
                refine z_get C hK hW hin11 (v := .ref a8) 0 rfl rfl 8 (by decide) (C.2.2.2.2 (.fieldLink RX11 24 "TellingRowsModel" "row" "[I") (List.mem_of_getElem? (i := 4) rfl)) (fun _ h9 => h9) rfl dX11_most_218 ?_
                refine lv_iload C.1 C.2.1 dX11_most_221 (lv_at hl 4 rfl) ?_
                refine z_iald C hK hW 2 rfl (by omega) (by omega) dX11_most_223 ?_
                have hb_223 := hz_35_1 b
                have hv7 := hV9 b (by omega) (by omega)
                refine lv_goto (tgt := 249) C.1 C.2.1 dX11_most_224 (by decide) ?_
                rw [hQ]
                have hP9 : ∃ z : Int, (some (Value.int (iI (g2_35 b)))) = some (.int (iI z)) ∧ ((0 ≤ rr ∧ rr ≤ 3) ∧ (1 ≤ n ∧ n ≤ 2000) ∧ (0 ≤ w ∧ w ≤ 3) → RowL lw rr mn2_35 g2_35 ∧ MostQ g2_35 mn2_35 n w z) ∧ (¬ ((0 ≤ rr ∧ rr ≤ 3) ∧ (1 ≤ n ∧ n ≤ 2000) ∧ (0 ≤ w ∧ w ≤ 3)) → z = -1) ∧ (LaidR lw rr mn2_35 g2_35) ∧ (BD g2_35) ∧ (BD f2_35) ∧ (BD h2_35) := ⟨_, rfl, (fun _ => ⟨hz_35_0, by have hmi : min n mn2_35 = i := (by omega); unfold MostQ; rw [hmi]; have hB := hbe.elim (fun q => absurd q.1 (by omega)) id; have hL := hlo.elim (fun q => absurd q.1 (by omega)) id; exact ⟨fun q9 => by first | exact BestR_max hB | omega, fun q9 => by first | exact ⟨_, BestR_max hB, BestR_first hB (by omega)⟩ | omega, fun q9 => by first | exact hL | omega, fun q9 => by first | exact hun | omega⟩⟩), (fun q9 => by first | omega | (exfalso; apply q9; omega)), (Or.inr ⟨hr99, hz_35_0⟩), hz_35_1, hz_35_2, hz_35_3⟩
                exact z_iret C hr hlocks hW (rr, mn2_35, g2_35, f2_35, h2_35) rfl hP9 dX11_most_249
            ·
              refine lv_iload C.1 C.2.1 dX11_most_62 (lv_at hl 0 rfl) ?_
              refine lv_iload_n C.1 C.2.1 dX11_most_64 rfl (lv_at hl 7 rfl) ?_
              refine z_icmp_ge (tgt := 213) C dX11_most_65 (by decide) (by omega) (fun c_65 => ?_) (fun c_65 => ?_)
              ·
                refine lv_iload_n C.1 C.2.1 dX11_most_213 rfl (lv_at hl 8 rfl) ?_
                refine z_if_ne (tgt := 227) C dX11_most_214 (by decide) (by omega) (fun c_214 => ?_) (fun c_214 => ?_)
                ·
                  refine lv_iload_n C.1 C.2.1 dX11_most_227 rfl (lv_at hl 8 rfl) ?_
                  refine lv_iconst (v := iI 1) C.1 C.2.1 dX11_most_228 rfl ?_
                  refine z_icmp_ne (tgt := 237) C dX11_most_229 (by decide) (by omega) (fun c_229 => ?_) (fun c_229 => ?_)
                  ·
                    refine lv_iload_n C.1 C.2.1 dX11_most_237 rfl (lv_at hl 8 rfl) ?_
                    refine lv_iconst (v := iI 2) C.1 C.2.1 dX11_most_238 rfl ?_
                    refine z_icmp_ne (tgt := 247) C dX11_most_239 (by decide) (by omega) (fun c_239 => ?_) (fun c_239 => ?_)
                    ·
                      refine lv_iload C.1 C.2.1 dX11_most_247 (lv_at hl 1 rfl) ?_
                      rw [hQ]
                      have hP9 : ∃ z : Int, (some (Value.int (iI un))) = some (.int (iI z)) ∧ ((0 ≤ rr ∧ rr ≤ 3) ∧ (1 ≤ n ∧ n ≤ 2000) ∧ (0 ≤ w ∧ w ≤ 3) → RowL lw rr mn2_35 g2_35 ∧ MostQ g2_35 mn2_35 n w z) ∧ (¬ ((0 ≤ rr ∧ rr ≤ 3) ∧ (1 ≤ n ∧ n ≤ 2000) ∧ (0 ≤ w ∧ w ≤ 3)) → z = -1) ∧ (LaidR lw rr mn2_35 g2_35) ∧ (BD g2_35) ∧ (BD f2_35) ∧ (BD h2_35) := ⟨_, rfl, (fun _ => ⟨hz_35_0, by have hmi : min n mn2_35 = i := (by omega); unfold MostQ; rw [hmi]; have hB := hbe.elim (fun q => absurd q.1 (by omega)) id; have hL := hlo.elim (fun q => absurd q.1 (by omega)) id; exact ⟨fun q9 => by first | exact BestR_max hB | omega, fun q9 => by first | exact ⟨_, BestR_max hB, BestR_first hB (by omega)⟩ | omega, fun q9 => by first | exact hL | omega, fun q9 => by first | exact hun | omega⟩⟩), (fun q9 => by first | omega | (exfalso; apply q9; omega)), (Or.inr ⟨hr99, hz_35_0⟩), hz_35_1, hz_35_2, hz_35_3⟩
                      exact z_iret C hr hlocks hW (rr, mn2_35, g2_35, f2_35, h2_35) rfl hP9 dX11_most_249
                    ·
                      refine lv_iload C.1 C.2.1 dX11_most_242 (lv_at hl 3 rfl) ?_
                      refine lv_goto (tgt := 249) C.1 C.2.1 dX11_most_244 (by decide) ?_
                      rw [hQ]
                      have hP9 : ∃ z : Int, (some (Value.int (iI lg))) = some (.int (iI z)) ∧ ((0 ≤ rr ∧ rr ≤ 3) ∧ (1 ≤ n ∧ n ≤ 2000) ∧ (0 ≤ w ∧ w ≤ 3) → RowL lw rr mn2_35 g2_35 ∧ MostQ g2_35 mn2_35 n w z) ∧ (¬ ((0 ≤ rr ∧ rr ≤ 3) ∧ (1 ≤ n ∧ n ≤ 2000) ∧ (0 ≤ w ∧ w ≤ 3)) → z = -1) ∧ (LaidR lw rr mn2_35 g2_35) ∧ (BD g2_35) ∧ (BD f2_35) ∧ (BD h2_35) := ⟨_, rfl, (fun _ => ⟨hz_35_0, by have hmi : min n mn2_35 = i := (by omega); unfold MostQ; rw [hmi]; have hB := hbe.elim (fun q => absurd q.1 (by omega)) id; have hL := hlo.elim (fun q => absurd q.1 (by omega)) id; exact ⟨fun q9 => by first | exact BestR_max hB | omega, fun q9 => by first | exact ⟨_, BestR_max hB, BestR_first hB (by omega)⟩ | omega, fun q9 => by first | exact hL | omega, fun q9 => by first | exact hun | omega⟩⟩), (fun q9 => by first | omega | (exfalso; apply q9; omega)), (Or.inr ⟨hr99, hz_35_0⟩), hz_35_1, hz_35_2, hz_35_3⟩
                      exact z_iret C hr hlocks hW (rr, mn2_35, g2_35, f2_35, h2_35) rfl hP9 dX11_most_249
                  ·
                    refine lv_iload C.1 C.2.1 dX11_most_232 (lv_at hl 4 rfl) ?_
                    refine lv_goto (tgt := 249) C.1 C.2.1 dX11_most_234 (by decide) ?_
                    rw [hQ]
                    have hP9 : ∃ z : Int, (some (Value.int (iI b))) = some (.int (iI z)) ∧ ((0 ≤ rr ∧ rr ≤ 3) ∧ (1 ≤ n ∧ n ≤ 2000) ∧ (0 ≤ w ∧ w ≤ 3) → RowL lw rr mn2_35 g2_35 ∧ MostQ g2_35 mn2_35 n w z) ∧ (¬ ((0 ≤ rr ∧ rr ≤ 3) ∧ (1 ≤ n ∧ n ≤ 2000) ∧ (0 ≤ w ∧ w ≤ 3)) → z = -1) ∧ (LaidR lw rr mn2_35 g2_35) ∧ (BD g2_35) ∧ (BD f2_35) ∧ (BD h2_35) := ⟨_, rfl, (fun _ => ⟨hz_35_0, by have hmi : min n mn2_35 = i := (by omega); unfold MostQ; rw [hmi]; have hB := hbe.elim (fun q => absurd q.1 (by omega)) id; have hL := hlo.elim (fun q => absurd q.1 (by omega)) id; exact ⟨fun q9 => by first | exact BestR_max hB | omega, fun q9 => by first | exact ⟨_, BestR_max hB, BestR_first hB (by omega)⟩ | omega, fun q9 => by first | exact hL | omega, fun q9 => by first | exact hun | omega⟩⟩), (fun q9 => by first | omega | (exfalso; apply q9; omega)), (Or.inr ⟨hr99, hz_35_0⟩), hz_35_1, hz_35_2, hz_35_3⟩
                    exact z_iret C hr hlocks hW (rr, mn2_35, g2_35, f2_35, h2_35) rfl hP9 dX11_most_249
                ·
                  refine lv_aload_n C.1 C.2.1 dX11_most_217 rfl (lv_at hl 5 rfl) ?_
                  refine z_get C hK hW hin11 (v := .ref a8) 0 rfl rfl 8 (by decide) (C.2.2.2.2 (.fieldLink RX11 24 "TellingRowsModel" "row" "[I") (List.mem_of_getElem? (i := 4) rfl)) (fun _ h9 => h9) rfl dX11_most_218 ?_
                  refine lv_iload C.1 C.2.1 dX11_most_221 (lv_at hl 4 rfl) ?_
                  refine z_iald C hK hW 2 rfl (by omega) (by omega) dX11_most_223 ?_
                  have hb_223 := hz_35_1 b
                  have hv7 := hV9 b (by omega) (by omega)
                  refine lv_goto (tgt := 249) C.1 C.2.1 dX11_most_224 (by decide) ?_
                  rw [hQ]
                  have hP9 : ∃ z : Int, (some (Value.int (iI (g2_35 b)))) = some (.int (iI z)) ∧ ((0 ≤ rr ∧ rr ≤ 3) ∧ (1 ≤ n ∧ n ≤ 2000) ∧ (0 ≤ w ∧ w ≤ 3) → RowL lw rr mn2_35 g2_35 ∧ MostQ g2_35 mn2_35 n w z) ∧ (¬ ((0 ≤ rr ∧ rr ≤ 3) ∧ (1 ≤ n ∧ n ≤ 2000) ∧ (0 ≤ w ∧ w ≤ 3)) → z = -1) ∧ (LaidR lw rr mn2_35 g2_35) ∧ (BD g2_35) ∧ (BD f2_35) ∧ (BD h2_35) := ⟨_, rfl, (fun _ => ⟨hz_35_0, by have hmi : min n mn2_35 = i := (by omega); unfold MostQ; rw [hmi]; have hB := hbe.elim (fun q => absurd q.1 (by omega)) id; have hL := hlo.elim (fun q => absurd q.1 (by omega)) id; exact ⟨fun q9 => by first | exact BestR_max hB | omega, fun q9 => by first | exact ⟨_, BestR_max hB, BestR_first hB (by omega)⟩ | omega, fun q9 => by first | exact hL | omega, fun q9 => by first | exact hun | omega⟩⟩), (fun q9 => by first | omega | (exfalso; apply q9; omega)), (Or.inr ⟨hr99, hz_35_0⟩), hz_35_1, hz_35_2, hz_35_3⟩
                  exact z_iret C hr hlocks hW (rr, mn2_35, g2_35, f2_35, h2_35) rfl hP9 dX11_most_249
              ·
                have cut_94 : ∀ (b2 : Int), (BestR g2_35 (i + 1) b2) → ∀ (H : Heap) (locs : List Loc) (ls : Array Slot), Wd G A s9.heap [(x, .inr (9, [.int (iI ln), .ref a1, .int (iI pl), .ref a3, .ref a4, .int (iI ri), .int (iI rr), .int (iI mn2_35), .ref a8, .ref a9, .int (iI nn), .ref a11, .int (iI fn), .ref a13, .int (iI lm), .ref a15, .ref a16, .ref a17, .ref a18, .ref a19, .ref a20])), (a3, .inl (G.2.1 0, 32, .inl (iA lw))), (a8, .inl (G.2.1 0, 2000, .inl (iA g2_35))), (a9, .inl (G.2.1 0, 60001, .inl (iA f2_35))), (a16, .inl (G.2.1 0, 5000, .inl (iA h2_35)))] H locs → lv_has ls 11 [(8, .int (iI i)), (7, .int (iI un)), (6, .int (iI ru)), (5, .int (iI lg)), (4, .int (iI b2)), (0, .ref x), (1, .int (iI rr)), (2, .int (iI n)), (3, .int (iI w))] → W p9 l e9 (rmL 4) s9 m9 args below meth c9 H locs 0 0 Q (F0 m9 94 ls []) := by
                  intro b2 hb2 H locs ls hW hl
                  have hb2b := hb2.1
                  refine lv_iload C.1 C.2.1 dX11_most_94 (lv_at hl 0 rfl) ?_
                  have cut_128 : ∀ (ru2 : Int), (RlR g2_35 (i + 1) ru2) → ∀ (H : Heap) (locs : List Loc) (ls : Array Slot), Wd G A s9.heap [(x, .inr (9, [.int (iI ln), .ref a1, .int (iI pl), .ref a3, .ref a4, .int (iI ri), .int (iI rr), .int (iI mn2_35), .ref a8, .ref a9, .int (iI nn), .ref a11, .int (iI fn), .ref a13, .int (iI lm), .ref a15, .ref a16, .ref a17, .ref a18, .ref a19, .ref a20])), (a3, .inl (G.2.1 0, 32, .inl (iA lw))), (a8, .inl (G.2.1 0, 2000, .inl (iA g2_35))), (a9, .inl (G.2.1 0, 60001, .inl (iA f2_35))), (a16, .inl (G.2.1 0, 5000, .inl (iA h2_35)))] H locs → lv_has ls 11 [(8, .int (iI i)), (7, .int (iI un)), (6, .int (iI ru2)), (5, .int (iI lg)), (4, .int (iI b2)), (0, .ref x), (1, .int (iI rr)), (2, .int (iI n)), (3, .int (iI w))] → W p9 l e9 (rmL 4) s9 m9 args below meth c9 H locs 0 0 Q (F0 m9 128 ls []) := by
                    intro ru2 hru2 H locs ls hW hl
                    have hru2b := hru2.1
                    refine lv_iload C.1 C.2.1 dX11_most_128 (lv_at hl 2 rfl) ?_
                    have cut_144 : ∀ (lg2 : Int), (LongR g2_35 (i + 1) lg2) → (0 ≤ lg2 ∧ lg2 ≤ 2000) → ∀ (H : Heap) (locs : List Loc) (ls : Array Slot), Wd G A s9.heap [(x, .inr (9, [.int (iI ln), .ref a1, .int (iI pl), .ref a3, .ref a4, .int (iI ri), .int (iI rr), .int (iI mn2_35), .ref a8, .ref a9, .int (iI nn), .ref a11, .int (iI fn), .ref a13, .int (iI lm), .ref a15, .ref a16, .ref a17, .ref a18, .ref a19, .ref a20])), (a3, .inl (G.2.1 0, 32, .inl (iA lw))), (a8, .inl (G.2.1 0, 2000, .inl (iA g2_35))), (a9, .inl (G.2.1 0, 60001, .inl (iA f2_35))), (a16, .inl (G.2.1 0, 5000, .inl (iA h2_35)))] H locs → lv_has ls 11 [(8, .int (iI i)), (7, .int (iI un)), (6, .int (iI ru2)), (5, .int (iI lg2)), (4, .int (iI b2)), (0, .ref x), (1, .int (iI rr)), (2, .int (iI n)), (3, .int (iI w))] → W p9 l e9 (rmL 4) s9 m9 args below meth c9 H locs 0 0 Q (F0 m9 144 ls []) := by
                      intro lg2 hl2 hl2b H locs ls hW hl
                      refine lv_iconst (v := iI 1) C.1 C.2.1 dX11_most_144 rfl ?_
                      refine lv_istore (lv' := [(9, .int (iI 1)), (8, .int (iI i)), (7, .int (iI un)), (6, .int (iI ru2)), (5, .int (iI lg2)), (4, .int (iI b2)), (0, .ref x), (1, .int (iI rr)), (2, .int (iI n)), (3, .int (iI w))]) C.1 C.2.1 dX11_most_145 hl (by decide) rfl (fun ls hl => ?_)
                      refine lv_iconst (v := iI 0) C.1 C.2.1 dX11_most_147 rfl ?_
                      refine lv_istore (lv' := [(10, .int (iI 0)), (9, .int (iI 1)), (8, .int (iI i)), (7, .int (iI un)), (6, .int (iI ru2)), (5, .int (iI lg2)), (4, .int (iI b2)), (0, .ref x), (1, .int (iI rr)), (2, .int (iI n)), (3, .int (iI w))]) C.1 C.2.1 dX11_most_148 hl (by decide) rfl (fun ls hl => ?_)
                      have cut_150 : ∀ (n9 : Nat) (nw : Int) (j : Int), (0 ≤ j ∧ j ≤ i) → ((nw = 1 ∧ ∀ y, 0 ≤ y → y < j → g2_35 y ≠ g2_35 i) ∨ (nw = 0 ∧ ∃ y, 0 ≤ y ∧ y < i ∧ g2_35 y = g2_35 i)) → (i - j < (n9 : Int)) → ∀ (H : Heap) (locs : List Loc) (ls : Array Slot), Wd G A s9.heap [(x, .inr (9, [.int (iI ln), .ref a1, .int (iI pl), .ref a3, .ref a4, .int (iI ri), .int (iI rr), .int (iI mn2_35), .ref a8, .ref a9, .int (iI nn), .ref a11, .int (iI fn), .ref a13, .int (iI lm), .ref a15, .ref a16, .ref a17, .ref a18, .ref a19, .ref a20])), (a3, .inl (G.2.1 0, 32, .inl (iA lw))), (a8, .inl (G.2.1 0, 2000, .inl (iA g2_35))), (a9, .inl (G.2.1 0, 60001, .inl (iA f2_35))), (a16, .inl (G.2.1 0, 5000, .inl (iA h2_35)))] H locs → lv_has ls 11 [(10, .int (iI j)), (9, .int (iI nw)), (8, .int (iI i)), (7, .int (iI un)), (6, .int (iI ru2)), (5, .int (iI lg2)), (4, .int (iI b2)), (0, .ref x), (1, .int (iI rr)), (2, .int (iI n)), (3, .int (iI w))] → W p9 l e9 (rmL 4) s9 m9 args below meth c9 H locs 0 0 Q (F0 m9 150 ls []) := by
                        intro n9
                        induction n9 with
                        | zero => intro nw j hj hnw hmu; intros; exfalso; omega
                        | succ n9 ih_150 =>
                          intro nw j hj hnw hmu H locs ls hW hl
                          have hnw1 : nw = 1 ∨ nw = 0 := hnw.elim (fun q => Or.inl q.1) (fun q => Or.inr q.1)
                          refine lv_iload C.1 C.2.1 dX11_most_150 (lv_at hl 0 rfl) ?_
                          refine lv_iload C.1 C.2.1 dX11_most_152 (lv_at hl 2 rfl) ?_
                          refine z_icmp_ge (tgt := 192) C dX11_most_154 (by decide) (by omega) (fun c_154 => ?_) (fun c_154 => ?_)
                          ·
                            have hnw2 : (nw = 1 ∧ oc g2_35 (g2_35 i) i = 0) ∨ (nw = 0 ∧ ¬ (oc g2_35 (g2_35 i) i = 0)) := hnw.elim (fun q => (Int.lt_or_le j i).elim (fun r => absurd q.1 (by omega)) (fun r => Or.inl ⟨q.1, (oc_pos (by omega)).mpr (fun y y0 y1 => q.2 y y0 (by omega))⟩)) (fun q => Or.inr ⟨q.1, fun z => by obtain ⟨y, y0, y1, y2⟩ := q.2; exact (oc_pos (by omega)).mp z y y0 y1 y2⟩)
                            refine lv_iload C.1 C.2.1 dX11_most_192 (lv_at hl 3 rfl) ?_
                            refine lv_iload C.1 C.2.1 dX11_most_194 (lv_at hl 1 rfl) ?_
                            refine z_if_eq (tgt := 203) C dX11_most_196 (by decide) (by omega) (fun c_196 => ?_) (fun c_196 => ?_)
                            ·
                              refine lv_iconst (v := iI 0) C.1 C.2.1 dX11_most_203 rfl ?_
                              refine z_iadd C dX11_most_204 ?_
                              refine lv_istore (lv' := [(7, .int (iI (un + 0))), (10, .int (iI j)), (9, .int (iI nw)), (8, .int (iI i)), (6, .int (iI ru2)), (5, .int (iI lg2)), (4, .int (iI b2)), (0, .ref x), (1, .int (iI rr)), (2, .int (iI n)), (3, .int (iI w))]) C.1 C.2.1 dX11_most_205 hl (by decide) rfl (fun ls hl => ?_)
                              refine lv_iinc (v := iI (i + 1)) (lv' := [(8, .int (iI (i + 1))), (7, .int (iI (un + 0))), (10, .int (iI j)), (9, .int (iI nw)), (6, .int (iI ru2)), (5, .int (iI lg2)), (4, .int (iI b2)), (0, .ref x), (1, .int (iI rr)), (2, .int (iI n)), (3, .int (iI w))]) C.1 C.2.1 dX11_most_207 hl (k := 3) rfl (iI_add _ _) (by decide) rfl (fun ls hl => ?_)
                              refine lv_goto (tgt := 53) C.1 C.2.1 dX11_most_210 (by decide) ?_
                              exact ih_53 b2 lg2 ru2 (un + 0) (i + 1) (by first | omega | assumption | (intros; first | rfl | omega | assumption | (and_intros <;> first | rfl | omega | assumption))) (by first | omega | assumption | (intros; first | rfl | omega | assumption | (and_intros <;> first | rfl | omega | assumption))) (Or.inr hb2) hru2 (Or.inr hl2) hl2b (by rw [dst_s (by omega)]; rcases hnw2 with q | q <;> first | (rw [if_pos q.2]; omega) | (rw [if_neg q.2]; omega)) (by omega) _ _ _ hW (lv_sub hl [0, 1, 4, 5, 6, 7, 8, 9, 10] rfl)
                            ·
                              refine lv_iconst (v := iI 1) C.1 C.2.1 dX11_most_199 rfl ?_
                              refine lv_goto (tgt := 204) C.1 C.2.1 dX11_most_200 (by decide) ?_
                              refine z_iadd C dX11_most_204 ?_
                              refine lv_istore (lv' := [(7, .int (iI (un + 1))), (10, .int (iI j)), (9, .int (iI nw)), (8, .int (iI i)), (6, .int (iI ru2)), (5, .int (iI lg2)), (4, .int (iI b2)), (0, .ref x), (1, .int (iI rr)), (2, .int (iI n)), (3, .int (iI w))]) C.1 C.2.1 dX11_most_205 hl (by decide) rfl (fun ls hl => ?_)
                              refine lv_iinc (v := iI (i + 1)) (lv' := [(8, .int (iI (i + 1))), (7, .int (iI (un + 1))), (10, .int (iI j)), (9, .int (iI nw)), (6, .int (iI ru2)), (5, .int (iI lg2)), (4, .int (iI b2)), (0, .ref x), (1, .int (iI rr)), (2, .int (iI n)), (3, .int (iI w))]) C.1 C.2.1 dX11_most_207 hl (k := 3) rfl (iI_add _ _) (by decide) rfl (fun ls hl => ?_)
                              refine lv_goto (tgt := 53) C.1 C.2.1 dX11_most_210 (by decide) ?_
                              exact ih_53 b2 lg2 ru2 (un + 1) (i + 1) (by first | omega | assumption | (intros; first | rfl | omega | assumption | (and_intros <;> first | rfl | omega | assumption))) (by first | omega | assumption | (intros; first | rfl | omega | assumption | (and_intros <;> first | rfl | omega | assumption))) (Or.inr hb2) hru2 (Or.inr hl2) hl2b (by rw [dst_s (by omega)]; rcases hnw2 with q | q <;> first | (rw [if_pos q.2]; omega) | (rw [if_neg q.2]; omega)) (by omega) _ _ _ hW (lv_sub hl [0, 1, 4, 5, 6, 7, 8, 9, 10] rfl)
                          ·
                            refine lv_iload C.1 C.2.1 dX11_most_157 (lv_at hl 1 rfl) ?_
                            refine z_if_eq (tgt := 192) C dX11_most_159 (by decide) (by omega) (fun c_159 => ?_) (fun c_159 => ?_)
                            ·
                              have hnw2 : (nw = 1 ∧ oc g2_35 (g2_35 i) i = 0) ∨ (nw = 0 ∧ ¬ (oc g2_35 (g2_35 i) i = 0)) := hnw.elim (fun q => (Int.lt_or_le j i).elim (fun r => absurd q.1 (by omega)) (fun r => Or.inl ⟨q.1, (oc_pos (by omega)).mpr (fun y y0 y1 => q.2 y y0 (by omega))⟩)) (fun q => Or.inr ⟨q.1, fun z => by obtain ⟨y, y0, y1, y2⟩ := q.2; exact (oc_pos (by omega)).mp z y y0 y1 y2⟩)
                              refine lv_iload C.1 C.2.1 dX11_most_192 (lv_at hl 3 rfl) ?_
                              refine lv_iload C.1 C.2.1 dX11_most_194 (lv_at hl 1 rfl) ?_
                              refine z_if_eq (tgt := 203) C dX11_most_196 (by decide) (by omega) (fun c_196 => ?_) (fun c_196 => ?_)
                              ·
                                refine lv_iconst (v := iI 0) C.1 C.2.1 dX11_most_203 rfl ?_
                                refine z_iadd C dX11_most_204 ?_
                                refine lv_istore (lv' := [(7, .int (iI (un + 0))), (10, .int (iI j)), (9, .int (iI nw)), (8, .int (iI i)), (6, .int (iI ru2)), (5, .int (iI lg2)), (4, .int (iI b2)), (0, .ref x), (1, .int (iI rr)), (2, .int (iI n)), (3, .int (iI w))]) C.1 C.2.1 dX11_most_205 hl (by decide) rfl (fun ls hl => ?_)
                                refine lv_iinc (v := iI (i + 1)) (lv' := [(8, .int (iI (i + 1))), (7, .int (iI (un + 0))), (10, .int (iI j)), (9, .int (iI nw)), (6, .int (iI ru2)), (5, .int (iI lg2)), (4, .int (iI b2)), (0, .ref x), (1, .int (iI rr)), (2, .int (iI n)), (3, .int (iI w))]) C.1 C.2.1 dX11_most_207 hl (k := 3) rfl (iI_add _ _) (by decide) rfl (fun ls hl => ?_)
                                refine lv_goto (tgt := 53) C.1 C.2.1 dX11_most_210 (by decide) ?_
                                exact ih_53 b2 lg2 ru2 (un + 0) (i + 1) (by first | omega | assumption | (intros; first | rfl | omega | assumption | (and_intros <;> first | rfl | omega | assumption))) (by first | omega | assumption | (intros; first | rfl | omega | assumption | (and_intros <;> first | rfl | omega | assumption))) (Or.inr hb2) hru2 (Or.inr hl2) hl2b (by rw [dst_s (by omega)]; rcases hnw2 with q | q <;> first | (rw [if_pos q.2]; omega) | (rw [if_neg q.2]; omega)) (by omega) _ _ _ hW (lv_sub hl [0, 1, 4, 5, 6, 7, 8, 9, 10] rfl)
                              ·
                                refine lv_iconst (v := iI 1) C.1 C.2.1 dX11_most_199 rfl ?_
                                refine lv_goto (tgt := 204) C.1 C.2.1 dX11_most_200 (by decide) ?_
                                refine z_iadd C dX11_most_204 ?_
                                refine lv_istore (lv' := [(7, .int (iI (un + 1))), (10, .int (iI j)), (9, .int (iI nw)), (8, .int (iI i)), (6, .int (iI ru2)), (5, .int (iI lg2)), (4, .int (iI b2)), (0, .ref x), (1, .int (iI rr)), (2, .int (iI n)), (3, .int (iI w))]) C.1 C.2.1 dX11_most_205 hl (by decide) rfl (fun ls hl => ?_)
                                refine lv_iinc (v := iI (i + 1)) (lv' := [(8, .int (iI (i + 1))), (7, .int (iI (un + 1))), (10, .int (iI j)), (9, .int (iI nw)), (6, .int (iI ru2)), (5, .int (iI lg2)), (4, .int (iI b2)), (0, .ref x), (1, .int (iI rr)), (2, .int (iI n)), (3, .int (iI w))]) C.1 C.2.1 dX11_most_207 hl (k := 3) rfl (iI_add _ _) (by decide) rfl (fun ls hl => ?_)
                                refine lv_goto (tgt := 53) C.1 C.2.1 dX11_most_210 (by decide) ?_
                                exact ih_53 b2 lg2 ru2 (un + 1) (i + 1) (by first | omega | assumption | (intros; first | rfl | omega | assumption | (and_intros <;> first | rfl | omega | assumption))) (by first | omega | assumption | (intros; first | rfl | omega | assumption | (and_intros <;> first | rfl | omega | assumption))) (Or.inr hb2) hru2 (Or.inr hl2) hl2b (by rw [dst_s (by omega)]; rcases hnw2 with q | q <;> first | (rw [if_pos q.2]; omega) | (rw [if_neg q.2]; omega)) (by omega) _ _ _ hW (lv_sub hl [0, 1, 4, 5, 6, 7, 8, 9, 10] rfl)
                            ·
                              refine lv_aload_n C.1 C.2.1 dX11_most_162 rfl (lv_at hl 7 rfl) ?_
                              refine z_get C hK hW hin11 (v := .ref a8) 0 rfl rfl 8 (by decide) (C.2.2.2.2 (.fieldLink RX11 24 "TellingRowsModel" "row" "[I") (List.mem_of_getElem? (i := 4) rfl)) (fun _ h9 => h9) rfl dX11_most_163 ?_
                              refine lv_iload C.1 C.2.1 dX11_most_166 (lv_at hl 0 rfl) ?_
                              refine z_iald C hK hW 2 rfl (by omega) (by omega) dX11_most_168 ?_
                              have hb_168 := hz_35_1 j
                              have hv5 := hV9 j (by omega) (by omega)
                              refine lv_aload_n C.1 C.2.1 dX11_most_169 rfl (lv_at hl 7 rfl) ?_
                              refine z_get C hK hW hin11 (v := .ref a8) 0 rfl rfl 8 (by decide) (C.2.2.2.2 (.fieldLink RX11 24 "TellingRowsModel" "row" "[I") (List.mem_of_getElem? (i := 4) rfl)) (fun _ h9 => h9) rfl dX11_most_170 ?_
                              refine lv_iload C.1 C.2.1 dX11_most_173 (lv_at hl 2 rfl) ?_
                              refine z_iald C hK hW 2 rfl (by omega) (by omega) dX11_most_175 ?_
                              have hb_175 := hz_35_1 i
                              have hv6 := hV9 i (by omega) (by omega)
                              refine z_icmp_eq (tgt := 183) C dX11_most_176 (by decide) (by omega) (fun c_176 => ?_) (fun c_176 => ?_)
                              ·
                                refine lv_iconst (v := iI 0) C.1 C.2.1 dX11_most_183 rfl ?_
                                refine lv_istore (lv' := [(9, .int (iI 0)), (10, .int (iI j)), (8, .int (iI i)), (7, .int (iI un)), (6, .int (iI ru2)), (5, .int (iI lg2)), (4, .int (iI b2)), (0, .ref x), (1, .int (iI rr)), (2, .int (iI n)), (3, .int (iI w))]) C.1 C.2.1 dX11_most_184 hl (by decide) rfl (fun ls hl => ?_)
                                refine lv_iinc (v := iI (j + 1)) (lv' := [(10, .int (iI (j + 1))), (9, .int (iI 0)), (8, .int (iI i)), (7, .int (iI un)), (6, .int (iI ru2)), (5, .int (iI lg2)), (4, .int (iI b2)), (0, .ref x), (1, .int (iI rr)), (2, .int (iI n)), (3, .int (iI w))]) C.1 C.2.1 dX11_most_186 hl (k := 1) rfl (iI_add _ _) (by decide) rfl (fun ls hl => ?_)
                                refine lv_goto (tgt := 150) C.1 C.2.1 dX11_most_189 (by decide) ?_
                                exact ih_150 0 (j + 1) (by first | omega | assumption | (intros; first | rfl | omega | assumption | (and_intros <;> first | rfl | omega | assumption))) (by have hnn := hnw.elim (fun q => q.2) (fun q => absurd q.1 c_159); first | exact Or.inr ⟨rfl, j, by omega, by omega, by omega⟩ | exact Or.inl ⟨rfl, fun y y0 y1 => if q : y = j then (by rw [q]; omega) else hnn y y0 (by omega)⟩) (by omega) _ _ _ hW (lv_sub hl [0, 1, 2, 3, 4, 5, 6, 7, 8, 9, 10] rfl)
                              ·
                                refine lv_iconst (v := iI 1) C.1 C.2.1 dX11_most_179 rfl ?_
                                refine lv_goto (tgt := 184) C.1 C.2.1 dX11_most_180 (by decide) ?_
                                refine lv_istore (lv' := [(9, .int (iI 1)), (10, .int (iI j)), (8, .int (iI i)), (7, .int (iI un)), (6, .int (iI ru2)), (5, .int (iI lg2)), (4, .int (iI b2)), (0, .ref x), (1, .int (iI rr)), (2, .int (iI n)), (3, .int (iI w))]) C.1 C.2.1 dX11_most_184 hl (by decide) rfl (fun ls hl => ?_)
                                refine lv_iinc (v := iI (j + 1)) (lv' := [(10, .int (iI (j + 1))), (9, .int (iI 1)), (8, .int (iI i)), (7, .int (iI un)), (6, .int (iI ru2)), (5, .int (iI lg2)), (4, .int (iI b2)), (0, .ref x), (1, .int (iI rr)), (2, .int (iI n)), (3, .int (iI w))]) C.1 C.2.1 dX11_most_186 hl (k := 1) rfl (iI_add _ _) (by decide) rfl (fun ls hl => ?_)
                                refine lv_goto (tgt := 150) C.1 C.2.1 dX11_most_189 (by decide) ?_
                                exact ih_150 1 (j + 1) (by first | omega | assumption | (intros; first | rfl | omega | assumption | (and_intros <;> first | rfl | omega | assumption))) (by have hnn := hnw.elim (fun q => q.2) (fun q => absurd q.1 c_159); first | exact Or.inr ⟨rfl, j, by omega, by omega, by omega⟩ | exact Or.inl ⟨rfl, fun y y0 y1 => if q : y = j then (by rw [q]; omega) else hnn y y0 (by omega)⟩) (by omega) _ _ _ hW (lv_sub hl [0, 1, 2, 3, 4, 5, 6, 7, 8, 9, 10] rfl)
                      exact cut_150 (((i - 0) + 1 : Int)).toNat 1 0 (by first | omega | assumption | (intros; first | rfl | omega | assumption | (and_intros <;> first | rfl | omega | assumption))) (Or.inl ⟨rfl, fun y y0 y1 => by omega⟩) (by omega) _ _ _ hW (lv_sub hl [0, 1, 2, 3, 4, 5, 6, 7, 8, 9, 10] rfl)
                    refine lv_iload C.1 C.2.1 dX11_most_130 (lv_at hl 3 rfl) ?_
                    refine z_icmp_le (tgt := 140) C dX11_most_132 (by decide) (by omega) (fun c_132 => ?_) (fun c_132 => ?_)
                    ·
                      refine lv_iload C.1 C.2.1 dX11_most_140 (lv_at hl 3 rfl) ?_
                      refine lv_istore (lv' := [(5, .int (iI lg)), (8, .int (iI i)), (7, .int (iI un)), (6, .int (iI ru2)), (4, .int (iI b2)), (0, .ref x), (1, .int (iI rr)), (2, .int (iI n)), (3, .int (iI w))]) C.1 C.2.1 dX11_most_142 hl (by decide) rfl (fun ls hl => ?_)
                      exact cut_144 lg (by have hh9 := LongR_m (by omega) hlo hru2; first | (rw [show max lg ru2 = ru2 by omega] at hh9; exact hh9) | (rw [show max lg ru2 = lg by omega] at hh9; exact hh9)) hlb _ _ _ hW (lv_sub hl [1, 2, 3, 0, 4, 5, 6, 7, 8] rfl)
                    ·
                      refine lv_iload C.1 C.2.1 dX11_most_135 (lv_at hl 2 rfl) ?_
                      refine lv_goto (tgt := 142) C.1 C.2.1 dX11_most_137 (by decide) ?_
                      refine lv_istore (lv' := [(5, .int (iI ru2)), (8, .int (iI i)), (7, .int (iI un)), (6, .int (iI ru2)), (4, .int (iI b2)), (0, .ref x), (1, .int (iI rr)), (2, .int (iI n)), (3, .int (iI w))]) C.1 C.2.1 dX11_most_142 hl (by decide) rfl (fun ls hl => ?_)
                      exact cut_144 ru2 (by have hh9 := LongR_m (by omega) hlo hru2; first | (rw [show max lg ru2 = ru2 by omega] at hh9; exact hh9) | (rw [show max lg ru2 = lg by omega] at hh9; exact hh9)) (by first | omega | assumption | (intros; first | rfl | omega | assumption | (and_intros <;> first | rfl | omega | assumption))) _ _ _ hW (lv_sub hl [1, 2, 3, 0, 4, 5, 6, 7, 8] rfl)
                  refine z_if_le (tgt := 125) C dX11_most_96 (by decide) (by omega) (fun c_96 => ?_) (fun c_96 => ?_)
                  ·
                    refine lv_iconst (v := iI 1) C.1 C.2.1 dX11_most_125 rfl ?_
                    refine lv_istore (lv' := [(6, .int (iI 1)), (8, .int (iI i)), (7, .int (iI un)), (5, .int (iI lg)), (4, .int (iI b2)), (0, .ref x), (1, .int (iI rr)), (2, .int (iI n)), (3, .int (iI w))]) C.1 C.2.1 dX11_most_126 hl (by decide) rfl (fun ls hl => ?_)
                    exact cut_128 1 (by first | exact RlR_c hru (by omega) (by omega) | exact RlR_n (by omega) (fun q9 => by first | exact c_115 | omega)) _ _ _ hW (lv_sub hl [1, 2, 0, 3, 4, 5, 6, 7, 8] rfl)
                  ·
                    refine lv_aload_n C.1 C.2.1 dX11_most_99 rfl (lv_at hl 5 rfl) ?_
                    refine z_get C hK hW hin11 (v := .ref a8) 0 rfl rfl 8 (by decide) (C.2.2.2.2 (.fieldLink RX11 24 "TellingRowsModel" "row" "[I") (List.mem_of_getElem? (i := 4) rfl)) (fun _ h9 => h9) rfl dX11_most_100 ?_
                    refine lv_iload C.1 C.2.1 dX11_most_103 (lv_at hl 0 rfl) ?_
                    refine z_iald C hK hW 2 rfl (by omega) (by omega) dX11_most_105 ?_
                    have hb_105 := hz_35_1 i
                    have hv3 := hV9 i (by omega) (by omega)
                    refine lv_aload_n C.1 C.2.1 dX11_most_106 rfl (lv_at hl 5 rfl) ?_
                    refine z_get C hK hW hin11 (v := .ref a8) 0 rfl rfl 8 (by decide) (C.2.2.2.2 (.fieldLink RX11 24 "TellingRowsModel" "row" "[I") (List.mem_of_getElem? (i := 4) rfl)) (fun _ h9 => h9) rfl dX11_most_107 ?_
                    refine lv_iload C.1 C.2.1 dX11_most_110 (lv_at hl 0 rfl) ?_
                    refine lv_iconst (v := iI 1) C.1 C.2.1 dX11_most_112 rfl ?_
                    refine z_isub C dX11_most_113 ?_
                    refine z_iald C hK hW 2 rfl (by omega) (by omega) dX11_most_114 ?_
                    have hb_114 := hz_35_1 (i - 1)
                    have hv4 := hV9 (i - 1) (by omega) (by omega)
                    refine z_icmp_ne (tgt := 125) C dX11_most_115 (by decide) (by omega) (fun c_115 => ?_) (fun c_115 => ?_)
                    ·
                      refine lv_iconst (v := iI 1) C.1 C.2.1 dX11_most_125 rfl ?_
                      refine lv_istore (lv' := [(6, .int (iI 1)), (8, .int (iI i)), (7, .int (iI un)), (5, .int (iI lg)), (4, .int (iI b2)), (0, .ref x), (1, .int (iI rr)), (2, .int (iI n)), (3, .int (iI w))]) C.1 C.2.1 dX11_most_126 hl (by decide) rfl (fun ls hl => ?_)
                      exact cut_128 1 (by first | exact RlR_c hru (by omega) (by omega) | exact RlR_n (by omega) (fun q9 => by first | exact c_115 | omega)) _ _ _ hW (lv_sub hl [1, 2, 0, 3, 4, 5, 6, 7, 8] rfl)
                    ·
                      refine lv_iload C.1 C.2.1 dX11_most_118 (lv_at hl 2 rfl) ?_
                      refine lv_iconst (v := iI 1) C.1 C.2.1 dX11_most_120 rfl ?_
                      refine z_iadd C dX11_most_121 ?_
                      refine lv_goto (tgt := 126) C.1 C.2.1 dX11_most_122 (by decide) ?_
                      refine lv_istore (lv' := [(6, .int (iI (ru + 1))), (8, .int (iI i)), (7, .int (iI un)), (5, .int (iI lg)), (4, .int (iI b2)), (0, .ref x), (1, .int (iI rr)), (2, .int (iI n)), (3, .int (iI w))]) C.1 C.2.1 dX11_most_126 hl (by decide) rfl (fun ls hl => ?_)
                      exact cut_128 (ru + 1) (by first | exact RlR_c hru (by omega) (by omega) | exact RlR_n (by omega) (fun q9 => by first | exact c_115 | omega)) _ _ _ hW (lv_sub hl [1, 2, 0, 3, 4, 5, 6, 7, 8] rfl)
                refine lv_aload_n C.1 C.2.1 dX11_most_68 rfl (lv_at hl 5 rfl) ?_
                refine z_get C hK hW hin11 (v := .ref a8) 0 rfl rfl 8 (by decide) (C.2.2.2.2 (.fieldLink RX11 24 "TellingRowsModel" "row" "[I") (List.mem_of_getElem? (i := 4) rfl)) (fun _ h9 => h9) rfl dX11_most_69 ?_
                refine lv_iload C.1 C.2.1 dX11_most_72 (lv_at hl 0 rfl) ?_
                refine z_iald C hK hW 2 rfl (by omega) (by omega) dX11_most_74 ?_
                have hb_74 := hz_35_1 i
                have hv1 := hV9 i (by omega) (by omega)
                refine lv_aload_n C.1 C.2.1 dX11_most_75 rfl (lv_at hl 5 rfl) ?_
                refine z_get C hK hW hin11 (v := .ref a8) 0 rfl rfl 8 (by decide) (C.2.2.2.2 (.fieldLink RX11 24 "TellingRowsModel" "row" "[I") (List.mem_of_getElem? (i := 4) rfl)) (fun _ h9 => h9) rfl dX11_most_76 ?_
                refine lv_iload C.1 C.2.1 dX11_most_79 (lv_at hl 4 rfl) ?_
                refine z_iald C hK hW 2 rfl (by omega) (by omega) dX11_most_81 ?_
                have hb_81 := hz_35_1 b
                have hv2 := hV9 b (by omega) (by omega)
                refine z_icmp_le (tgt := 90) C dX11_most_82 (by decide) (by omega) (fun c_82 => ?_) (fun c_82 => ?_)
                ·
                  refine lv_iload C.1 C.2.1 dX11_most_90 (lv_at hl 4 rfl) ?_
                  refine lv_istore (lv' := [(4, .int (iI b)), (8, .int (iI i)), (7, .int (iI un)), (6, .int (iI ru)), (5, .int (iI lg)), (0, .ref x), (1, .int (iI rr)), (2, .int (iI n)), (3, .int (iI w))]) C.1 C.2.1 dX11_most_92 hl (by decide) rfl (fun ls hl => ?_)
                  exact cut_94 b (by first | exact BestR_y (by omega) hbe (by omega) | exact BestR_n (by omega) hbe (by omega)) _ _ _ hW (lv_sub hl [1, 2, 3, 4, 0, 5, 6, 7, 8] rfl)
                ·
                  refine lv_iload C.1 C.2.1 dX11_most_85 (lv_at hl 0 rfl) ?_
                  refine lv_goto (tgt := 92) C.1 C.2.1 dX11_most_87 (by decide) ?_
                  refine lv_istore (lv' := [(4, .int (iI i)), (8, .int (iI i)), (7, .int (iI un)), (6, .int (iI ru)), (5, .int (iI lg)), (0, .ref x), (1, .int (iI rr)), (2, .int (iI n)), (3, .int (iI w))]) C.1 C.2.1 dX11_most_92 hl (by decide) rfl (fun ls hl => ?_)
                  exact cut_94 i (by first | exact BestR_y (by omega) hbe (by omega) | exact BestR_n (by omega) hbe (by omega)) _ _ _ hW (lv_sub hl [1, 2, 3, 4, 0, 5, 6, 7, 8] rfl)
        exact cut_53 (((mn2_35 - 0) + 1 : Int)).toNat 0 0 0 0 0 (by first | omega | assumption | (intros; first | rfl | omega | assumption | (and_intros <;> first | rfl | omega | assumption))) (by first | omega | assumption | (intros; first | rfl | omega | assumption | (and_intros <;> first | rfl | omega | assumption))) (Or.inl ⟨rfl, rfl⟩) ⟨by omega, fun j j0 j1 => by omega, fun q9 => by omega⟩ (Or.inl ⟨rfl, rfl⟩) (by first | omega | assumption | (intros; first | rfl | omega | assumption | (and_intros <;> first | rfl | omega | assumption))) (by rw [dst_0 (by omega)]) (by omega) _ _ _ hW (lv_sub hl [0, 1, 2, 3, 4, 5, 6, 7, 8] rfl)
      ·
        refine lv_iconst (v := iI (-1)) C.1 C.2.1 dX11_most_31 rfl ?_
        rw [hQ]
        have hP9 : ∃ z : Int, (some (Value.int (iI (-1)))) = some (.int (iI z)) ∧ ((0 ≤ rr ∧ rr ≤ 3) ∧ (1 ≤ n ∧ n ≤ 2000) ∧ (0 ≤ w ∧ w ≤ 3) → RowL lw rr mn g ∧ MostQ g mn n w z) ∧ (¬ ((0 ≤ rr ∧ rr ≤ 3) ∧ (1 ≤ n ∧ n ≤ 2000) ∧ (0 ≤ w ∧ w ≤ 3)) → z = -1) ∧ (LaidR lw ld mn g) ∧ (BD g) ∧ (BD f) ∧ (BD h) := ⟨_, rfl, (fun q9 => by omega), (fun _ => rfl), hLd, hg, hf, hh⟩
        exact z_iret C hr hlocks hW (ld, mn, g, f, h) rfl hP9 dX11_most_32
set_option maxHeartbeats 4000000 in
set_option maxRecDepth 100000 in
/-- X11_around -/
theorem c_X11_around (l : Launch) (G : GG) (x : Nat) (ln : Int) (a1 : Nat) (pl : Int) (a3 : Nat) (a4 : Nat) (ri : Int) (ld : Int) (mn : Int) (a8 : Nat) (a9 : Nat) (nn : Int) (a11 : Nat) (fn : Int) (a13 : Nat) (lm : Int) (a15 : Nat) (a16 : Nat) (a17 : Nat) (a18 : Nat) (a19 : Nat) (a20 : Nat) (lw : Int → Int) (g : Int → Int) (f : Int → Int) (h : Int → Int) (rr : Int) (w : Int) (hLw : LawR lw) (hlw : BD lw) (hg : BD g) (hf : BD f) (hh : BD h) (hLd : LaidR lw ld mn g) (hrr : -2147483648 ≤ rr ∧ rr ≤ 2147483647) (hw : -2147483648 ≤ w ∧ w ≤ 2147483647) : MQc l yX11_around wsX11_around 4 G [.ref x, .int (iI rr), .int (iI w)] [(x, .inr (9, [.int (iI ln), .ref a1, .int (iI pl), .ref a3, .ref a4, .int (iI ri), .int (iI ld), .int (iI mn), .ref a8, .ref a9, .int (iI nn), .ref a11, .int (iI fn), .ref a13, .int (iI lm), .ref a15, .ref a16, .ref a17, .ref a18, .ref a19, .ref a20])), (a3, .inl (G.2.1 0, 32, .inl (iA lw))), (a8, .inl (G.2.1 0, 2000, .inl (iA g))), (a9, .inl (G.2.1 0, 60001, .inl (iA f))), (a16, .inl (G.2.1 0, 5000, .inl (iA h)))] (fun r (u : Int × Int × (Int → Int) × (Int → Int) × (Int → Int)) => ∃ z : Int, r = some (.int (iI z)) ∧ ((0 ≤ rr ∧ rr ≤ 3) ∧ (0 ≤ w ∧ w ≤ 1) → RowL lw rr u.2.1 u.2.2.1 ∧ AroundQ u.2.2.1 u.2.1 w z) ∧ (¬ ((0 ≤ rr ∧ rr ≤ 3) ∧ (0 ≤ w ∧ w ≤ 1)) → z = -1) ∧ (LaidR lw u.1 u.2.1 u.2.2.1) ∧ (BD u.2.2.1) ∧ (BD u.2.2.2.1) ∧ (BD u.2.2.2.2)) (fun u => [(x, .inr (9, [.int (iI ln), .ref a1, .int (iI pl), .ref a3, .ref a4, .int (iI ri), .int (iI u.1), .int (iI u.2.1), .ref a8, .ref a9, .int (iI nn), .ref a11, .int (iI fn), .ref a13, .int (iI lm), .ref a15, .ref a16, .ref a17, .ref a18, .ref a19, .ref a20])), (a3, .inl (G.2.1 0, 32, .inl (iA lw))), (a8, .inl (G.2.1 0, 2000, .inl (iA u.2.2.1))), (a9, .inl (G.2.1 0, 60001, .inl (iA u.2.2.2.1))), (a16, .inl (G.2.1 0, 5000, .inl (iA u.2.2.2.2)))]) := by
  refine MQc.start (own := RX11) (by decide) rfl rfl (Nat.le_of_ble_eq_true rfl) ?_
  intro p9 e9 s9 m9 args below meth c9 A Q C hK hW hA hr hlocks hQ ls hl
  have hl : lv_has ls 5 [(0, .ref x), (1, .int (iI rr)), (2, .int (iI w))] := hl
  have hin11 : ∀ w ∈ wsX110, w ∈ wsX11_around := by decide +kernel
  refine lv_iload_n C.1 C.2.1 dX11_around_0 rfl (lv_at hl 1 rfl) ?_
  refine z_callR (va_runS (As := [.int (iI rr)]) (rest := []) C (c_X11_isRegister l G rr hrr s9.heap.size) (va_cwS 1 C.2.2.2.2 gX11_around_X11_isRegister rfl rfl rfl (by decide +kernel) ⟨Nat.le_of_ble_eq_true rfl, Nat.le_of_ble_eq_true rfl⟩) (z_preS hK hW hA [] rfl (by decide)) rfl rfl hl.1 rfl (lv_room (Nat.le_of_ble_eq_true rfl)) dX11_around_1 ⟨Nat.zero_le _, Nat.zero_le _⟩) (fun r hp => ?_)
  have hp : ∃ z : Int, r = some (.int (iI z)) ∧ ((z = 1 ∧ (0 ≤ rr ∧ rr ≤ 3)) ∨ (z = 0 ∧ ¬ (0 ≤ rr ∧ rr ≤ 3))) := hp
  obtain ⟨z_1, rfl, hz_1_0⟩ := hp
  refine z_if_eq (tgt := 17) C dX11_around_4 (by decide) (by omega) (fun c_4 => ?_) (fun c_4 => ?_)
  ·
    refine lv_iconst (v := iI (-1)) C.1 C.2.1 dX11_around_17 rfl ?_
    rw [hQ]
    have hP9 : ∃ z : Int, (some (Value.int (iI (-1)))) = some (.int (iI z)) ∧ ((0 ≤ rr ∧ rr ≤ 3) ∧ (0 ≤ w ∧ w ≤ 1) → RowL lw rr mn g ∧ AroundQ g mn w z) ∧ (¬ ((0 ≤ rr ∧ rr ≤ 3) ∧ (0 ≤ w ∧ w ≤ 1)) → z = -1) ∧ (LaidR lw ld mn g) ∧ (BD g) ∧ (BD f) ∧ (BD h) := ⟨_, rfl, (fun q9 => by omega), (fun _ => rfl), hLd, hg, hf, hh⟩
    exact z_iret C hr hlocks hW (ld, mn, g, f, h) rfl hP9 dX11_around_18
  ·
    refine lv_iload_n C.1 C.2.1 dX11_around_7 rfl (lv_at hl 2 rfl) ?_
    refine z_i2l C dX11_around_8 (by omega) ?_
    refine lv_lconst (v := lI 0) C.1 C.2.1 dX11_around_9 rfl ?_
    refine lv_lconst (v := lI 1) C.1 C.2.1 dX11_around_10 rfl ?_
    refine z_callR (va_runS (As := [.long (lI w), .long (lI 0), .long (lI 1)]) (rest := []) C (c_X11_in l G w 0 1 (by first | omega | assumption | (intros; first | rfl | omega | assumption | (and_intros <;> first | rfl | omega | assumption))) (by first | omega | assumption | (intros; first | rfl | omega | assumption | (and_intros <;> first | rfl | omega | assumption))) (by first | omega | assumption | (intros; first | rfl | omega | assumption | (and_intros <;> first | rfl | omega | assumption))) s9.heap.size) (va_cwS 3 C.2.2.2.2 gX11_around_X11_in rfl rfl rfl (by decide +kernel) ⟨Nat.le_of_ble_eq_true rfl, Nat.le_of_ble_eq_true rfl⟩) (z_preS hK hW hA [] rfl (by decide)) rfl rfl hl.1 rfl (lv_room (Nat.le_of_ble_eq_true rfl)) dX11_around_11 ⟨Nat.zero_le _, Nat.zero_le _⟩) (fun r hp => ?_)
    have hp : ∃ z : Int, r = some (.int (iI z)) ∧ ((z = 1 ∧ ((0 : Int) ≤ w ∧ w ≤ (1 : Int))) ∨ (z = 0 ∧ ¬ ((0 : Int) ≤ w ∧ w ≤ (1 : Int)))) := hp
    obtain ⟨z_11, rfl, hz_11_0⟩ := hp
    refine z_if_ne (tgt := 19) C dX11_around_14 (by decide) (by omega) (fun c_14 => ?_) (fun c_14 => ?_)
    ·
      refine lv_aload_n C.1 C.2.1 dX11_around_19 rfl (lv_at hl 0 rfl) ?_
      refine lv_iload_n C.1 C.2.1 dX11_around_20 rfl (lv_at hl 1 rfl) ?_
      refine z_call (va_runV (As := [.int (iI rr)]) (rest := []) C (c_X11_lays l G x ln a1 pl a3 a4 ri ld mn a8 a9 nn a11 fn a13 lm a15 a16 a17 a18 a19 a20 lw g f h rr hLw hlw hg hf hh hLd (by first | omega | assumption | (intros; first | rfl | omega | assumption | (and_intros <;> first | rfl | omega | assumption))) s9.heap.size) (cwV 1 C.2.2.2.2 gX11_around_X11_lays rfl rfl rfl (by decide +kernel) ⟨Nat.le_of_ble_eq_true rfl, Nat.le_of_ble_eq_true rfl⟩) (z_preV hK hW hA [0, 1, 2, 3, 4] rfl (by decide) (ci := 9) (q0 := 0) rfl rfl) rfl rfl hl.1 rfl (lv_room (Nat.le_of_ble_eq_true rfl)) dX11_around_21 ⟨Nat.zero_le _, Nat.zero_le _⟩) hW hA [0, 1, 2, 3, 4] rfl (by decide) (fun _ => rfl) (fun r u H locs hp hW => ?_)
      obtain ⟨mn2_21, g2_21, f2_21, h2_21⟩ := u
      have hp : r = none ∧ (RowL lw rr mn2_21 g2_21) ∧ (BD g2_21) ∧ (BD f2_21) ∧ (BD h2_21) := hp
      obtain ⟨rfl, hz_21_0, hz_21_1, hz_21_2, hz_21_3⟩ := hp
      have hW : Wd G A s9.heap [(x, .inr (9, [.int (iI ln), .ref a1, .int (iI pl), .ref a3, .ref a4, .int (iI ri), .int (iI rr), .int (iI mn2_21), .ref a8, .ref a9, .int (iI nn), .ref a11, .int (iI fn), .ref a13, .int (iI lm), .ref a15, .ref a16, .ref a17, .ref a18, .ref a19, .ref a20])), (a3, .inl (G.2.1 0, 32, .inl (iA lw))), (a8, .inl (G.2.1 0, 2000, .inl (iA g2_21))), (a9, .inl (G.2.1 0, 60001, .inl (iA f2_21))), (a16, .inl (G.2.1 0, 5000, .inl (iA h2_21)))] H locs := hW
      have hr99 : 0 ≤ rr ∧ rr ≤ 3 := by omega
      have hRb := RowL_b hz_21_0
      have hRm := hRb.1
      have hV9 := hRb.2
      refine lv_iconst (v := iI 1) C.1 C.2.1 dX11_around_24 rfl ?_
      refine lv_istore_n (lv' := [(3, .int (iI 1)), (0, .ref x), (1, .int (iI rr)), (2, .int (iI w))]) C.1 C.2.1 dX11_around_25 rfl hl (by decide) rfl (fun ls hl => ?_)
      have cut_26 : ∀ (n9 : Nat) (p : Int), (1 ≤ p ∧ p ≤ 601) → (∀ q, q < p → ¬ GoesR g2_21 mn2_21 q) → (601 - p < (n9 : Int)) → ∀ (H : Heap) (locs : List Loc) (ls : Array Slot), Wd G A s9.heap [(x, .inr (9, [.int (iI ln), .ref a1, .int (iI pl), .ref a3, .ref a4, .int (iI ri), .int (iI rr), .int (iI mn2_21), .ref a8, .ref a9, .int (iI nn), .ref a11, .int (iI fn), .ref a13, .int (iI lm), .ref a15, .ref a16, .ref a17, .ref a18, .ref a19, .ref a20])), (a3, .inl (G.2.1 0, 32, .inl (iA lw))), (a8, .inl (G.2.1 0, 2000, .inl (iA g2_21))), (a9, .inl (G.2.1 0, 60001, .inl (iA f2_21))), (a16, .inl (G.2.1 0, 5000, .inl (iA h2_21)))] H locs → lv_has ls 5 [(3, .int (iI p)), (0, .ref x), (1, .int (iI rr)), (2, .int (iI w))] → W p9 l e9 (rmL 4) s9 m9 args below meth c9 H locs 0 0 Q (F0 m9 26 ls []) := by
        intro n9
        induction n9 with
        | zero => intro p hp he hmu; intros; exfalso; omega
        | succ n9 ih_26 =>
          intro p hp he hmu H locs ls hW hl
          refine lv_iload_n C.1 C.2.1 dX11_around_26 rfl (lv_at hl 0 rfl) ?_
          refine lv_sipush (v := iI 600) C.1 C.2.1 dX11_around_27 (by decide +kernel) ?_
          refine z_icmp_gt (tgt := 110) C dX11_around_30 (by decide) (by omega) (fun c_30 => ?_) (fun c_30 => ?_)
          ·
            refine lv_bipush (v := iI (-4)) C.1 C.2.1 dX11_around_110 (by decide +kernel) ?_
            rw [hQ]
            have hP9 : ∃ z : Int, (some (Value.int (iI (-4)))) = some (.int (iI z)) ∧ ((0 ≤ rr ∧ rr ≤ 3) ∧ (0 ≤ w ∧ w ≤ 1) → RowL lw rr mn2_21 g2_21 ∧ AroundQ g2_21 mn2_21 w z) ∧ (¬ ((0 ≤ rr ∧ rr ≤ 3) ∧ (0 ≤ w ∧ w ≤ 1)) → z = -1) ∧ (LaidR lw rr mn2_21 g2_21) ∧ (BD g2_21) ∧ (BD f2_21) ∧ (BD h2_21) := ⟨_, rfl, (fun _ => ⟨hz_21_0, -4, Or.inr ⟨rfl, fun q h9 => he q (by have := h9.2.1; omega) h9⟩, fun _ => rfl, fun q9 => absurd rfl q9⟩), (fun q9 => by first | omega | (exfalso; apply q9; omega)), (Or.inr ⟨hr99, hz_21_0⟩), hz_21_1, hz_21_2, hz_21_3⟩
            exact z_iret C hr hlocks hW (rr, mn2_21, g2_21, f2_21, h2_21) rfl hP9 dX11_around_112
          ·
            have cut_75 : ∀ (t : Int), (t ≤ mn2_21 - p ∧ (t < 0 → t = mn2_21 - p)) → (0 ≤ t → TailR g2_21 mn2_21 p t) → ∀ (H : Heap) (locs : List Loc) (ls : Array Slot), Wd G A s9.heap [(x, .inr (9, [.int (iI ln), .ref a1, .int (iI pl), .ref a3, .ref a4, .int (iI ri), .int (iI rr), .int (iI mn2_21), .ref a8, .ref a9, .int (iI nn), .ref a11, .int (iI fn), .ref a13, .int (iI lm), .ref a15, .ref a16, .ref a17, .ref a18, .ref a19, .ref a20])), (a3, .inl (G.2.1 0, 32, .inl (iA lw))), (a8, .inl (G.2.1 0, 2000, .inl (iA g2_21))), (a9, .inl (G.2.1 0, 60001, .inl (iA f2_21))), (a16, .inl (G.2.1 0, 5000, .inl (iA h2_21)))] H locs → lv_has ls 5 [(3, .int (iI p)), (0, .ref x), (1, .int (iI rr)), (2, .int (iI w)), (4, .int (iI t))] → W p9 l e9 (rmL 4) s9 m9 args below meth c9 H locs 0 0 Q (F0 m9 75 ls []) := by
              intro t ht1 hTl H locs ls hW hl
              refine lv_iload C.1 C.2.1 dX11_around_75 (lv_at hl 4 rfl) ?_
              refine z_if_lt (tgt := 104) C dX11_around_77 (by decide) (by omega) (fun c_77 => ?_) (fun c_77 => ?_)
              ·
                refine lv_iinc (v := iI (p + 1)) (lv' := [(3, .int (iI (p + 1))), (0, .ref x), (1, .int (iI rr)), (2, .int (iI w)), (4, .int (iI t))]) C.1 C.2.1 dX11_around_104 hl (k := 0) rfl (iI_add _ _) (by decide) rfl (fun ls hl => ?_)
                refine lv_goto (tgt := 26) C.1 C.2.1 dX11_around_107 (by decide) ?_
                exact ih_26 (p + 1) (by first | omega | assumption | (intros; first | rfl | omega | assumption | (and_intros <;> first | rfl | omega | assumption))) (fun q h0 h1 => (Int.lt_or_le q p).elim (fun r => he q r h1) (fun r => by have hqp : q = p := (by omega); subst hqp; obtain ⟨_, _, x9, x1, x2⟩ := h1; have x3 := x1.1; have x4 := x1.2.1; have hT9 := TailR_fun (hTl (by omega)) x1; omega)) (by omega) _ _ _ hW (lv_sub hl [0, 1, 2, 3] rfl)
              ·
                refine lv_aload_n C.1 C.2.1 dX11_around_80 rfl (lv_at hl 1 rfl) ?_
                refine z_get C hK hW hin11 (v := .int (iI mn2_21)) 0 rfl rfl 7 (by decide) (C.2.2.2.2 (.fieldLink RX11 101 "TellingRowsModel" "many" "I") (List.mem_of_getElem? (i := 1) rfl)) (fun _ h9 => h9) rfl dX11_around_81 ?_
                refine lv_iload C.1 C.2.1 dX11_around_84 (lv_at hl 4 rfl) ?_
                refine z_isub C dX11_around_86 ?_
                refine lv_iconst (v := iI 3) C.1 C.2.1 dX11_around_87 rfl ?_
                refine lv_iload_n C.1 C.2.1 dX11_around_88 rfl (lv_at hl 0 rfl) ?_
                refine z_imul C dX11_around_89 ?_
                refine z_icmp_lt (tgt := 104) C dX11_around_90 (by decide) (by omega) (fun c_90 => ?_) (fun c_90 => ?_)
                ·
                  refine lv_iinc (v := iI (p + 1)) (lv' := [(3, .int (iI (p + 1))), (0, .ref x), (1, .int (iI rr)), (2, .int (iI w)), (4, .int (iI t))]) C.1 C.2.1 dX11_around_104 hl (k := 0) rfl (iI_add _ _) (by decide) rfl (fun ls hl => ?_)
                  refine lv_goto (tgt := 26) C.1 C.2.1 dX11_around_107 (by decide) ?_
                  exact ih_26 (p + 1) (by first | omega | assumption | (intros; first | rfl | omega | assumption | (and_intros <;> first | rfl | omega | assumption))) (fun q h0 h1 => (Int.lt_or_le q p).elim (fun r => he q r h1) (fun r => by have hqp : q = p := (by omega); subst hqp; obtain ⟨_, _, x9, x1, x2⟩ := h1; have x3 := x1.1; have x4 := x1.2.1; have hT9 := TailR_fun (hTl (by omega)) x1; omega)) (by omega) _ _ _ hW (lv_sub hl [0, 1, 2, 3] rfl)
                ·
                  refine lv_iload_n C.1 C.2.1 dX11_around_93 rfl (lv_at hl 3 rfl) ?_
                  refine z_if_ne (tgt := 101) C dX11_around_94 (by decide) (by omega) (fun c_94 => ?_) (fun c_94 => ?_)
                  ·
                    refine lv_iload C.1 C.2.1 dX11_around_101 (lv_at hl 4 rfl) ?_
                    rw [hQ]
                    have hP9 : ∃ z : Int, (some (Value.int (iI t))) = some (.int (iI z)) ∧ ((0 ≤ rr ∧ rr ≤ 3) ∧ (0 ≤ w ∧ w ≤ 1) → RowL lw rr mn2_21 g2_21 ∧ AroundQ g2_21 mn2_21 w z) ∧ (¬ ((0 ≤ rr ∧ rr ≤ 3) ∧ (0 ≤ w ∧ w ≤ 1)) → z = -1) ∧ (LaidR lw rr mn2_21 g2_21) ∧ (BD g2_21) ∧ (BD f2_21) ∧ (BD h2_21) := ⟨_, rfl, (fun _ => ⟨hz_21_0, p, Or.inl ⟨⟨by omega, by omega, t, hTl (by omega), by omega⟩, he⟩, fun q9 => by omega, fun _ => ⟨fun q9 => by first | rfl | omega, fun q9 => by first | exact hTl (by omega) | omega⟩⟩), (fun q9 => by first | omega | (exfalso; apply q9; omega)), (Or.inr ⟨hr99, hz_21_0⟩), hz_21_1, hz_21_2, hz_21_3⟩
                    exact z_iret C hr hlocks hW (rr, mn2_21, g2_21, f2_21, h2_21) rfl hP9 dX11_around_103
                  ·
                    refine lv_iload_n C.1 C.2.1 dX11_around_97 rfl (lv_at hl 0 rfl) ?_
                    refine lv_goto (tgt := 103) C.1 C.2.1 dX11_around_98 (by decide) ?_
                    rw [hQ]
                    have hP9 : ∃ z : Int, (some (Value.int (iI p))) = some (.int (iI z)) ∧ ((0 ≤ rr ∧ rr ≤ 3) ∧ (0 ≤ w ∧ w ≤ 1) → RowL lw rr mn2_21 g2_21 ∧ AroundQ g2_21 mn2_21 w z) ∧ (¬ ((0 ≤ rr ∧ rr ≤ 3) ∧ (0 ≤ w ∧ w ≤ 1)) → z = -1) ∧ (LaidR lw rr mn2_21 g2_21) ∧ (BD g2_21) ∧ (BD f2_21) ∧ (BD h2_21) := ⟨_, rfl, (fun _ => ⟨hz_21_0, p, Or.inl ⟨⟨by omega, by omega, t, hTl (by omega), by omega⟩, he⟩, fun q9 => by omega, fun _ => ⟨fun q9 => by first | rfl | omega, fun q9 => by first | exact hTl (by omega) | omega⟩⟩), (fun q9 => by first | omega | (exfalso; apply q9; omega)), (Or.inr ⟨hr99, hz_21_0⟩), hz_21_1, hz_21_2, hz_21_3⟩
                    exact z_iret C hr hlocks hW (rr, mn2_21, g2_21, f2_21, h2_21) rfl hP9 dX11_around_103
            refine lv_aload_n C.1 C.2.1 dX11_around_33 rfl (lv_at hl 1 rfl) ?_
            refine z_get C hK hW hin11 (v := .int (iI mn2_21)) 0 rfl rfl 7 (by decide) (C.2.2.2.2 (.fieldLink RX11 101 "TellingRowsModel" "many" "I") (List.mem_of_getElem? (i := 1) rfl)) (fun _ h9 => h9) rfl dX11_around_34 ?_
            refine lv_iload_n C.1 C.2.1 dX11_around_37 rfl (lv_at hl 0 rfl) ?_
            refine z_isub C dX11_around_38 ?_
            refine lv_istore (lv' := [(4, .int (iI (mn2_21 - p))), (3, .int (iI p)), (0, .ref x), (1, .int (iI rr)), (2, .int (iI w))]) C.1 C.2.1 dX11_around_39 hl (by decide) rfl (fun ls hl => ?_)
            have cut_41 : ∀ (n9 : Nat) (t : Int), (t ≤ mn2_21 - p ∧ (t < 0 → t = mn2_21 - p)) → (∀ j, t ≤ j → j < mn2_21 - p → g2_21 j = g2_21 (j + p)) → (max t 0 < (n9 : Int)) → ∀ (H : Heap) (locs : List Loc) (ls : Array Slot), Wd G A s9.heap [(x, .inr (9, [.int (iI ln), .ref a1, .int (iI pl), .ref a3, .ref a4, .int (iI ri), .int (iI rr), .int (iI mn2_21), .ref a8, .ref a9, .int (iI nn), .ref a11, .int (iI fn), .ref a13, .int (iI lm), .ref a15, .ref a16, .ref a17, .ref a18, .ref a19, .ref a20])), (a3, .inl (G.2.1 0, 32, .inl (iA lw))), (a8, .inl (G.2.1 0, 2000, .inl (iA g2_21))), (a9, .inl (G.2.1 0, 60001, .inl (iA f2_21))), (a16, .inl (G.2.1 0, 5000, .inl (iA h2_21)))] H locs → lv_has ls 5 [(4, .int (iI t)), (3, .int (iI p)), (0, .ref x), (1, .int (iI rr)), (2, .int (iI w))] → W p9 l e9 (rmL 4) s9 m9 args below meth c9 H locs 0 0 Q (F0 m9 41 ls []) := by
              intro n9
              induction n9 with
              | zero => intro t ht hte hmu; intros; exfalso; omega
              | succ n9 ih_41 =>
                intro t ht hte hmu H locs ls hW hl
                refine lv_iload C.1 C.2.1 dX11_around_41 (lv_at hl 0 rfl) ?_
                refine z_if_le (tgt := 75) C dX11_around_43 (by decide) (by omega) (fun c_43 => ?_) (fun c_43 => ?_)
                ·
                  exact cut_75 t ht (fun q9 => ⟨q9, by omega, hte, by first | exact Or.inl (by omega) | exact Or.inr c_66⟩) _ _ _ hW (lv_sub hl [1, 2, 3, 4, 0] rfl)
                ·
                  refine lv_aload_n C.1 C.2.1 dX11_around_46 rfl (lv_at hl 2 rfl) ?_
                  refine z_get C hK hW hin11 (v := .ref a8) 0 rfl rfl 8 (by decide) (C.2.2.2.2 (.fieldLink RX11 24 "TellingRowsModel" "row" "[I") (List.mem_of_getElem? (i := 2) rfl)) (fun _ h9 => h9) rfl dX11_around_47 ?_
                  refine lv_iload C.1 C.2.1 dX11_around_50 (lv_at hl 0 rfl) ?_
                  refine lv_iconst (v := iI 1) C.1 C.2.1 dX11_around_52 rfl ?_
                  refine z_isub C dX11_around_53 ?_
                  refine z_iald C hK hW 2 rfl (by omega) (by omega) dX11_around_54 ?_
                  have hb_54 := hz_21_1 (t - 1)
                  have hv1 := hV9 (t - 1) (by omega) (by omega)
                  refine lv_aload_n C.1 C.2.1 dX11_around_55 rfl (lv_at hl 2 rfl) ?_
                  refine z_get C hK hW hin11 (v := .ref a8) 0 rfl rfl 8 (by decide) (C.2.2.2.2 (.fieldLink RX11 24 "TellingRowsModel" "row" "[I") (List.mem_of_getElem? (i := 2) rfl)) (fun _ h9 => h9) rfl dX11_around_56 ?_
                  refine lv_iload C.1 C.2.1 dX11_around_59 (lv_at hl 0 rfl) ?_
                  refine lv_iconst (v := iI 1) C.1 C.2.1 dX11_around_61 rfl ?_
                  refine z_isub C dX11_around_62 ?_
                  refine lv_iload_n C.1 C.2.1 dX11_around_63 rfl (lv_at hl 1 rfl) ?_
                  refine z_iadd C dX11_around_64 ?_
                  refine z_iald C hK hW 2 rfl (by omega) (by omega) dX11_around_65 ?_
                  have hb_65 := hz_21_1 ((t - 1) + p)
                  have hv2 := hV9 (t - 1 + p) (by omega) (by omega)
                  refine z_icmp_ne (tgt := 75) C dX11_around_66 (by decide) (by omega) (fun c_66 => ?_) (fun c_66 => ?_)
                  ·
                    exact cut_75 t ht (fun q9 => ⟨q9, by omega, hte, by first | exact Or.inl (by omega) | exact Or.inr c_66⟩) _ _ _ hW (lv_sub hl [1, 2, 3, 4, 0] rfl)
                  ·
                    refine lv_iinc (v := iI (t + (-1))) (lv' := [(4, .int (iI (t + (-1)))), (3, .int (iI p)), (0, .ref x), (1, .int (iI rr)), (2, .int (iI w))]) C.1 C.2.1 dX11_around_69 hl (k := 0) rfl (iI_add _ _) (by decide) rfl (fun ls hl => ?_)
                    refine lv_goto (tgt := 41) C.1 C.2.1 dX11_around_72 (by decide) ?_
                    exact ih_41 (t + (-1)) (by first | omega | assumption | (intros; first | rfl | omega | assumption | (and_intros <;> first | rfl | omega | assumption))) (fun j j0 j1 => if q : j = t - 1 then (by rw [q]; omega) else hte j (by omega) j1) (by omega) _ _ _ hW (lv_sub hl [0, 1, 2, 3, 4] rfl)
            exact cut_41 (((max (mn2_21 - p) 0) + 1 : Int)).toNat (mn2_21 - p) (by first | omega | assumption | (intros; first | rfl | omega | assumption | (and_intros <;> first | rfl | omega | assumption))) (fun j j0 j1 => by omega) (by omega) _ _ _ hW (lv_sub hl [0, 1, 2, 3, 4] rfl)
      exact cut_26 (((601 - 1) + 1 : Int)).toNat 1 (by first | omega | assumption | (intros; first | rfl | omega | assumption | (and_intros <;> first | rfl | omega | assumption))) (fun q h0 h1 => by have := h1.1; omega) (by omega) _ _ _ hW (lv_sub hl [0, 1, 2, 3] rfl)
    ·
      refine lv_iconst (v := iI (-1)) C.1 C.2.1 dX11_around_17 rfl ?_
      rw [hQ]
      have hP9 : ∃ z : Int, (some (Value.int (iI (-1)))) = some (.int (iI z)) ∧ ((0 ≤ rr ∧ rr ≤ 3) ∧ (0 ≤ w ∧ w ≤ 1) → RowL lw rr mn g ∧ AroundQ g mn w z) ∧ (¬ ((0 ≤ rr ∧ rr ≤ 3) ∧ (0 ≤ w ∧ w ≤ 1)) → z = -1) ∧ (LaidR lw ld mn g) ∧ (BD g) ∧ (BD f) ∧ (BD h) := ⟨_, rfl, (fun q9 => by omega), (fun _ => rfl), hLd, hg, hf, hh⟩
      exact z_iret C hr hlocks hW (ld, mn, g, f, h) rfl hP9 dX11_around_18
set_option maxHeartbeats 4000000 in
set_option maxRecDepth 100000 in
/-- X11_breaksAt -/
theorem c_X11_breaksAt (l : Launch) (G : GG) (x : Nat) (ln : Int) (a1 : Nat) (pl : Int) (a3 : Nat) (a4 : Nat) (ri : Int) (ld : Int) (mn : Int) (a8 : Nat) (a9 : Nat) (nn : Int) (a11 : Nat) (fn : Int) (a13 : Nat) (lm : Int) (a15 : Nat) (a16 : Nat) (a17 : Nat) (a18 : Nat) (a19 : Nat) (a20 : Nat) (lw : Int → Int) (g : Int → Int) (f : Int → Int) (h : Int → Int) (rr : Int) (nf : Int → Int) (hLw : LawR lw) (hlw : BD lw) (hg : BD g) (hf : BD f) (hh : BD h) (hLd : LaidR lw ld mn g) (hrr : -2147483648 ≤ rr ∧ rr ≤ 2147483647) (hr9 : 0 ≤ rr ∧ rr ≤ 3) (hnn : 0 ≤ nn ∧ nn ≤ 40) (hnfb : BD nf) : MQc l yX11_breaksAt wsX11_breaksAt 4 G [.ref x, .int (iI rr)] [(x, .inr (9, [.int (iI ln), .ref a1, .int (iI pl), .ref a3, .ref a4, .int (iI ri), .int (iI ld), .int (iI mn), .ref a8, .ref a9, .int (iI nn), .ref a11, .int (iI fn), .ref a13, .int (iI lm), .ref a15, .ref a16, .ref a17, .ref a18, .ref a19, .ref a20])), (a3, .inl (G.2.1 0, 32, .inl (iA lw))), (a8, .inl (G.2.1 0, 2000, .inl (iA g))), (a9, .inl (G.2.1 0, 60001, .inl (iA f))), (a16, .inl (G.2.1 0, 5000, .inl (iA h))), (a11, .inl (G.2.1 0, 40, .inl (iA nf)))] (fun r (u : Int × Int × (Int → Int) × (Int → Int) × (Int → Int)) => ∃ z : Int, r = some (.int (iI z)) ∧ ((0 ≤ rr ∧ rr ≤ 3) → RowL lw rr u.2.1 u.2.2.1 ∧ BrkR u.2.2.1 u.2.1 nf nn z) ∧ (LaidR lw u.1 u.2.1 u.2.2.1) ∧ (BD u.2.2.1) ∧ (BD u.2.2.2.1) ∧ (BD u.2.2.2.2)) (fun u => [(x, .inr (9, [.int (iI ln), .ref a1, .int (iI pl), .ref a3, .ref a4, .int (iI ri), .int (iI u.1), .int (iI u.2.1), .ref a8, .ref a9, .int (iI nn), .ref a11, .int (iI fn), .ref a13, .int (iI lm), .ref a15, .ref a16, .ref a17, .ref a18, .ref a19, .ref a20])), (a3, .inl (G.2.1 0, 32, .inl (iA lw))), (a8, .inl (G.2.1 0, 2000, .inl (iA u.2.2.1))), (a9, .inl (G.2.1 0, 60001, .inl (iA u.2.2.2.1))), (a16, .inl (G.2.1 0, 5000, .inl (iA u.2.2.2.2))), (a11, .inl (G.2.1 0, 40, .inl (iA nf)))]) := by
  refine MQc.start (own := RX11) (by decide) rfl rfl (Nat.le_of_ble_eq_true rfl) ?_
  intro p9 e9 s9 m9 args below meth c9 A Q C hK hW hA hr hlocks hQ ls hl
  have hl : lv_has ls 3 [(0, .ref x), (1, .int (iI rr))] := hl
  have hin11 : ∀ w ∈ wsX110, w ∈ wsX11_breaksAt := by decide +kernel
  refine lv_aload_n C.1 C.2.1 dX11_breaksAt_0 rfl (lv_at hl 0 rfl) ?_
  refine lv_iload_n C.1 C.2.1 dX11_breaksAt_1 rfl (lv_at hl 1 rfl) ?_
  refine z_call (va_runV (As := [.int (iI rr)]) (rest := []) C (c_X11_lays l G x ln a1 pl a3 a4 ri ld mn a8 a9 nn a11 fn a13 lm a15 a16 a17 a18 a19 a20 lw g f h rr hLw hlw hg hf hh hLd hr9 s9.heap.size) (cwV 1 C.2.2.2.2 gX11_breaksAt_X11_lays rfl rfl rfl (by decide +kernel) ⟨Nat.le_of_ble_eq_true rfl, Nat.le_of_ble_eq_true rfl⟩) (z_preV hK hW hA [0, 1, 2, 3, 4] rfl (by decide) (ci := 9) (q0 := 0) rfl rfl) rfl rfl hl.1 rfl (lv_room (Nat.le_of_ble_eq_true rfl)) dX11_breaksAt_2 ⟨Nat.zero_le _, Nat.zero_le _⟩) hW hA [0, 1, 2, 3, 4] rfl (by decide) (fun _ => rfl) (fun r u H locs hp hW => ?_)
  obtain ⟨mn2_2, g2_2, f2_2, h2_2⟩ := u
  have hp : r = none ∧ (RowL lw rr mn2_2 g2_2) ∧ (BD g2_2) ∧ (BD f2_2) ∧ (BD h2_2) := hp
  obtain ⟨rfl, hz_2_0, hz_2_1, hz_2_2, hz_2_3⟩ := hp
  have hW : Wd G A s9.heap [(x, .inr (9, [.int (iI ln), .ref a1, .int (iI pl), .ref a3, .ref a4, .int (iI ri), .int (iI rr), .int (iI mn2_2), .ref a8, .ref a9, .int (iI nn), .ref a11, .int (iI fn), .ref a13, .int (iI lm), .ref a15, .ref a16, .ref a17, .ref a18, .ref a19, .ref a20])), (a3, .inl (G.2.1 0, 32, .inl (iA lw))), (a8, .inl (G.2.1 0, 2000, .inl (iA g2_2))), (a9, .inl (G.2.1 0, 60001, .inl (iA f2_2))), (a16, .inl (G.2.1 0, 5000, .inl (iA h2_2))), (a11, .inl (G.2.1 0, 40, .inl (iA nf)))] H locs := hW
  have hr99 : 0 ≤ rr ∧ rr ≤ 3 := by omega
  have hRb := RowL_b hz_2_0
  have hRm := hRb.1
  have hV9 := hRb.2
  refine lv_iconst (v := iI 0) C.1 C.2.1 dX11_breaksAt_5 rfl ?_
  refine lv_istore_n (lv' := [(2, .int (iI 0)), (0, .ref x), (1, .int (iI rr))]) C.1 C.2.1 dX11_breaksAt_6 rfl hl (by decide) rfl (fun ls hl => ?_)
  have cut_7 : ∀ (n9 : Nat) (i : Int), (0 ≤ i ∧ i ≤ nn ∧ i ≤ mn2_2) → (∀ j, 0 ≤ j → j < i → g2_2 j = nf j) → (nn - i < (n9 : Int)) → ∀ (H : Heap) (locs : List Loc) (ls : Array Slot), Wd G A s9.heap [(x, .inr (9, [.int (iI ln), .ref a1, .int (iI pl), .ref a3, .ref a4, .int (iI ri), .int (iI rr), .int (iI mn2_2), .ref a8, .ref a9, .int (iI nn), .ref a11, .int (iI fn), .ref a13, .int (iI lm), .ref a15, .ref a16, .ref a17, .ref a18, .ref a19, .ref a20])), (a3, .inl (G.2.1 0, 32, .inl (iA lw))), (a8, .inl (G.2.1 0, 2000, .inl (iA g2_2))), (a9, .inl (G.2.1 0, 60001, .inl (iA f2_2))), (a16, .inl (G.2.1 0, 5000, .inl (iA h2_2))), (a11, .inl (G.2.1 0, 40, .inl (iA nf)))] H locs → lv_has ls 3 [(2, .int (iI i)), (0, .ref x), (1, .int (iI rr))] → W p9 l e9 (rmL 4) s9 m9 args below meth c9 H locs 0 0 Q (F0 m9 7 ls []) := by
    intro n9
    induction n9 with
    | zero => intro i hi he hmu; intros; exfalso; omega
    | succ n9 ih_7 =>
      intro i hi he hmu H locs ls hW hl
      refine lv_iload_n C.1 C.2.1 dX11_breaksAt_7 rfl (lv_at hl 0 rfl) ?_
      refine lv_aload_n C.1 C.2.1 dX11_breaksAt_8 rfl (lv_at hl 1 rfl) ?_
      refine z_get C hK hW hin11 (v := .int (iI nn)) 0 rfl rfl 10 (by decide) (C.2.2.2.2 (.fieldLink RX11 133 "TellingRowsModel" "numbers" "I") (List.mem_of_getElem? (i := 1) rfl)) (fun _ h9 => h9) rfl dX11_breaksAt_9 ?_
      refine z_icmp_ge (tgt := 46) C dX11_breaksAt_12 (by decide) (by omega) (fun c_12 => ?_) (fun c_12 => ?_)
      ·
        refine lv_bipush (v := iI (-4)) C.1 C.2.1 dX11_breaksAt_46 (by decide +kernel) ?_
        rw [hQ]
        have hP9 : ∃ z : Int, (some (Value.int (iI (-4)))) = some (.int (iI z)) ∧ ((0 ≤ rr ∧ rr ≤ 3) → RowL lw rr mn2_2 g2_2 ∧ BrkR g2_2 mn2_2 nf nn z) ∧ (LaidR lw rr mn2_2 g2_2) ∧ (BD g2_2) ∧ (BD f2_2) ∧ (BD h2_2) := ⟨_, rfl, (fun _ => ⟨hz_2_0, Or.inl ⟨rfl, by omega, fun j j0 j1 => he j j0 (by omega)⟩⟩), (Or.inr ⟨hr99, hz_2_0⟩), hz_2_1, hz_2_2, hz_2_3⟩
        exact z_iret C hr hlocks hW (rr, mn2_2, g2_2, f2_2, h2_2) rfl hP9 dX11_breaksAt_48
      ·
        refine lv_iload_n C.1 C.2.1 dX11_breaksAt_15 rfl (lv_at hl 0 rfl) ?_
        refine lv_aload_n C.1 C.2.1 dX11_breaksAt_16 rfl (lv_at hl 1 rfl) ?_
        refine z_get C hK hW hin11 (v := .int (iI mn2_2)) 0 rfl rfl 7 (by decide) (C.2.2.2.2 (.fieldLink RX11 101 "TellingRowsModel" "many" "I") (List.mem_of_getElem? (i := 2) rfl)) (fun _ h9 => h9) rfl dX11_breaksAt_17 ?_
        refine z_icmp_ge (tgt := 38) C dX11_breaksAt_20 (by decide) (by omega) (fun c_20 => ?_) (fun c_20 => ?_)
        ·
          refine lv_iload_n C.1 C.2.1 dX11_breaksAt_38 rfl (lv_at hl 0 rfl) ?_
          rw [hQ]
          have hP9 : ∃ z : Int, (some (Value.int (iI i))) = some (.int (iI z)) ∧ ((0 ≤ rr ∧ rr ≤ 3) → RowL lw rr mn2_2 g2_2 ∧ BrkR g2_2 mn2_2 nf nn z) ∧ (LaidR lw rr mn2_2 g2_2) ∧ (BD g2_2) ∧ (BD f2_2) ∧ (BD h2_2) := ⟨_, rfl, (fun _ => ⟨hz_2_0, Or.inr ⟨by omega, by omega, by omega, he, fun q9 => by first | omega | exact c_35 q9.2⟩⟩), (Or.inr ⟨hr99, hz_2_0⟩), hz_2_1, hz_2_2, hz_2_3⟩
          exact z_iret C hr hlocks hW (rr, mn2_2, g2_2, f2_2, h2_2) rfl hP9 dX11_breaksAt_39
        ·
          refine lv_aload_n C.1 C.2.1 dX11_breaksAt_23 rfl (lv_at hl 1 rfl) ?_
          refine z_get C hK hW hin11 (v := .ref a8) 0 rfl rfl 8 (by decide) (C.2.2.2.2 (.fieldLink RX11 24 "TellingRowsModel" "row" "[I") (List.mem_of_getElem? (i := 3) rfl)) (fun _ h9 => h9) rfl dX11_breaksAt_24 ?_
          refine lv_iload_n C.1 C.2.1 dX11_breaksAt_27 rfl (lv_at hl 0 rfl) ?_
          refine z_iald C hK hW 2 rfl (by omega) (by omega) dX11_breaksAt_28 ?_
          have hb_28 := hz_2_1 i
          have hv1 := hV9 i (by omega) (by omega)
          refine lv_aload_n C.1 C.2.1 dX11_breaksAt_29 rfl (lv_at hl 1 rfl) ?_
          refine z_get C hK hW hin11 (v := .ref a11) 0 rfl rfl 11 (by decide) (C.2.2.2.2 (.fieldLink RX11 31 "TellingRowsModel" "number" "[I") (List.mem_of_getElem? (i := 4) rfl)) (fun _ h9 => h9) rfl dX11_breaksAt_30 ?_
          refine lv_iload_n C.1 C.2.1 dX11_breaksAt_33 rfl (lv_at hl 0 rfl) ?_
          refine z_iald C hK hW 5 rfl (by omega) (by omega) dX11_breaksAt_34 ?_
          have hb_34 := hnfb i
          refine z_icmp_eq (tgt := 40) C dX11_breaksAt_35 (by decide) (by omega) (fun c_35 => ?_) (fun c_35 => ?_)
          ·
            refine lv_iinc (v := iI (i + 1)) (lv' := [(2, .int (iI (i + 1))), (0, .ref x), (1, .int (iI rr))]) C.1 C.2.1 dX11_breaksAt_40 hl (k := 0) rfl (iI_add _ _) (by decide) rfl (fun ls hl => ?_)
            refine lv_goto (tgt := 7) C.1 C.2.1 dX11_breaksAt_43 (by decide) ?_
            exact ih_7 (i + 1) (by first | omega | assumption | (intros; first | rfl | omega | assumption | (and_intros <;> first | rfl | omega | assumption))) (fun j j0 j1 => if q : j = i then (by rw [q]; omega) else he j j0 (by omega)) (by omega) _ _ _ hW (lv_sub hl [0, 1, 2] rfl)
          ·
            refine lv_iload_n C.1 C.2.1 dX11_breaksAt_38 rfl (lv_at hl 0 rfl) ?_
            rw [hQ]
            have hP9 : ∃ z : Int, (some (Value.int (iI i))) = some (.int (iI z)) ∧ ((0 ≤ rr ∧ rr ≤ 3) → RowL lw rr mn2_2 g2_2 ∧ BrkR g2_2 mn2_2 nf nn z) ∧ (LaidR lw rr mn2_2 g2_2) ∧ (BD g2_2) ∧ (BD f2_2) ∧ (BD h2_2) := ⟨_, rfl, (fun _ => ⟨hz_2_0, Or.inr ⟨by omega, by omega, by omega, he, fun q9 => by first | omega | exact c_35 q9.2⟩⟩), (Or.inr ⟨hr99, hz_2_0⟩), hz_2_1, hz_2_2, hz_2_3⟩
            exact z_iret C hr hlocks hW (rr, mn2_2, g2_2, f2_2, h2_2) rfl hP9 dX11_breaksAt_39
  exact cut_7 (((nn - 0) + 1 : Int)).toNat 0 (by first | omega | assumption | (intros; first | rfl | omega | assumption | (and_intros <;> first | rfl | omega | assumption))) (fun j j0 j1 => by omega) (by omega) _ _ _ hW (lv_sub hl [0, 1, 2] rfl)
set_option maxHeartbeats 4000000 in
set_option maxRecDepth 100000 in
/-- X11_breaks -/
theorem c_X11_breaks (l : Launch) (G : GG) (x : Nat) (ln : Int) (a1 : Nat) (pl : Int) (a3 : Nat) (a4 : Nat) (ri : Int) (ld : Int) (mn : Int) (a8 : Nat) (a9 : Nat) (nn : Int) (a11 : Nat) (fn : Int) (a13 : Nat) (lm : Int) (a15 : Nat) (a16 : Nat) (a17 : Nat) (a18 : Nat) (a19 : Nat) (a20 : Nat) (lw : Int → Int) (g : Int → Int) (f : Int → Int) (h : Int → Int) (rr : Int) (nf : Int → Int) (hLw : LawR lw) (hlw : BD lw) (hg : BD g) (hf : BD f) (hh : BD h) (hLd : LaidR lw ld mn g) (hrr : -2147483648 ≤ rr ∧ rr ≤ 2147483647) (hnn : 0 ≤ nn ∧ nn ≤ 40) (hnfb : BD nf) : MQc l yX11_breaks wsX11_breaks 5 G [.ref x, .int (iI rr)] [(x, .inr (9, [.int (iI ln), .ref a1, .int (iI pl), .ref a3, .ref a4, .int (iI ri), .int (iI ld), .int (iI mn), .ref a8, .ref a9, .int (iI nn), .ref a11, .int (iI fn), .ref a13, .int (iI lm), .ref a15, .ref a16, .ref a17, .ref a18, .ref a19, .ref a20])), (a3, .inl (G.2.1 0, 32, .inl (iA lw))), (a8, .inl (G.2.1 0, 2000, .inl (iA g))), (a9, .inl (G.2.1 0, 60001, .inl (iA f))), (a16, .inl (G.2.1 0, 5000, .inl (iA h))), (a11, .inl (G.2.1 0, 40, .inl (iA nf)))] (fun r (u : Int × Int × (Int → Int) × (Int → Int) × (Int → Int)) => ∃ z : Int, r = some (.int (iI z)) ∧ ((0 ≤ rr ∧ rr ≤ 3) → RowL lw rr u.2.1 u.2.2.1 ∧ BrkR u.2.2.1 u.2.1 nf nn z) ∧ (¬ ((0 ≤ rr ∧ rr ≤ 3)) → z = -1) ∧ (LaidR lw u.1 u.2.1 u.2.2.1) ∧ (BD u.2.2.1) ∧ (BD u.2.2.2.1) ∧ (BD u.2.2.2.2)) (fun u => [(x, .inr (9, [.int (iI ln), .ref a1, .int (iI pl), .ref a3, .ref a4, .int (iI ri), .int (iI u.1), .int (iI u.2.1), .ref a8, .ref a9, .int (iI nn), .ref a11, .int (iI fn), .ref a13, .int (iI lm), .ref a15, .ref a16, .ref a17, .ref a18, .ref a19, .ref a20])), (a3, .inl (G.2.1 0, 32, .inl (iA lw))), (a8, .inl (G.2.1 0, 2000, .inl (iA u.2.2.1))), (a9, .inl (G.2.1 0, 60001, .inl (iA u.2.2.2.1))), (a16, .inl (G.2.1 0, 5000, .inl (iA u.2.2.2.2))), (a11, .inl (G.2.1 0, 40, .inl (iA nf)))]) := by
  refine MQc.start (own := RX11) (by decide) rfl rfl (Nat.le_of_ble_eq_true rfl) ?_
  intro p9 e9 s9 m9 args below meth c9 A Q C hK hW hA hr hlocks hQ ls hl
  have hl : lv_has ls 2 [(0, .ref x), (1, .int (iI rr))] := hl
  have hin11 : ∀ w ∈ wsX110, w ∈ wsX11_breaks := by decide +kernel
  refine lv_iload_n C.1 C.2.1 dX11_breaks_0 rfl (lv_at hl 1 rfl) ?_
  refine z_callR (va_runS (As := [.int (iI rr)]) (rest := []) C (c_X11_isRegister l G rr hrr s9.heap.size) (va_cwS 1 C.2.2.2.2 gX11_breaks_X11_isRegister rfl rfl rfl (by decide +kernel) ⟨Nat.le_of_ble_eq_true rfl, Nat.le_of_ble_eq_true rfl⟩) (z_preS hK hW hA [] rfl (by decide)) rfl rfl hl.1 rfl (lv_room (Nat.le_of_ble_eq_true rfl)) dX11_breaks_1 ⟨Nat.zero_le _, Nat.zero_le _⟩) (fun r hp => ?_)
  have hp : ∃ z : Int, r = some (.int (iI z)) ∧ ((z = 1 ∧ (0 ≤ rr ∧ rr ≤ 3)) ∨ (z = 0 ∧ ¬ (0 ≤ rr ∧ rr ≤ 3))) := hp
  obtain ⟨z_1, rfl, hz_1_0⟩ := hp
  refine z_if_eq (tgt := 15) C dX11_breaks_4 (by decide) (by omega) (fun c_4 => ?_) (fun c_4 => ?_)
  ·
    refine lv_iconst (v := iI (-1)) C.1 C.2.1 dX11_breaks_15 rfl ?_
    rw [hQ]
    have hP9 : ∃ z : Int, (some (Value.int (iI (-1)))) = some (.int (iI z)) ∧ ((0 ≤ rr ∧ rr ≤ 3) → RowL lw rr mn g ∧ BrkR g mn nf nn z) ∧ (¬ ((0 ≤ rr ∧ rr ≤ 3)) → z = -1) ∧ (LaidR lw ld mn g) ∧ (BD g) ∧ (BD f) ∧ (BD h) := ⟨_, rfl, (fun q9 => by first | exact hz_9_0 q9 | omega), (fun q9 => by first | rfl | omega), hLd, hg, hf, hh⟩
    exact z_iret C hr hlocks hW (ld, mn, g, f, h) rfl hP9 dX11_breaks_16
  ·
    refine lv_aload_n C.1 C.2.1 dX11_breaks_7 rfl (lv_at hl 0 rfl) ?_
    refine lv_iload_n C.1 C.2.1 dX11_breaks_8 rfl (lv_at hl 1 rfl) ?_
    refine z_call (va_runV (As := [.int (iI rr)]) (rest := []) C (c_X11_breaksAt l G x ln a1 pl a3 a4 ri ld mn a8 a9 nn a11 fn a13 lm a15 a16 a17 a18 a19 a20 lw g f h rr nf hLw hlw hg hf hh hLd hrr (by first | omega | assumption | (intros; first | rfl | omega | assumption | (and_intros <;> first | rfl | omega | assumption))) hnn hnfb s9.heap.size) (cwV 1 C.2.2.2.2 gX11_breaks_X11_breaksAt rfl rfl rfl (by decide +kernel) ⟨Nat.le_of_ble_eq_true rfl, Nat.le_of_ble_eq_true rfl⟩) (z_preV hK hW hA [0, 1, 2, 3, 4, 5] rfl (by decide) (ci := 9) (q0 := 0) rfl rfl) rfl rfl hl.1 rfl (lv_room (Nat.le_of_ble_eq_true rfl)) dX11_breaks_9 ⟨Nat.zero_le _, Nat.zero_le _⟩) hW hA [0, 1, 2, 3, 4, 5] rfl (by decide) (fun _ => rfl) (fun r u H locs hp hW => ?_)
    obtain ⟨ld2_9, mn2_9, g2_9, f2_9, h2_9⟩ := u
    have hp : ∃ z : Int, r = some (.int (iI z)) ∧ ((0 ≤ rr ∧ rr ≤ 3) → RowL lw rr mn2_9 g2_9 ∧ BrkR g2_9 mn2_9 nf nn z) ∧ (LaidR lw ld2_9 mn2_9 g2_9) ∧ (BD g2_9) ∧ (BD f2_9) ∧ (BD h2_9) := hp
    obtain ⟨z_9, rfl, hz_9_0, hz_9_1, hz_9_2, hz_9_3, hz_9_4⟩ := hp
    have hW : Wd G A s9.heap [(x, .inr (9, [.int (iI ln), .ref a1, .int (iI pl), .ref a3, .ref a4, .int (iI ri), .int (iI ld2_9), .int (iI mn2_9), .ref a8, .ref a9, .int (iI nn), .ref a11, .int (iI fn), .ref a13, .int (iI lm), .ref a15, .ref a16, .ref a17, .ref a18, .ref a19, .ref a20])), (a3, .inl (G.2.1 0, 32, .inl (iA lw))), (a8, .inl (G.2.1 0, 2000, .inl (iA g2_9))), (a9, .inl (G.2.1 0, 60001, .inl (iA f2_9))), (a16, .inl (G.2.1 0, 5000, .inl (iA h2_9))), (a11, .inl (G.2.1 0, 40, .inl (iA nf)))] H locs := hW
    have hr99 : 0 ≤ rr ∧ rr ≤ 3 := by omega
    refine lv_goto (tgt := 16) C.1 C.2.1 dX11_breaks_12 (by decide) ?_
    rw [hQ]
    have hP9 : ∃ z : Int, (some (Value.int (iI z_9))) = some (.int (iI z)) ∧ ((0 ≤ rr ∧ rr ≤ 3) → RowL lw rr mn2_9 g2_9 ∧ BrkR g2_9 mn2_9 nf nn z) ∧ (¬ ((0 ≤ rr ∧ rr ≤ 3)) → z = -1) ∧ (LaidR lw ld2_9 mn2_9 g2_9) ∧ (BD g2_9) ∧ (BD f2_9) ∧ (BD h2_9) := ⟨_, rfl, (fun q9 => by first | exact hz_9_0 q9 | omega), (fun q9 => by first | rfl | omega), hz_9_1, hz_9_2, hz_9_3, hz_9_4⟩
    exact z_iret C hr hlocks hW (ld2_9, mn2_9, g2_9, f2_9, h2_9) rfl hP9 dX11_breaks_16
set_option maxHeartbeats 4000000 in
set_option maxRecDepth 100000 in
/-- may -/
theorem c_X11_may (l : Launch) (G : GG) (x : Nat) (ln : Int) (a1 : Nat) (pl : Int) (a3 : Nat) (a4 : Nat) (ri : Int) (ld : Int) (mn : Int) (a8 : Nat) (a9 : Nat) (nn : Int) (a11 : Nat) (fn : Int) (a13 : Nat) (lm : Int) (a15 : Nat) (a16 : Nat) (a17 : Nat) (a18 : Nat) (a19 : Nat) (a20 : Nat) (lw : Int → Int) (g : Int → Int) (f : Int → Int) (h : Int → Int) (nf : Int → Int) (hLw : LawR lw) (hlw : BD lw) (hg : BD g) (hf : BD f) (hh : BD h) (hLd : LaidR lw ld mn g) (hnn : 0 ≤ nn ∧ nn ≤ 40) (hnfb : BD nf) : MQc l yX11_may wsX11_may 5 G [.ref x] [(x, .inr (9, [.int (iI ln), .ref a1, .int (iI pl), .ref a3, .ref a4, .int (iI ri), .int (iI ld), .int (iI mn), .ref a8, .ref a9, .int (iI nn), .ref a11, .int (iI fn), .ref a13, .int (iI lm), .ref a15, .ref a16, .ref a17, .ref a18, .ref a19, .ref a20])), (a3, .inl (G.2.1 0, 32, .inl (iA lw))), (a8, .inl (G.2.1 0, 2000, .inl (iA g))), (a9, .inl (G.2.1 0, 60001, .inl (iA f))), (a16, .inl (G.2.1 0, 5000, .inl (iA h))), (a11, .inl (G.2.1 0, 40, .inl (iA nf)))] (fun r (u : Int × Int × (Int → Int) × (Int → Int) × (Int → Int)) => ∃ z : Int, r = some (.int (iI z)) ∧ (∃ b0 b1 b2 b3 L0 L1 L2 L3 g0 g1 g3 g4, (RowL lw 0 L0 g0 ∧ BrkR g0 L0 nf nn b0) ∧ (RowL lw 1 L1 g1 ∧ BrkR g1 L1 nf nn b1) ∧ (RowL lw 2 L2 g3 ∧ BrkR g3 L2 nf nn b2) ∧ (RowL lw 3 L3 g4 ∧ BrkR g4 L3 nf nn b3) ∧ z = (if b0 = -4 then 1 else 0) + (if b1 = -4 then 2 else 0) + (if b2 = -4 then 4 else 0) + (if b3 = -4 then 8 else 0)) ∧ (LaidR lw u.1 u.2.1 u.2.2.1) ∧ (BD u.2.2.1) ∧ (BD u.2.2.2.1) ∧ (BD u.2.2.2.2)) (fun u => [(x, .inr (9, [.int (iI ln), .ref a1, .int (iI pl), .ref a3, .ref a4, .int (iI ri), .int (iI u.1), .int (iI u.2.1), .ref a8, .ref a9, .int (iI nn), .ref a11, .int (iI fn), .ref a13, .int (iI lm), .ref a15, .ref a16, .ref a17, .ref a18, .ref a19, .ref a20])), (a3, .inl (G.2.1 0, 32, .inl (iA lw))), (a8, .inl (G.2.1 0, 2000, .inl (iA u.2.2.1))), (a9, .inl (G.2.1 0, 60001, .inl (iA u.2.2.2.1))), (a16, .inl (G.2.1 0, 5000, .inl (iA u.2.2.2.2))), (a11, .inl (G.2.1 0, 40, .inl (iA nf)))]) := by
  refine MQc.start (own := RX11) (by decide) rfl rfl (Nat.le_of_ble_eq_true rfl) ?_
  intro p9 e9 s9 m9 args below meth c9 A Q C hK hW hA hr hlocks hQ ls hl
  have hl : lv_has ls 3 [(0, .ref x)] := hl
  have hin11 : ∀ w ∈ wsX110, w ∈ wsX11_may := by decide +kernel
  refine lv_iconst (v := iI 0) C.1 C.2.1 dX11_may_0 rfl ?_
  refine lv_istore_n (lv' := [(1, .int (iI 0)), (0, .ref x)]) C.1 C.2.1 dX11_may_1 rfl hl (by decide) rfl (fun ls hl => ?_)
  refine lv_iconst (v := iI 0) C.1 C.2.1 dX11_may_2 rfl ?_
  refine lv_istore_n (lv' := [(2, .int (iI 0)), (1, .int (iI 0)), (0, .ref x)]) C.1 C.2.1 dX11_may_3 rfl hl (by decide) rfl (fun ls hl => ?_)
  refine lv_iload_n C.1 C.2.1 dX11_may_4 rfl (lv_at hl 0 rfl) ?_
  refine lv_iconst (v := iI 4) C.1 C.2.1 dX11_may_5 rfl ?_
  refine z_icmp_ge (tgt := 35) C dX11_may_6 (by decide) (by omega) (fun c_6 => ?_) (fun c_6 => ?_)
  ·
    exfalso; exact absurd c_6 (by decide)
  ·
    refine lv_iload_n C.1 C.2.1 dX11_may_9 rfl (lv_at hl 1 rfl) ?_
    refine lv_aload_n C.1 C.2.1 dX11_may_10 rfl (lv_at hl 2 rfl) ?_
    refine lv_iload_n C.1 C.2.1 dX11_may_11 rfl (lv_at hl 0 rfl) ?_
    refine z_call (va_runV (As := [.int (iI 0)]) (rest := [.int (iI 0)]) C (c_X11_breaksAt l G x ln a1 pl a3 a4 ri ld mn a8 a9 nn a11 fn a13 lm a15 a16 a17 a18 a19 a20 lw g f h 0 nf hLw hlw hg hf hh hLd (by first | omega | assumption | (intros; first | rfl | omega | assumption | (and_intros <;> first | rfl | omega | assumption))) (by first | omega | assumption | (intros; first | rfl | omega | assumption | (and_intros <;> first | rfl | omega | assumption))) hnn hnfb s9.heap.size) (cwV 1 C.2.2.2.2 gX11_may_X11_breaksAt rfl rfl rfl (by decide +kernel) ⟨Nat.le_of_ble_eq_true rfl, Nat.le_of_ble_eq_true rfl⟩) (z_preV hK hW hA [0, 1, 2, 3, 4, 5] rfl (by decide) (ci := 9) (q0 := 0) rfl rfl) rfl rfl hl.1 rfl (lv_room (Nat.le_of_ble_eq_true rfl)) dX11_may_12 ⟨Nat.zero_le _, Nat.zero_le _⟩) hW hA [0, 1, 2, 3, 4, 5] rfl (by decide) (fun _ => rfl) (fun r u H locs hp hW => ?_)
    obtain ⟨ld2_12, mn2_12, g2_12, f2_12, h2_12⟩ := u
    have hp : ∃ z : Int, r = some (.int (iI z)) ∧ ((0 ≤ (0 : Int) ∧ (0 : Int) ≤ 3) → RowL lw (0 : Int) mn2_12 g2_12 ∧ BrkR g2_12 mn2_12 nf nn z) ∧ (LaidR lw ld2_12 mn2_12 g2_12) ∧ (BD g2_12) ∧ (BD f2_12) ∧ (BD h2_12) := hp
    obtain ⟨z_12, rfl, hz_12_0, hz_12_1, hz_12_2, hz_12_3, hz_12_4⟩ := hp
    have hW : Wd G A s9.heap [(x, .inr (9, [.int (iI ln), .ref a1, .int (iI pl), .ref a3, .ref a4, .int (iI ri), .int (iI ld2_12), .int (iI mn2_12), .ref a8, .ref a9, .int (iI nn), .ref a11, .int (iI fn), .ref a13, .int (iI lm), .ref a15, .ref a16, .ref a17, .ref a18, .ref a19, .ref a20])), (a3, .inl (G.2.1 0, 32, .inl (iA lw))), (a8, .inl (G.2.1 0, 2000, .inl (iA g2_12))), (a9, .inl (G.2.1 0, 60001, .inl (iA f2_12))), (a16, .inl (G.2.1 0, 5000, .inl (iA h2_12))), (a11, .inl (G.2.1 0, 40, .inl (iA nf)))] H locs := hW
    have hB_12 := hz_12_0 (by omega)
    have hb_12 := BrkR_b hB_12.2 hnn
    refine lv_bipush (v := iI (-4)) C.1 C.2.1 dX11_may_15 (by decide +kernel) ?_
    refine z_icmp_ne (tgt := 26) C dX11_may_17 (by decide) (by omega) (fun c_17 => ?_) (fun c_17 => ?_)
    ·
      refine lv_iconst (v := iI 0) C.1 C.2.1 dX11_may_26 rfl ?_
      refine z_ior (z := 0) C (by decide) dX11_may_27 ?_
      refine lv_istore_n (lv' := [(1, .int (iI 0)), (2, .int (iI 0)), (0, .ref x)]) C.1 C.2.1 dX11_may_28 rfl hl (by decide) rfl (fun ls hl => ?_)
      refine lv_iinc (v := iI 1) (lv' := [(2, .int (iI 1)), (1, .int (iI 0)), (0, .ref x)]) C.1 C.2.1 dX11_may_29 hl (k := 1) rfl (iI_add _ _) (by decide) rfl (fun ls hl => ?_)
      refine lv_goto (tgt := 4) C.1 C.2.1 dX11_may_32 (by decide) ?_
      refine lv_iload_n C.1 C.2.1 dX11_may_4 rfl (lv_at hl 0 rfl) ?_
      refine lv_iconst (v := iI 4) C.1 C.2.1 dX11_may_5 rfl ?_
      refine z_icmp_ge (tgt := 35) C dX11_may_6 (by decide) (by omega) (fun c_6 => ?_) (fun c_6 => ?_)
      ·
        exfalso; exact absurd c_6 (by decide)
      ·
        refine lv_iload_n C.1 C.2.1 dX11_may_9 rfl (lv_at hl 1 rfl) ?_
        refine lv_aload_n C.1 C.2.1 dX11_may_10 rfl (lv_at hl 2 rfl) ?_
        refine lv_iload_n C.1 C.2.1 dX11_may_11 rfl (lv_at hl 0 rfl) ?_
        refine z_call (va_runV (As := [.int (iI 1)]) (rest := [.int (iI 0)]) C (c_X11_breaksAt l G x ln a1 pl a3 a4 ri ld2_12 mn2_12 a8 a9 nn a11 fn a13 lm a15 a16 a17 a18 a19 a20 lw g2_12 f2_12 h2_12 1 nf hLw hlw hz_12_2 hz_12_3 hz_12_4 hz_12_1 (by first | omega | assumption | (intros; first | rfl | omega | assumption | (and_intros <;> first | rfl | omega | assumption))) (by first | omega | assumption | (intros; first | rfl | omega | assumption | (and_intros <;> first | rfl | omega | assumption))) hnn hnfb H.size) (cwV 1 C.2.2.2.2 gX11_may_X11_breaksAt rfl rfl rfl (by decide +kernel) ⟨Nat.le_of_ble_eq_true rfl, Nat.le_of_ble_eq_true rfl⟩) (z_preV hK hW hA [0, 1, 2, 3, 4, 5] rfl (by decide) (ci := 9) (q0 := 0) rfl rfl) rfl rfl hl.1 rfl (lv_room (Nat.le_of_ble_eq_true rfl)) dX11_may_12 ⟨Nat.zero_le _, Nat.zero_le _⟩) hW hA [0, 1, 2, 3, 4, 5] rfl (by decide) (fun _ => rfl) (fun r u H locs hp hW => ?_)
        obtain ⟨ld2_12v2, mn2_12v2, g2_12v2, f2_12v2, h2_12v2⟩ := u
        have hp : ∃ z : Int, r = some (.int (iI z)) ∧ ((0 ≤ (1 : Int) ∧ (1 : Int) ≤ 3) → RowL lw (1 : Int) mn2_12v2 g2_12v2 ∧ BrkR g2_12v2 mn2_12v2 nf nn z) ∧ (LaidR lw ld2_12v2 mn2_12v2 g2_12v2) ∧ (BD g2_12v2) ∧ (BD f2_12v2) ∧ (BD h2_12v2) := hp
        obtain ⟨z_12v2, rfl, hz_12v2_0, hz_12v2_1, hz_12v2_2, hz_12v2_3, hz_12v2_4⟩ := hp
        have hW : Wd G A s9.heap [(x, .inr (9, [.int (iI ln), .ref a1, .int (iI pl), .ref a3, .ref a4, .int (iI ri), .int (iI ld2_12v2), .int (iI mn2_12v2), .ref a8, .ref a9, .int (iI nn), .ref a11, .int (iI fn), .ref a13, .int (iI lm), .ref a15, .ref a16, .ref a17, .ref a18, .ref a19, .ref a20])), (a3, .inl (G.2.1 0, 32, .inl (iA lw))), (a8, .inl (G.2.1 0, 2000, .inl (iA g2_12v2))), (a9, .inl (G.2.1 0, 60001, .inl (iA f2_12v2))), (a16, .inl (G.2.1 0, 5000, .inl (iA h2_12v2))), (a11, .inl (G.2.1 0, 40, .inl (iA nf)))] H locs := hW
        have hB_12v2 := hz_12v2_0 (by omega)
        have hb_12v2 := BrkR_b hB_12v2.2 hnn
        refine lv_bipush (v := iI (-4)) C.1 C.2.1 dX11_may_15 (by decide +kernel) ?_
        refine z_icmp_ne (tgt := 26) C dX11_may_17 (by decide) (by omega) (fun c_17 => ?_) (fun c_17 => ?_)
        ·
          refine lv_iconst (v := iI 0) C.1 C.2.1 dX11_may_26 rfl ?_
          refine z_ior (z := 0) C (by decide) dX11_may_27 ?_
          refine lv_istore_n (lv' := [(1, .int (iI 0)), (2, .int (iI 1)), (0, .ref x)]) C.1 C.2.1 dX11_may_28 rfl hl (by decide) rfl (fun ls hl => ?_)
          refine lv_iinc (v := iI 2) (lv' := [(2, .int (iI 2)), (1, .int (iI 0)), (0, .ref x)]) C.1 C.2.1 dX11_may_29 hl (k := 1) rfl (iI_add _ _) (by decide) rfl (fun ls hl => ?_)
          refine lv_goto (tgt := 4) C.1 C.2.1 dX11_may_32 (by decide) ?_
          refine lv_iload_n C.1 C.2.1 dX11_may_4 rfl (lv_at hl 0 rfl) ?_
          refine lv_iconst (v := iI 4) C.1 C.2.1 dX11_may_5 rfl ?_
          refine z_icmp_ge (tgt := 35) C dX11_may_6 (by decide) (by omega) (fun c_6 => ?_) (fun c_6 => ?_)
          ·
            exfalso; exact absurd c_6 (by decide)
          ·
            refine lv_iload_n C.1 C.2.1 dX11_may_9 rfl (lv_at hl 1 rfl) ?_
            refine lv_aload_n C.1 C.2.1 dX11_may_10 rfl (lv_at hl 2 rfl) ?_
            refine lv_iload_n C.1 C.2.1 dX11_may_11 rfl (lv_at hl 0 rfl) ?_
            refine z_call (va_runV (As := [.int (iI 2)]) (rest := [.int (iI 0)]) C (c_X11_breaksAt l G x ln a1 pl a3 a4 ri ld2_12v2 mn2_12v2 a8 a9 nn a11 fn a13 lm a15 a16 a17 a18 a19 a20 lw g2_12v2 f2_12v2 h2_12v2 2 nf hLw hlw hz_12v2_2 hz_12v2_3 hz_12v2_4 hz_12v2_1 (by first | omega | assumption | (intros; first | rfl | omega | assumption | (and_intros <;> first | rfl | omega | assumption))) (by first | omega | assumption | (intros; first | rfl | omega | assumption | (and_intros <;> first | rfl | omega | assumption))) hnn hnfb H.size) (cwV 1 C.2.2.2.2 gX11_may_X11_breaksAt rfl rfl rfl (by decide +kernel) ⟨Nat.le_of_ble_eq_true rfl, Nat.le_of_ble_eq_true rfl⟩) (z_preV hK hW hA [0, 1, 2, 3, 4, 5] rfl (by decide) (ci := 9) (q0 := 0) rfl rfl) rfl rfl hl.1 rfl (lv_room (Nat.le_of_ble_eq_true rfl)) dX11_may_12 ⟨Nat.zero_le _, Nat.zero_le _⟩) hW hA [0, 1, 2, 3, 4, 5] rfl (by decide) (fun _ => rfl) (fun r u H locs hp hW => ?_)
            obtain ⟨ld2_12v3, mn2_12v3, g2_12v3, f2_12v3, h2_12v3⟩ := u
            have hp : ∃ z : Int, r = some (.int (iI z)) ∧ ((0 ≤ (2 : Int) ∧ (2 : Int) ≤ 3) → RowL lw (2 : Int) mn2_12v3 g2_12v3 ∧ BrkR g2_12v3 mn2_12v3 nf nn z) ∧ (LaidR lw ld2_12v3 mn2_12v3 g2_12v3) ∧ (BD g2_12v3) ∧ (BD f2_12v3) ∧ (BD h2_12v3) := hp
            obtain ⟨z_12v3, rfl, hz_12v3_0, hz_12v3_1, hz_12v3_2, hz_12v3_3, hz_12v3_4⟩ := hp
            have hW : Wd G A s9.heap [(x, .inr (9, [.int (iI ln), .ref a1, .int (iI pl), .ref a3, .ref a4, .int (iI ri), .int (iI ld2_12v3), .int (iI mn2_12v3), .ref a8, .ref a9, .int (iI nn), .ref a11, .int (iI fn), .ref a13, .int (iI lm), .ref a15, .ref a16, .ref a17, .ref a18, .ref a19, .ref a20])), (a3, .inl (G.2.1 0, 32, .inl (iA lw))), (a8, .inl (G.2.1 0, 2000, .inl (iA g2_12v3))), (a9, .inl (G.2.1 0, 60001, .inl (iA f2_12v3))), (a16, .inl (G.2.1 0, 5000, .inl (iA h2_12v3))), (a11, .inl (G.2.1 0, 40, .inl (iA nf)))] H locs := hW
            have hB_12v3 := hz_12v3_0 (by omega)
            have hb_12v3 := BrkR_b hB_12v3.2 hnn
            refine lv_bipush (v := iI (-4)) C.1 C.2.1 dX11_may_15 (by decide +kernel) ?_
            refine z_icmp_ne (tgt := 26) C dX11_may_17 (by decide) (by omega) (fun c_17 => ?_) (fun c_17 => ?_)
            ·
              refine lv_iconst (v := iI 0) C.1 C.2.1 dX11_may_26 rfl ?_
              refine z_ior (z := 0) C (by decide) dX11_may_27 ?_
              refine lv_istore_n (lv' := [(1, .int (iI 0)), (2, .int (iI 2)), (0, .ref x)]) C.1 C.2.1 dX11_may_28 rfl hl (by decide) rfl (fun ls hl => ?_)
              refine lv_iinc (v := iI 3) (lv' := [(2, .int (iI 3)), (1, .int (iI 0)), (0, .ref x)]) C.1 C.2.1 dX11_may_29 hl (k := 1) rfl (iI_add _ _) (by decide) rfl (fun ls hl => ?_)
              refine lv_goto (tgt := 4) C.1 C.2.1 dX11_may_32 (by decide) ?_
              refine lv_iload_n C.1 C.2.1 dX11_may_4 rfl (lv_at hl 0 rfl) ?_
              refine lv_iconst (v := iI 4) C.1 C.2.1 dX11_may_5 rfl ?_
              refine z_icmp_ge (tgt := 35) C dX11_may_6 (by decide) (by omega) (fun c_6 => ?_) (fun c_6 => ?_)
              ·
                exfalso; exact absurd c_6 (by decide)
              ·
                refine lv_iload_n C.1 C.2.1 dX11_may_9 rfl (lv_at hl 1 rfl) ?_
                refine lv_aload_n C.1 C.2.1 dX11_may_10 rfl (lv_at hl 2 rfl) ?_
                refine lv_iload_n C.1 C.2.1 dX11_may_11 rfl (lv_at hl 0 rfl) ?_
                refine z_call (va_runV (As := [.int (iI 3)]) (rest := [.int (iI 0)]) C (c_X11_breaksAt l G x ln a1 pl a3 a4 ri ld2_12v3 mn2_12v3 a8 a9 nn a11 fn a13 lm a15 a16 a17 a18 a19 a20 lw g2_12v3 f2_12v3 h2_12v3 3 nf hLw hlw hz_12v3_2 hz_12v3_3 hz_12v3_4 hz_12v3_1 (by first | omega | assumption | (intros; first | rfl | omega | assumption | (and_intros <;> first | rfl | omega | assumption))) (by first | omega | assumption | (intros; first | rfl | omega | assumption | (and_intros <;> first | rfl | omega | assumption))) hnn hnfb H.size) (cwV 1 C.2.2.2.2 gX11_may_X11_breaksAt rfl rfl rfl (by decide +kernel) ⟨Nat.le_of_ble_eq_true rfl, Nat.le_of_ble_eq_true rfl⟩) (z_preV hK hW hA [0, 1, 2, 3, 4, 5] rfl (by decide) (ci := 9) (q0 := 0) rfl rfl) rfl rfl hl.1 rfl (lv_room (Nat.le_of_ble_eq_true rfl)) dX11_may_12 ⟨Nat.zero_le _, Nat.zero_le _⟩) hW hA [0, 1, 2, 3, 4, 5] rfl (by decide) (fun _ => rfl) (fun r u H locs hp hW => ?_)
                obtain ⟨ld2_12v4, mn2_12v4, g2_12v4, f2_12v4, h2_12v4⟩ := u
                have hp : ∃ z : Int, r = some (.int (iI z)) ∧ ((0 ≤ (3 : Int) ∧ (3 : Int) ≤ 3) → RowL lw (3 : Int) mn2_12v4 g2_12v4 ∧ BrkR g2_12v4 mn2_12v4 nf nn z) ∧ (LaidR lw ld2_12v4 mn2_12v4 g2_12v4) ∧ (BD g2_12v4) ∧ (BD f2_12v4) ∧ (BD h2_12v4) := hp
                obtain ⟨z_12v4, rfl, hz_12v4_0, hz_12v4_1, hz_12v4_2, hz_12v4_3, hz_12v4_4⟩ := hp
                have hW : Wd G A s9.heap [(x, .inr (9, [.int (iI ln), .ref a1, .int (iI pl), .ref a3, .ref a4, .int (iI ri), .int (iI ld2_12v4), .int (iI mn2_12v4), .ref a8, .ref a9, .int (iI nn), .ref a11, .int (iI fn), .ref a13, .int (iI lm), .ref a15, .ref a16, .ref a17, .ref a18, .ref a19, .ref a20])), (a3, .inl (G.2.1 0, 32, .inl (iA lw))), (a8, .inl (G.2.1 0, 2000, .inl (iA g2_12v4))), (a9, .inl (G.2.1 0, 60001, .inl (iA f2_12v4))), (a16, .inl (G.2.1 0, 5000, .inl (iA h2_12v4))), (a11, .inl (G.2.1 0, 40, .inl (iA nf)))] H locs := hW
                have hB_12v4 := hz_12v4_0 (by omega)
                have hb_12v4 := BrkR_b hB_12v4.2 hnn
                refine lv_bipush (v := iI (-4)) C.1 C.2.1 dX11_may_15 (by decide +kernel) ?_
                refine z_icmp_ne (tgt := 26) C dX11_may_17 (by decide) (by omega) (fun c_17 => ?_) (fun c_17 => ?_)
                ·
                  refine lv_iconst (v := iI 0) C.1 C.2.1 dX11_may_26 rfl ?_
                  refine z_ior (z := 0) C (by decide) dX11_may_27 ?_
                  refine lv_istore_n (lv' := [(1, .int (iI 0)), (2, .int (iI 3)), (0, .ref x)]) C.1 C.2.1 dX11_may_28 rfl hl (by decide) rfl (fun ls hl => ?_)
                  refine lv_iinc (v := iI 4) (lv' := [(2, .int (iI 4)), (1, .int (iI 0)), (0, .ref x)]) C.1 C.2.1 dX11_may_29 hl (k := 1) rfl (iI_add _ _) (by decide) rfl (fun ls hl => ?_)
                  refine lv_goto (tgt := 4) C.1 C.2.1 dX11_may_32 (by decide) ?_
                  refine lv_iload_n C.1 C.2.1 dX11_may_4 rfl (lv_at hl 0 rfl) ?_
                  refine lv_iconst (v := iI 4) C.1 C.2.1 dX11_may_5 rfl ?_
                  refine z_icmp_ge (tgt := 35) C dX11_may_6 (by decide) (by omega) (fun c_6 => ?_) (fun c_6 => ?_)
                  ·
                    refine lv_iload_n C.1 C.2.1 dX11_may_35 rfl (lv_at hl 1 rfl) ?_
                    rw [hQ]
                    have hP9 : ∃ z : Int, (some (Value.int (iI 0))) = some (.int (iI z)) ∧ (∃ b0 b1 b2 b3 L0 L1 L2 L3 g0 g1 g3 g4, (RowL lw 0 L0 g0 ∧ BrkR g0 L0 nf nn b0) ∧ (RowL lw 1 L1 g1 ∧ BrkR g1 L1 nf nn b1) ∧ (RowL lw 2 L2 g3 ∧ BrkR g3 L2 nf nn b2) ∧ (RowL lw 3 L3 g4 ∧ BrkR g4 L3 nf nn b3) ∧ z = (if b0 = -4 then 1 else 0) + (if b1 = -4 then 2 else 0) + (if b2 = -4 then 4 else 0) + (if b3 = -4 then 8 else 0)) ∧ (LaidR lw ld2_12v4 mn2_12v4 g2_12v4) ∧ (BD g2_12v4) ∧ (BD f2_12v4) ∧ (BD h2_12v4) := ⟨_, rfl, ⟨_, _, _, _, _, _, _, _, _, _, _, _, hB_12, hB_12v2, hB_12v3, hB_12v4, by (repeat' split) <;> omega⟩, hz_12v4_1, hz_12v4_2, hz_12v4_3, hz_12v4_4⟩
                    exact z_iret C hr hlocks hW (ld2_12v4, mn2_12v4, g2_12v4, f2_12v4, h2_12v4) rfl hP9 dX11_may_36
                  ·
                    exfalso; exact absurd c_6 (by decide)
                ·
                  refine lv_iconst (v := iI 1) C.1 C.2.1 dX11_may_20 rfl ?_
                  refine lv_iload_n C.1 C.2.1 dX11_may_21 rfl (lv_at hl 0 rfl) ?_
                  refine z_ishl (z := 8) C (by decide) dX11_may_22 ?_
                  refine lv_goto (tgt := 27) C.1 C.2.1 dX11_may_23 (by decide) ?_
                  refine z_ior (z := 8) C (by decide) dX11_may_27 ?_
                  refine lv_istore_n (lv' := [(1, .int (iI 8)), (2, .int (iI 3)), (0, .ref x)]) C.1 C.2.1 dX11_may_28 rfl hl (by decide) rfl (fun ls hl => ?_)
                  refine lv_iinc (v := iI 4) (lv' := [(2, .int (iI 4)), (1, .int (iI 8)), (0, .ref x)]) C.1 C.2.1 dX11_may_29 hl (k := 1) rfl (iI_add _ _) (by decide) rfl (fun ls hl => ?_)
                  refine lv_goto (tgt := 4) C.1 C.2.1 dX11_may_32 (by decide) ?_
                  refine lv_iload_n C.1 C.2.1 dX11_may_4 rfl (lv_at hl 0 rfl) ?_
                  refine lv_iconst (v := iI 4) C.1 C.2.1 dX11_may_5 rfl ?_
                  refine z_icmp_ge (tgt := 35) C dX11_may_6 (by decide) (by omega) (fun c_6 => ?_) (fun c_6 => ?_)
                  ·
                    refine lv_iload_n C.1 C.2.1 dX11_may_35 rfl (lv_at hl 1 rfl) ?_
                    rw [hQ]
                    have hP9 : ∃ z : Int, (some (Value.int (iI 8))) = some (.int (iI z)) ∧ (∃ b0 b1 b2 b3 L0 L1 L2 L3 g0 g1 g3 g4, (RowL lw 0 L0 g0 ∧ BrkR g0 L0 nf nn b0) ∧ (RowL lw 1 L1 g1 ∧ BrkR g1 L1 nf nn b1) ∧ (RowL lw 2 L2 g3 ∧ BrkR g3 L2 nf nn b2) ∧ (RowL lw 3 L3 g4 ∧ BrkR g4 L3 nf nn b3) ∧ z = (if b0 = -4 then 1 else 0) + (if b1 = -4 then 2 else 0) + (if b2 = -4 then 4 else 0) + (if b3 = -4 then 8 else 0)) ∧ (LaidR lw ld2_12v4 mn2_12v4 g2_12v4) ∧ (BD g2_12v4) ∧ (BD f2_12v4) ∧ (BD h2_12v4) := ⟨_, rfl, ⟨_, _, _, _, _, _, _, _, _, _, _, _, hB_12, hB_12v2, hB_12v3, hB_12v4, by (repeat' split) <;> omega⟩, hz_12v4_1, hz_12v4_2, hz_12v4_3, hz_12v4_4⟩
                    exact z_iret C hr hlocks hW (ld2_12v4, mn2_12v4, g2_12v4, f2_12v4, h2_12v4) rfl hP9 dX11_may_36
                  ·
                    exfalso; exact absurd c_6 (by decide)
            ·
              refine lv_iconst (v := iI 1) C.1 C.2.1 dX11_may_20 rfl ?_
              refine lv_iload_n C.1 C.2.1 dX11_may_21 rfl (lv_at hl 0 rfl) ?_
              refine z_ishl (z := 4) C (by decide) dX11_may_22 ?_
              refine lv_goto (tgt := 27) C.1 C.2.1 dX11_may_23 (by decide) ?_
              refine z_ior (z := 4) C (by decide) dX11_may_27 ?_
              refine lv_istore_n (lv' := [(1, .int (iI 4)), (2, .int (iI 2)), (0, .ref x)]) C.1 C.2.1 dX11_may_28 rfl hl (by decide) rfl (fun ls hl => ?_)
              refine lv_iinc (v := iI 3) (lv' := [(2, .int (iI 3)), (1, .int (iI 4)), (0, .ref x)]) C.1 C.2.1 dX11_may_29 hl (k := 1) rfl (iI_add _ _) (by decide) rfl (fun ls hl => ?_)
              refine lv_goto (tgt := 4) C.1 C.2.1 dX11_may_32 (by decide) ?_
              refine lv_iload_n C.1 C.2.1 dX11_may_4 rfl (lv_at hl 0 rfl) ?_
              refine lv_iconst (v := iI 4) C.1 C.2.1 dX11_may_5 rfl ?_
              refine z_icmp_ge (tgt := 35) C dX11_may_6 (by decide) (by omega) (fun c_6 => ?_) (fun c_6 => ?_)
              ·
                exfalso; exact absurd c_6 (by decide)
              ·
                refine lv_iload_n C.1 C.2.1 dX11_may_9 rfl (lv_at hl 1 rfl) ?_
                refine lv_aload_n C.1 C.2.1 dX11_may_10 rfl (lv_at hl 2 rfl) ?_
                refine lv_iload_n C.1 C.2.1 dX11_may_11 rfl (lv_at hl 0 rfl) ?_
                refine z_call (va_runV (As := [.int (iI 3)]) (rest := [.int (iI 4)]) C (c_X11_breaksAt l G x ln a1 pl a3 a4 ri ld2_12v3 mn2_12v3 a8 a9 nn a11 fn a13 lm a15 a16 a17 a18 a19 a20 lw g2_12v3 f2_12v3 h2_12v3 3 nf hLw hlw hz_12v3_2 hz_12v3_3 hz_12v3_4 hz_12v3_1 (by first | omega | assumption | (intros; first | rfl | omega | assumption | (and_intros <;> first | rfl | omega | assumption))) (by first | omega | assumption | (intros; first | rfl | omega | assumption | (and_intros <;> first | rfl | omega | assumption))) hnn hnfb H.size) (cwV 1 C.2.2.2.2 gX11_may_X11_breaksAt rfl rfl rfl (by decide +kernel) ⟨Nat.le_of_ble_eq_true rfl, Nat.le_of_ble_eq_true rfl⟩) (z_preV hK hW hA [0, 1, 2, 3, 4, 5] rfl (by decide) (ci := 9) (q0 := 0) rfl rfl) rfl rfl hl.1 rfl (lv_room (Nat.le_of_ble_eq_true rfl)) dX11_may_12 ⟨Nat.zero_le _, Nat.zero_le _⟩) hW hA [0, 1, 2, 3, 4, 5] rfl (by decide) (fun _ => rfl) (fun r u H locs hp hW => ?_)
                obtain ⟨ld2_12v4, mn2_12v4, g2_12v4, f2_12v4, h2_12v4⟩ := u
                have hp : ∃ z : Int, r = some (.int (iI z)) ∧ ((0 ≤ (3 : Int) ∧ (3 : Int) ≤ 3) → RowL lw (3 : Int) mn2_12v4 g2_12v4 ∧ BrkR g2_12v4 mn2_12v4 nf nn z) ∧ (LaidR lw ld2_12v4 mn2_12v4 g2_12v4) ∧ (BD g2_12v4) ∧ (BD f2_12v4) ∧ (BD h2_12v4) := hp
                obtain ⟨z_12v4, rfl, hz_12v4_0, hz_12v4_1, hz_12v4_2, hz_12v4_3, hz_12v4_4⟩ := hp
                have hW : Wd G A s9.heap [(x, .inr (9, [.int (iI ln), .ref a1, .int (iI pl), .ref a3, .ref a4, .int (iI ri), .int (iI ld2_12v4), .int (iI mn2_12v4), .ref a8, .ref a9, .int (iI nn), .ref a11, .int (iI fn), .ref a13, .int (iI lm), .ref a15, .ref a16, .ref a17, .ref a18, .ref a19, .ref a20])), (a3, .inl (G.2.1 0, 32, .inl (iA lw))), (a8, .inl (G.2.1 0, 2000, .inl (iA g2_12v4))), (a9, .inl (G.2.1 0, 60001, .inl (iA f2_12v4))), (a16, .inl (G.2.1 0, 5000, .inl (iA h2_12v4))), (a11, .inl (G.2.1 0, 40, .inl (iA nf)))] H locs := hW
                have hB_12v4 := hz_12v4_0 (by omega)
                have hb_12v4 := BrkR_b hB_12v4.2 hnn
                refine lv_bipush (v := iI (-4)) C.1 C.2.1 dX11_may_15 (by decide +kernel) ?_
                refine z_icmp_ne (tgt := 26) C dX11_may_17 (by decide) (by omega) (fun c_17 => ?_) (fun c_17 => ?_)
                ·
                  refine lv_iconst (v := iI 0) C.1 C.2.1 dX11_may_26 rfl ?_
                  refine z_ior (z := 4) C (by decide) dX11_may_27 ?_
                  refine lv_istore_n (lv' := [(1, .int (iI 4)), (2, .int (iI 3)), (0, .ref x)]) C.1 C.2.1 dX11_may_28 rfl hl (by decide) rfl (fun ls hl => ?_)
                  refine lv_iinc (v := iI 4) (lv' := [(2, .int (iI 4)), (1, .int (iI 4)), (0, .ref x)]) C.1 C.2.1 dX11_may_29 hl (k := 1) rfl (iI_add _ _) (by decide) rfl (fun ls hl => ?_)
                  refine lv_goto (tgt := 4) C.1 C.2.1 dX11_may_32 (by decide) ?_
                  refine lv_iload_n C.1 C.2.1 dX11_may_4 rfl (lv_at hl 0 rfl) ?_
                  refine lv_iconst (v := iI 4) C.1 C.2.1 dX11_may_5 rfl ?_
                  refine z_icmp_ge (tgt := 35) C dX11_may_6 (by decide) (by omega) (fun c_6 => ?_) (fun c_6 => ?_)
                  ·
                    refine lv_iload_n C.1 C.2.1 dX11_may_35 rfl (lv_at hl 1 rfl) ?_
                    rw [hQ]
                    have hP9 : ∃ z : Int, (some (Value.int (iI 4))) = some (.int (iI z)) ∧ (∃ b0 b1 b2 b3 L0 L1 L2 L3 g0 g1 g3 g4, (RowL lw 0 L0 g0 ∧ BrkR g0 L0 nf nn b0) ∧ (RowL lw 1 L1 g1 ∧ BrkR g1 L1 nf nn b1) ∧ (RowL lw 2 L2 g3 ∧ BrkR g3 L2 nf nn b2) ∧ (RowL lw 3 L3 g4 ∧ BrkR g4 L3 nf nn b3) ∧ z = (if b0 = -4 then 1 else 0) + (if b1 = -4 then 2 else 0) + (if b2 = -4 then 4 else 0) + (if b3 = -4 then 8 else 0)) ∧ (LaidR lw ld2_12v4 mn2_12v4 g2_12v4) ∧ (BD g2_12v4) ∧ (BD f2_12v4) ∧ (BD h2_12v4) := ⟨_, rfl, ⟨_, _, _, _, _, _, _, _, _, _, _, _, hB_12, hB_12v2, hB_12v3, hB_12v4, by (repeat' split) <;> omega⟩, hz_12v4_1, hz_12v4_2, hz_12v4_3, hz_12v4_4⟩
                    exact z_iret C hr hlocks hW (ld2_12v4, mn2_12v4, g2_12v4, f2_12v4, h2_12v4) rfl hP9 dX11_may_36
                  ·
                    exfalso; exact absurd c_6 (by decide)
                ·
                  refine lv_iconst (v := iI 1) C.1 C.2.1 dX11_may_20 rfl ?_
                  refine lv_iload_n C.1 C.2.1 dX11_may_21 rfl (lv_at hl 0 rfl) ?_
                  refine z_ishl (z := 8) C (by decide) dX11_may_22 ?_
                  refine lv_goto (tgt := 27) C.1 C.2.1 dX11_may_23 (by decide) ?_
                  refine z_ior (z := 12) C (by decide) dX11_may_27 ?_
                  refine lv_istore_n (lv' := [(1, .int (iI 12)), (2, .int (iI 3)), (0, .ref x)]) C.1 C.2.1 dX11_may_28 rfl hl (by decide) rfl (fun ls hl => ?_)
                  refine lv_iinc (v := iI 4) (lv' := [(2, .int (iI 4)), (1, .int (iI 12)), (0, .ref x)]) C.1 C.2.1 dX11_may_29 hl (k := 1) rfl (iI_add _ _) (by decide) rfl (fun ls hl => ?_)
                  refine lv_goto (tgt := 4) C.1 C.2.1 dX11_may_32 (by decide) ?_
                  refine lv_iload_n C.1 C.2.1 dX11_may_4 rfl (lv_at hl 0 rfl) ?_
                  refine lv_iconst (v := iI 4) C.1 C.2.1 dX11_may_5 rfl ?_
                  refine z_icmp_ge (tgt := 35) C dX11_may_6 (by decide) (by omega) (fun c_6 => ?_) (fun c_6 => ?_)
                  ·
                    refine lv_iload_n C.1 C.2.1 dX11_may_35 rfl (lv_at hl 1 rfl) ?_
                    rw [hQ]
                    have hP9 : ∃ z : Int, (some (Value.int (iI 12))) = some (.int (iI z)) ∧ (∃ b0 b1 b2 b3 L0 L1 L2 L3 g0 g1 g3 g4, (RowL lw 0 L0 g0 ∧ BrkR g0 L0 nf nn b0) ∧ (RowL lw 1 L1 g1 ∧ BrkR g1 L1 nf nn b1) ∧ (RowL lw 2 L2 g3 ∧ BrkR g3 L2 nf nn b2) ∧ (RowL lw 3 L3 g4 ∧ BrkR g4 L3 nf nn b3) ∧ z = (if b0 = -4 then 1 else 0) + (if b1 = -4 then 2 else 0) + (if b2 = -4 then 4 else 0) + (if b3 = -4 then 8 else 0)) ∧ (LaidR lw ld2_12v4 mn2_12v4 g2_12v4) ∧ (BD g2_12v4) ∧ (BD f2_12v4) ∧ (BD h2_12v4) := ⟨_, rfl, ⟨_, _, _, _, _, _, _, _, _, _, _, _, hB_12, hB_12v2, hB_12v3, hB_12v4, by (repeat' split) <;> omega⟩, hz_12v4_1, hz_12v4_2, hz_12v4_3, hz_12v4_4⟩
                    exact z_iret C hr hlocks hW (ld2_12v4, mn2_12v4, g2_12v4, f2_12v4, h2_12v4) rfl hP9 dX11_may_36
                  ·
                    exfalso; exact absurd c_6 (by decide)
        ·
          refine lv_iconst (v := iI 1) C.1 C.2.1 dX11_may_20 rfl ?_
          refine lv_iload_n C.1 C.2.1 dX11_may_21 rfl (lv_at hl 0 rfl) ?_
          refine z_ishl (z := 2) C (by decide) dX11_may_22 ?_
          refine lv_goto (tgt := 27) C.1 C.2.1 dX11_may_23 (by decide) ?_
          refine z_ior (z := 2) C (by decide) dX11_may_27 ?_
          refine lv_istore_n (lv' := [(1, .int (iI 2)), (2, .int (iI 1)), (0, .ref x)]) C.1 C.2.1 dX11_may_28 rfl hl (by decide) rfl (fun ls hl => ?_)
          refine lv_iinc (v := iI 2) (lv' := [(2, .int (iI 2)), (1, .int (iI 2)), (0, .ref x)]) C.1 C.2.1 dX11_may_29 hl (k := 1) rfl (iI_add _ _) (by decide) rfl (fun ls hl => ?_)
          refine lv_goto (tgt := 4) C.1 C.2.1 dX11_may_32 (by decide) ?_
          refine lv_iload_n C.1 C.2.1 dX11_may_4 rfl (lv_at hl 0 rfl) ?_
          refine lv_iconst (v := iI 4) C.1 C.2.1 dX11_may_5 rfl ?_
          refine z_icmp_ge (tgt := 35) C dX11_may_6 (by decide) (by omega) (fun c_6 => ?_) (fun c_6 => ?_)
          ·
            exfalso; exact absurd c_6 (by decide)
          ·
            refine lv_iload_n C.1 C.2.1 dX11_may_9 rfl (lv_at hl 1 rfl) ?_
            refine lv_aload_n C.1 C.2.1 dX11_may_10 rfl (lv_at hl 2 rfl) ?_
            refine lv_iload_n C.1 C.2.1 dX11_may_11 rfl (lv_at hl 0 rfl) ?_
            refine z_call (va_runV (As := [.int (iI 2)]) (rest := [.int (iI 2)]) C (c_X11_breaksAt l G x ln a1 pl a3 a4 ri ld2_12v2 mn2_12v2 a8 a9 nn a11 fn a13 lm a15 a16 a17 a18 a19 a20 lw g2_12v2 f2_12v2 h2_12v2 2 nf hLw hlw hz_12v2_2 hz_12v2_3 hz_12v2_4 hz_12v2_1 (by first | omega | assumption | (intros; first | rfl | omega | assumption | (and_intros <;> first | rfl | omega | assumption))) (by first | omega | assumption | (intros; first | rfl | omega | assumption | (and_intros <;> first | rfl | omega | assumption))) hnn hnfb H.size) (cwV 1 C.2.2.2.2 gX11_may_X11_breaksAt rfl rfl rfl (by decide +kernel) ⟨Nat.le_of_ble_eq_true rfl, Nat.le_of_ble_eq_true rfl⟩) (z_preV hK hW hA [0, 1, 2, 3, 4, 5] rfl (by decide) (ci := 9) (q0 := 0) rfl rfl) rfl rfl hl.1 rfl (lv_room (Nat.le_of_ble_eq_true rfl)) dX11_may_12 ⟨Nat.zero_le _, Nat.zero_le _⟩) hW hA [0, 1, 2, 3, 4, 5] rfl (by decide) (fun _ => rfl) (fun r u H locs hp hW => ?_)
            obtain ⟨ld2_12v3, mn2_12v3, g2_12v3, f2_12v3, h2_12v3⟩ := u
            have hp : ∃ z : Int, r = some (.int (iI z)) ∧ ((0 ≤ (2 : Int) ∧ (2 : Int) ≤ 3) → RowL lw (2 : Int) mn2_12v3 g2_12v3 ∧ BrkR g2_12v3 mn2_12v3 nf nn z) ∧ (LaidR lw ld2_12v3 mn2_12v3 g2_12v3) ∧ (BD g2_12v3) ∧ (BD f2_12v3) ∧ (BD h2_12v3) := hp
            obtain ⟨z_12v3, rfl, hz_12v3_0, hz_12v3_1, hz_12v3_2, hz_12v3_3, hz_12v3_4⟩ := hp
            have hW : Wd G A s9.heap [(x, .inr (9, [.int (iI ln), .ref a1, .int (iI pl), .ref a3, .ref a4, .int (iI ri), .int (iI ld2_12v3), .int (iI mn2_12v3), .ref a8, .ref a9, .int (iI nn), .ref a11, .int (iI fn), .ref a13, .int (iI lm), .ref a15, .ref a16, .ref a17, .ref a18, .ref a19, .ref a20])), (a3, .inl (G.2.1 0, 32, .inl (iA lw))), (a8, .inl (G.2.1 0, 2000, .inl (iA g2_12v3))), (a9, .inl (G.2.1 0, 60001, .inl (iA f2_12v3))), (a16, .inl (G.2.1 0, 5000, .inl (iA h2_12v3))), (a11, .inl (G.2.1 0, 40, .inl (iA nf)))] H locs := hW
            have hB_12v3 := hz_12v3_0 (by omega)
            have hb_12v3 := BrkR_b hB_12v3.2 hnn
            refine lv_bipush (v := iI (-4)) C.1 C.2.1 dX11_may_15 (by decide +kernel) ?_
            refine z_icmp_ne (tgt := 26) C dX11_may_17 (by decide) (by omega) (fun c_17 => ?_) (fun c_17 => ?_)
            ·
              refine lv_iconst (v := iI 0) C.1 C.2.1 dX11_may_26 rfl ?_
              refine z_ior (z := 2) C (by decide) dX11_may_27 ?_
              refine lv_istore_n (lv' := [(1, .int (iI 2)), (2, .int (iI 2)), (0, .ref x)]) C.1 C.2.1 dX11_may_28 rfl hl (by decide) rfl (fun ls hl => ?_)
              refine lv_iinc (v := iI 3) (lv' := [(2, .int (iI 3)), (1, .int (iI 2)), (0, .ref x)]) C.1 C.2.1 dX11_may_29 hl (k := 1) rfl (iI_add _ _) (by decide) rfl (fun ls hl => ?_)
              refine lv_goto (tgt := 4) C.1 C.2.1 dX11_may_32 (by decide) ?_
              refine lv_iload_n C.1 C.2.1 dX11_may_4 rfl (lv_at hl 0 rfl) ?_
              refine lv_iconst (v := iI 4) C.1 C.2.1 dX11_may_5 rfl ?_
              refine z_icmp_ge (tgt := 35) C dX11_may_6 (by decide) (by omega) (fun c_6 => ?_) (fun c_6 => ?_)
              ·
                exfalso; exact absurd c_6 (by decide)
              ·
                refine lv_iload_n C.1 C.2.1 dX11_may_9 rfl (lv_at hl 1 rfl) ?_
                refine lv_aload_n C.1 C.2.1 dX11_may_10 rfl (lv_at hl 2 rfl) ?_
                refine lv_iload_n C.1 C.2.1 dX11_may_11 rfl (lv_at hl 0 rfl) ?_
                refine z_call (va_runV (As := [.int (iI 3)]) (rest := [.int (iI 2)]) C (c_X11_breaksAt l G x ln a1 pl a3 a4 ri ld2_12v3 mn2_12v3 a8 a9 nn a11 fn a13 lm a15 a16 a17 a18 a19 a20 lw g2_12v3 f2_12v3 h2_12v3 3 nf hLw hlw hz_12v3_2 hz_12v3_3 hz_12v3_4 hz_12v3_1 (by first | omega | assumption | (intros; first | rfl | omega | assumption | (and_intros <;> first | rfl | omega | assumption))) (by first | omega | assumption | (intros; first | rfl | omega | assumption | (and_intros <;> first | rfl | omega | assumption))) hnn hnfb H.size) (cwV 1 C.2.2.2.2 gX11_may_X11_breaksAt rfl rfl rfl (by decide +kernel) ⟨Nat.le_of_ble_eq_true rfl, Nat.le_of_ble_eq_true rfl⟩) (z_preV hK hW hA [0, 1, 2, 3, 4, 5] rfl (by decide) (ci := 9) (q0 := 0) rfl rfl) rfl rfl hl.1 rfl (lv_room (Nat.le_of_ble_eq_true rfl)) dX11_may_12 ⟨Nat.zero_le _, Nat.zero_le _⟩) hW hA [0, 1, 2, 3, 4, 5] rfl (by decide) (fun _ => rfl) (fun r u H locs hp hW => ?_)
                obtain ⟨ld2_12v4, mn2_12v4, g2_12v4, f2_12v4, h2_12v4⟩ := u
                have hp : ∃ z : Int, r = some (.int (iI z)) ∧ ((0 ≤ (3 : Int) ∧ (3 : Int) ≤ 3) → RowL lw (3 : Int) mn2_12v4 g2_12v4 ∧ BrkR g2_12v4 mn2_12v4 nf nn z) ∧ (LaidR lw ld2_12v4 mn2_12v4 g2_12v4) ∧ (BD g2_12v4) ∧ (BD f2_12v4) ∧ (BD h2_12v4) := hp
                obtain ⟨z_12v4, rfl, hz_12v4_0, hz_12v4_1, hz_12v4_2, hz_12v4_3, hz_12v4_4⟩ := hp
                have hW : Wd G A s9.heap [(x, .inr (9, [.int (iI ln), .ref a1, .int (iI pl), .ref a3, .ref a4, .int (iI ri), .int (iI ld2_12v4), .int (iI mn2_12v4), .ref a8, .ref a9, .int (iI nn), .ref a11, .int (iI fn), .ref a13, .int (iI lm), .ref a15, .ref a16, .ref a17, .ref a18, .ref a19, .ref a20])), (a3, .inl (G.2.1 0, 32, .inl (iA lw))), (a8, .inl (G.2.1 0, 2000, .inl (iA g2_12v4))), (a9, .inl (G.2.1 0, 60001, .inl (iA f2_12v4))), (a16, .inl (G.2.1 0, 5000, .inl (iA h2_12v4))), (a11, .inl (G.2.1 0, 40, .inl (iA nf)))] H locs := hW
                have hB_12v4 := hz_12v4_0 (by omega)
                have hb_12v4 := BrkR_b hB_12v4.2 hnn
                refine lv_bipush (v := iI (-4)) C.1 C.2.1 dX11_may_15 (by decide +kernel) ?_
                refine z_icmp_ne (tgt := 26) C dX11_may_17 (by decide) (by omega) (fun c_17 => ?_) (fun c_17 => ?_)
                ·
                  refine lv_iconst (v := iI 0) C.1 C.2.1 dX11_may_26 rfl ?_
                  refine z_ior (z := 2) C (by decide) dX11_may_27 ?_
                  refine lv_istore_n (lv' := [(1, .int (iI 2)), (2, .int (iI 3)), (0, .ref x)]) C.1 C.2.1 dX11_may_28 rfl hl (by decide) rfl (fun ls hl => ?_)
                  refine lv_iinc (v := iI 4) (lv' := [(2, .int (iI 4)), (1, .int (iI 2)), (0, .ref x)]) C.1 C.2.1 dX11_may_29 hl (k := 1) rfl (iI_add _ _) (by decide) rfl (fun ls hl => ?_)
                  refine lv_goto (tgt := 4) C.1 C.2.1 dX11_may_32 (by decide) ?_
                  refine lv_iload_n C.1 C.2.1 dX11_may_4 rfl (lv_at hl 0 rfl) ?_
                  refine lv_iconst (v := iI 4) C.1 C.2.1 dX11_may_5 rfl ?_
                  refine z_icmp_ge (tgt := 35) C dX11_may_6 (by decide) (by omega) (fun c_6 => ?_) (fun c_6 => ?_)
                  ·
                    refine lv_iload_n C.1 C.2.1 dX11_may_35 rfl (lv_at hl 1 rfl) ?_
                    rw [hQ]
                    have hP9 : ∃ z : Int, (some (Value.int (iI 2))) = some (.int (iI z)) ∧ (∃ b0 b1 b2 b3 L0 L1 L2 L3 g0 g1 g3 g4, (RowL lw 0 L0 g0 ∧ BrkR g0 L0 nf nn b0) ∧ (RowL lw 1 L1 g1 ∧ BrkR g1 L1 nf nn b1) ∧ (RowL lw 2 L2 g3 ∧ BrkR g3 L2 nf nn b2) ∧ (RowL lw 3 L3 g4 ∧ BrkR g4 L3 nf nn b3) ∧ z = (if b0 = -4 then 1 else 0) + (if b1 = -4 then 2 else 0) + (if b2 = -4 then 4 else 0) + (if b3 = -4 then 8 else 0)) ∧ (LaidR lw ld2_12v4 mn2_12v4 g2_12v4) ∧ (BD g2_12v4) ∧ (BD f2_12v4) ∧ (BD h2_12v4) := ⟨_, rfl, ⟨_, _, _, _, _, _, _, _, _, _, _, _, hB_12, hB_12v2, hB_12v3, hB_12v4, by (repeat' split) <;> omega⟩, hz_12v4_1, hz_12v4_2, hz_12v4_3, hz_12v4_4⟩
                    exact z_iret C hr hlocks hW (ld2_12v4, mn2_12v4, g2_12v4, f2_12v4, h2_12v4) rfl hP9 dX11_may_36
                  ·
                    exfalso; exact absurd c_6 (by decide)
                ·
                  refine lv_iconst (v := iI 1) C.1 C.2.1 dX11_may_20 rfl ?_
                  refine lv_iload_n C.1 C.2.1 dX11_may_21 rfl (lv_at hl 0 rfl) ?_
                  refine z_ishl (z := 8) C (by decide) dX11_may_22 ?_
                  refine lv_goto (tgt := 27) C.1 C.2.1 dX11_may_23 (by decide) ?_
                  refine z_ior (z := 10) C (by decide) dX11_may_27 ?_
                  refine lv_istore_n (lv' := [(1, .int (iI 10)), (2, .int (iI 3)), (0, .ref x)]) C.1 C.2.1 dX11_may_28 rfl hl (by decide) rfl (fun ls hl => ?_)
                  refine lv_iinc (v := iI 4) (lv' := [(2, .int (iI 4)), (1, .int (iI 10)), (0, .ref x)]) C.1 C.2.1 dX11_may_29 hl (k := 1) rfl (iI_add _ _) (by decide) rfl (fun ls hl => ?_)
                  refine lv_goto (tgt := 4) C.1 C.2.1 dX11_may_32 (by decide) ?_
                  refine lv_iload_n C.1 C.2.1 dX11_may_4 rfl (lv_at hl 0 rfl) ?_
                  refine lv_iconst (v := iI 4) C.1 C.2.1 dX11_may_5 rfl ?_
                  refine z_icmp_ge (tgt := 35) C dX11_may_6 (by decide) (by omega) (fun c_6 => ?_) (fun c_6 => ?_)
                  ·
                    refine lv_iload_n C.1 C.2.1 dX11_may_35 rfl (lv_at hl 1 rfl) ?_
                    rw [hQ]
                    have hP9 : ∃ z : Int, (some (Value.int (iI 10))) = some (.int (iI z)) ∧ (∃ b0 b1 b2 b3 L0 L1 L2 L3 g0 g1 g3 g4, (RowL lw 0 L0 g0 ∧ BrkR g0 L0 nf nn b0) ∧ (RowL lw 1 L1 g1 ∧ BrkR g1 L1 nf nn b1) ∧ (RowL lw 2 L2 g3 ∧ BrkR g3 L2 nf nn b2) ∧ (RowL lw 3 L3 g4 ∧ BrkR g4 L3 nf nn b3) ∧ z = (if b0 = -4 then 1 else 0) + (if b1 = -4 then 2 else 0) + (if b2 = -4 then 4 else 0) + (if b3 = -4 then 8 else 0)) ∧ (LaidR lw ld2_12v4 mn2_12v4 g2_12v4) ∧ (BD g2_12v4) ∧ (BD f2_12v4) ∧ (BD h2_12v4) := ⟨_, rfl, ⟨_, _, _, _, _, _, _, _, _, _, _, _, hB_12, hB_12v2, hB_12v3, hB_12v4, by (repeat' split) <;> omega⟩, hz_12v4_1, hz_12v4_2, hz_12v4_3, hz_12v4_4⟩
                    exact z_iret C hr hlocks hW (ld2_12v4, mn2_12v4, g2_12v4, f2_12v4, h2_12v4) rfl hP9 dX11_may_36
                  ·
                    exfalso; exact absurd c_6 (by decide)
            ·
              refine lv_iconst (v := iI 1) C.1 C.2.1 dX11_may_20 rfl ?_
              refine lv_iload_n C.1 C.2.1 dX11_may_21 rfl (lv_at hl 0 rfl) ?_
              refine z_ishl (z := 4) C (by decide) dX11_may_22 ?_
              refine lv_goto (tgt := 27) C.1 C.2.1 dX11_may_23 (by decide) ?_
              refine z_ior (z := 6) C (by decide) dX11_may_27 ?_
              refine lv_istore_n (lv' := [(1, .int (iI 6)), (2, .int (iI 2)), (0, .ref x)]) C.1 C.2.1 dX11_may_28 rfl hl (by decide) rfl (fun ls hl => ?_)
              refine lv_iinc (v := iI 3) (lv' := [(2, .int (iI 3)), (1, .int (iI 6)), (0, .ref x)]) C.1 C.2.1 dX11_may_29 hl (k := 1) rfl (iI_add _ _) (by decide) rfl (fun ls hl => ?_)
              refine lv_goto (tgt := 4) C.1 C.2.1 dX11_may_32 (by decide) ?_
              refine lv_iload_n C.1 C.2.1 dX11_may_4 rfl (lv_at hl 0 rfl) ?_
              refine lv_iconst (v := iI 4) C.1 C.2.1 dX11_may_5 rfl ?_
              refine z_icmp_ge (tgt := 35) C dX11_may_6 (by decide) (by omega) (fun c_6 => ?_) (fun c_6 => ?_)
              ·
                exfalso; exact absurd c_6 (by decide)
              ·
                refine lv_iload_n C.1 C.2.1 dX11_may_9 rfl (lv_at hl 1 rfl) ?_
                refine lv_aload_n C.1 C.2.1 dX11_may_10 rfl (lv_at hl 2 rfl) ?_
                refine lv_iload_n C.1 C.2.1 dX11_may_11 rfl (lv_at hl 0 rfl) ?_
                refine z_call (va_runV (As := [.int (iI 3)]) (rest := [.int (iI 6)]) C (c_X11_breaksAt l G x ln a1 pl a3 a4 ri ld2_12v3 mn2_12v3 a8 a9 nn a11 fn a13 lm a15 a16 a17 a18 a19 a20 lw g2_12v3 f2_12v3 h2_12v3 3 nf hLw hlw hz_12v3_2 hz_12v3_3 hz_12v3_4 hz_12v3_1 (by first | omega | assumption | (intros; first | rfl | omega | assumption | (and_intros <;> first | rfl | omega | assumption))) (by first | omega | assumption | (intros; first | rfl | omega | assumption | (and_intros <;> first | rfl | omega | assumption))) hnn hnfb H.size) (cwV 1 C.2.2.2.2 gX11_may_X11_breaksAt rfl rfl rfl (by decide +kernel) ⟨Nat.le_of_ble_eq_true rfl, Nat.le_of_ble_eq_true rfl⟩) (z_preV hK hW hA [0, 1, 2, 3, 4, 5] rfl (by decide) (ci := 9) (q0 := 0) rfl rfl) rfl rfl hl.1 rfl (lv_room (Nat.le_of_ble_eq_true rfl)) dX11_may_12 ⟨Nat.zero_le _, Nat.zero_le _⟩) hW hA [0, 1, 2, 3, 4, 5] rfl (by decide) (fun _ => rfl) (fun r u H locs hp hW => ?_)
                obtain ⟨ld2_12v4, mn2_12v4, g2_12v4, f2_12v4, h2_12v4⟩ := u
                have hp : ∃ z : Int, r = some (.int (iI z)) ∧ ((0 ≤ (3 : Int) ∧ (3 : Int) ≤ 3) → RowL lw (3 : Int) mn2_12v4 g2_12v4 ∧ BrkR g2_12v4 mn2_12v4 nf nn z) ∧ (LaidR lw ld2_12v4 mn2_12v4 g2_12v4) ∧ (BD g2_12v4) ∧ (BD f2_12v4) ∧ (BD h2_12v4) := hp
                obtain ⟨z_12v4, rfl, hz_12v4_0, hz_12v4_1, hz_12v4_2, hz_12v4_3, hz_12v4_4⟩ := hp
                have hW : Wd G A s9.heap [(x, .inr (9, [.int (iI ln), .ref a1, .int (iI pl), .ref a3, .ref a4, .int (iI ri), .int (iI ld2_12v4), .int (iI mn2_12v4), .ref a8, .ref a9, .int (iI nn), .ref a11, .int (iI fn), .ref a13, .int (iI lm), .ref a15, .ref a16, .ref a17, .ref a18, .ref a19, .ref a20])), (a3, .inl (G.2.1 0, 32, .inl (iA lw))), (a8, .inl (G.2.1 0, 2000, .inl (iA g2_12v4))), (a9, .inl (G.2.1 0, 60001, .inl (iA f2_12v4))), (a16, .inl (G.2.1 0, 5000, .inl (iA h2_12v4))), (a11, .inl (G.2.1 0, 40, .inl (iA nf)))] H locs := hW
                have hB_12v4 := hz_12v4_0 (by omega)
                have hb_12v4 := BrkR_b hB_12v4.2 hnn
                refine lv_bipush (v := iI (-4)) C.1 C.2.1 dX11_may_15 (by decide +kernel) ?_
                refine z_icmp_ne (tgt := 26) C dX11_may_17 (by decide) (by omega) (fun c_17 => ?_) (fun c_17 => ?_)
                ·
                  refine lv_iconst (v := iI 0) C.1 C.2.1 dX11_may_26 rfl ?_
                  refine z_ior (z := 6) C (by decide) dX11_may_27 ?_
                  refine lv_istore_n (lv' := [(1, .int (iI 6)), (2, .int (iI 3)), (0, .ref x)]) C.1 C.2.1 dX11_may_28 rfl hl (by decide) rfl (fun ls hl => ?_)
                  refine lv_iinc (v := iI 4) (lv' := [(2, .int (iI 4)), (1, .int (iI 6)), (0, .ref x)]) C.1 C.2.1 dX11_may_29 hl (k := 1) rfl (iI_add _ _) (by decide) rfl (fun ls hl => ?_)
                  refine lv_goto (tgt := 4) C.1 C.2.1 dX11_may_32 (by decide) ?_
                  refine lv_iload_n C.1 C.2.1 dX11_may_4 rfl (lv_at hl 0 rfl) ?_
                  refine lv_iconst (v := iI 4) C.1 C.2.1 dX11_may_5 rfl ?_
                  refine z_icmp_ge (tgt := 35) C dX11_may_6 (by decide) (by omega) (fun c_6 => ?_) (fun c_6 => ?_)
                  ·
                    refine lv_iload_n C.1 C.2.1 dX11_may_35 rfl (lv_at hl 1 rfl) ?_
                    rw [hQ]
                    have hP9 : ∃ z : Int, (some (Value.int (iI 6))) = some (.int (iI z)) ∧ (∃ b0 b1 b2 b3 L0 L1 L2 L3 g0 g1 g3 g4, (RowL lw 0 L0 g0 ∧ BrkR g0 L0 nf nn b0) ∧ (RowL lw 1 L1 g1 ∧ BrkR g1 L1 nf nn b1) ∧ (RowL lw 2 L2 g3 ∧ BrkR g3 L2 nf nn b2) ∧ (RowL lw 3 L3 g4 ∧ BrkR g4 L3 nf nn b3) ∧ z = (if b0 = -4 then 1 else 0) + (if b1 = -4 then 2 else 0) + (if b2 = -4 then 4 else 0) + (if b3 = -4 then 8 else 0)) ∧ (LaidR lw ld2_12v4 mn2_12v4 g2_12v4) ∧ (BD g2_12v4) ∧ (BD f2_12v4) ∧ (BD h2_12v4) := ⟨_, rfl, ⟨_, _, _, _, _, _, _, _, _, _, _, _, hB_12, hB_12v2, hB_12v3, hB_12v4, by (repeat' split) <;> omega⟩, hz_12v4_1, hz_12v4_2, hz_12v4_3, hz_12v4_4⟩
                    exact z_iret C hr hlocks hW (ld2_12v4, mn2_12v4, g2_12v4, f2_12v4, h2_12v4) rfl hP9 dX11_may_36
                  ·
                    exfalso; exact absurd c_6 (by decide)
                ·
                  refine lv_iconst (v := iI 1) C.1 C.2.1 dX11_may_20 rfl ?_
                  refine lv_iload_n C.1 C.2.1 dX11_may_21 rfl (lv_at hl 0 rfl) ?_
                  refine z_ishl (z := 8) C (by decide) dX11_may_22 ?_
                  refine lv_goto (tgt := 27) C.1 C.2.1 dX11_may_23 (by decide) ?_
                  refine z_ior (z := 14) C (by decide) dX11_may_27 ?_
                  refine lv_istore_n (lv' := [(1, .int (iI 14)), (2, .int (iI 3)), (0, .ref x)]) C.1 C.2.1 dX11_may_28 rfl hl (by decide) rfl (fun ls hl => ?_)
                  refine lv_iinc (v := iI 4) (lv' := [(2, .int (iI 4)), (1, .int (iI 14)), (0, .ref x)]) C.1 C.2.1 dX11_may_29 hl (k := 1) rfl (iI_add _ _) (by decide) rfl (fun ls hl => ?_)
                  refine lv_goto (tgt := 4) C.1 C.2.1 dX11_may_32 (by decide) ?_
                  refine lv_iload_n C.1 C.2.1 dX11_may_4 rfl (lv_at hl 0 rfl) ?_
                  refine lv_iconst (v := iI 4) C.1 C.2.1 dX11_may_5 rfl ?_
                  refine z_icmp_ge (tgt := 35) C dX11_may_6 (by decide) (by omega) (fun c_6 => ?_) (fun c_6 => ?_)
                  ·
                    refine lv_iload_n C.1 C.2.1 dX11_may_35 rfl (lv_at hl 1 rfl) ?_
                    rw [hQ]
                    have hP9 : ∃ z : Int, (some (Value.int (iI 14))) = some (.int (iI z)) ∧ (∃ b0 b1 b2 b3 L0 L1 L2 L3 g0 g1 g3 g4, (RowL lw 0 L0 g0 ∧ BrkR g0 L0 nf nn b0) ∧ (RowL lw 1 L1 g1 ∧ BrkR g1 L1 nf nn b1) ∧ (RowL lw 2 L2 g3 ∧ BrkR g3 L2 nf nn b2) ∧ (RowL lw 3 L3 g4 ∧ BrkR g4 L3 nf nn b3) ∧ z = (if b0 = -4 then 1 else 0) + (if b1 = -4 then 2 else 0) + (if b2 = -4 then 4 else 0) + (if b3 = -4 then 8 else 0)) ∧ (LaidR lw ld2_12v4 mn2_12v4 g2_12v4) ∧ (BD g2_12v4) ∧ (BD f2_12v4) ∧ (BD h2_12v4) := ⟨_, rfl, ⟨_, _, _, _, _, _, _, _, _, _, _, _, hB_12, hB_12v2, hB_12v3, hB_12v4, by (repeat' split) <;> omega⟩, hz_12v4_1, hz_12v4_2, hz_12v4_3, hz_12v4_4⟩
                    exact z_iret C hr hlocks hW (ld2_12v4, mn2_12v4, g2_12v4, f2_12v4, h2_12v4) rfl hP9 dX11_may_36
                  ·
                    exfalso; exact absurd c_6 (by decide)
    ·
      refine lv_iconst (v := iI 1) C.1 C.2.1 dX11_may_20 rfl ?_
      refine lv_iload_n C.1 C.2.1 dX11_may_21 rfl (lv_at hl 0 rfl) ?_
      refine z_ishl (z := 1) C (by decide) dX11_may_22 ?_
      refine lv_goto (tgt := 27) C.1 C.2.1 dX11_may_23 (by decide) ?_
      refine z_ior (z := 1) C (by decide) dX11_may_27 ?_
      refine lv_istore_n (lv' := [(1, .int (iI 1)), (2, .int (iI 0)), (0, .ref x)]) C.1 C.2.1 dX11_may_28 rfl hl (by decide) rfl (fun ls hl => ?_)
      refine lv_iinc (v := iI 1) (lv' := [(2, .int (iI 1)), (1, .int (iI 1)), (0, .ref x)]) C.1 C.2.1 dX11_may_29 hl (k := 1) rfl (iI_add _ _) (by decide) rfl (fun ls hl => ?_)
      refine lv_goto (tgt := 4) C.1 C.2.1 dX11_may_32 (by decide) ?_
      refine lv_iload_n C.1 C.2.1 dX11_may_4 rfl (lv_at hl 0 rfl) ?_
      refine lv_iconst (v := iI 4) C.1 C.2.1 dX11_may_5 rfl ?_
      refine z_icmp_ge (tgt := 35) C dX11_may_6 (by decide) (by omega) (fun c_6 => ?_) (fun c_6 => ?_)
      ·
        exfalso; exact absurd c_6 (by decide)
      ·
        refine lv_iload_n C.1 C.2.1 dX11_may_9 rfl (lv_at hl 1 rfl) ?_
        refine lv_aload_n C.1 C.2.1 dX11_may_10 rfl (lv_at hl 2 rfl) ?_
        refine lv_iload_n C.1 C.2.1 dX11_may_11 rfl (lv_at hl 0 rfl) ?_
        refine z_call (va_runV (As := [.int (iI 1)]) (rest := [.int (iI 1)]) C (c_X11_breaksAt l G x ln a1 pl a3 a4 ri ld2_12 mn2_12 a8 a9 nn a11 fn a13 lm a15 a16 a17 a18 a19 a20 lw g2_12 f2_12 h2_12 1 nf hLw hlw hz_12_2 hz_12_3 hz_12_4 hz_12_1 (by first | omega | assumption | (intros; first | rfl | omega | assumption | (and_intros <;> first | rfl | omega | assumption))) (by first | omega | assumption | (intros; first | rfl | omega | assumption | (and_intros <;> first | rfl | omega | assumption))) hnn hnfb H.size) (cwV 1 C.2.2.2.2 gX11_may_X11_breaksAt rfl rfl rfl (by decide +kernel) ⟨Nat.le_of_ble_eq_true rfl, Nat.le_of_ble_eq_true rfl⟩) (z_preV hK hW hA [0, 1, 2, 3, 4, 5] rfl (by decide) (ci := 9) (q0 := 0) rfl rfl) rfl rfl hl.1 rfl (lv_room (Nat.le_of_ble_eq_true rfl)) dX11_may_12 ⟨Nat.zero_le _, Nat.zero_le _⟩) hW hA [0, 1, 2, 3, 4, 5] rfl (by decide) (fun _ => rfl) (fun r u H locs hp hW => ?_)
        obtain ⟨ld2_12v2, mn2_12v2, g2_12v2, f2_12v2, h2_12v2⟩ := u
        have hp : ∃ z : Int, r = some (.int (iI z)) ∧ ((0 ≤ (1 : Int) ∧ (1 : Int) ≤ 3) → RowL lw (1 : Int) mn2_12v2 g2_12v2 ∧ BrkR g2_12v2 mn2_12v2 nf nn z) ∧ (LaidR lw ld2_12v2 mn2_12v2 g2_12v2) ∧ (BD g2_12v2) ∧ (BD f2_12v2) ∧ (BD h2_12v2) := hp
        obtain ⟨z_12v2, rfl, hz_12v2_0, hz_12v2_1, hz_12v2_2, hz_12v2_3, hz_12v2_4⟩ := hp
        have hW : Wd G A s9.heap [(x, .inr (9, [.int (iI ln), .ref a1, .int (iI pl), .ref a3, .ref a4, .int (iI ri), .int (iI ld2_12v2), .int (iI mn2_12v2), .ref a8, .ref a9, .int (iI nn), .ref a11, .int (iI fn), .ref a13, .int (iI lm), .ref a15, .ref a16, .ref a17, .ref a18, .ref a19, .ref a20])), (a3, .inl (G.2.1 0, 32, .inl (iA lw))), (a8, .inl (G.2.1 0, 2000, .inl (iA g2_12v2))), (a9, .inl (G.2.1 0, 60001, .inl (iA f2_12v2))), (a16, .inl (G.2.1 0, 5000, .inl (iA h2_12v2))), (a11, .inl (G.2.1 0, 40, .inl (iA nf)))] H locs := hW
        have hB_12v2 := hz_12v2_0 (by omega)
        have hb_12v2 := BrkR_b hB_12v2.2 hnn
        refine lv_bipush (v := iI (-4)) C.1 C.2.1 dX11_may_15 (by decide +kernel) ?_
        refine z_icmp_ne (tgt := 26) C dX11_may_17 (by decide) (by omega) (fun c_17 => ?_) (fun c_17 => ?_)
        ·
          refine lv_iconst (v := iI 0) C.1 C.2.1 dX11_may_26 rfl ?_
          refine z_ior (z := 1) C (by decide) dX11_may_27 ?_
          refine lv_istore_n (lv' := [(1, .int (iI 1)), (2, .int (iI 1)), (0, .ref x)]) C.1 C.2.1 dX11_may_28 rfl hl (by decide) rfl (fun ls hl => ?_)
          refine lv_iinc (v := iI 2) (lv' := [(2, .int (iI 2)), (1, .int (iI 1)), (0, .ref x)]) C.1 C.2.1 dX11_may_29 hl (k := 1) rfl (iI_add _ _) (by decide) rfl (fun ls hl => ?_)
          refine lv_goto (tgt := 4) C.1 C.2.1 dX11_may_32 (by decide) ?_
          refine lv_iload_n C.1 C.2.1 dX11_may_4 rfl (lv_at hl 0 rfl) ?_
          refine lv_iconst (v := iI 4) C.1 C.2.1 dX11_may_5 rfl ?_
          refine z_icmp_ge (tgt := 35) C dX11_may_6 (by decide) (by omega) (fun c_6 => ?_) (fun c_6 => ?_)
          ·
            exfalso; exact absurd c_6 (by decide)
          ·
            refine lv_iload_n C.1 C.2.1 dX11_may_9 rfl (lv_at hl 1 rfl) ?_
            refine lv_aload_n C.1 C.2.1 dX11_may_10 rfl (lv_at hl 2 rfl) ?_
            refine lv_iload_n C.1 C.2.1 dX11_may_11 rfl (lv_at hl 0 rfl) ?_
            refine z_call (va_runV (As := [.int (iI 2)]) (rest := [.int (iI 1)]) C (c_X11_breaksAt l G x ln a1 pl a3 a4 ri ld2_12v2 mn2_12v2 a8 a9 nn a11 fn a13 lm a15 a16 a17 a18 a19 a20 lw g2_12v2 f2_12v2 h2_12v2 2 nf hLw hlw hz_12v2_2 hz_12v2_3 hz_12v2_4 hz_12v2_1 (by first | omega | assumption | (intros; first | rfl | omega | assumption | (and_intros <;> first | rfl | omega | assumption))) (by first | omega | assumption | (intros; first | rfl | omega | assumption | (and_intros <;> first | rfl | omega | assumption))) hnn hnfb H.size) (cwV 1 C.2.2.2.2 gX11_may_X11_breaksAt rfl rfl rfl (by decide +kernel) ⟨Nat.le_of_ble_eq_true rfl, Nat.le_of_ble_eq_true rfl⟩) (z_preV hK hW hA [0, 1, 2, 3, 4, 5] rfl (by decide) (ci := 9) (q0 := 0) rfl rfl) rfl rfl hl.1 rfl (lv_room (Nat.le_of_ble_eq_true rfl)) dX11_may_12 ⟨Nat.zero_le _, Nat.zero_le _⟩) hW hA [0, 1, 2, 3, 4, 5] rfl (by decide) (fun _ => rfl) (fun r u H locs hp hW => ?_)
            obtain ⟨ld2_12v3, mn2_12v3, g2_12v3, f2_12v3, h2_12v3⟩ := u
            have hp : ∃ z : Int, r = some (.int (iI z)) ∧ ((0 ≤ (2 : Int) ∧ (2 : Int) ≤ 3) → RowL lw (2 : Int) mn2_12v3 g2_12v3 ∧ BrkR g2_12v3 mn2_12v3 nf nn z) ∧ (LaidR lw ld2_12v3 mn2_12v3 g2_12v3) ∧ (BD g2_12v3) ∧ (BD f2_12v3) ∧ (BD h2_12v3) := hp
            obtain ⟨z_12v3, rfl, hz_12v3_0, hz_12v3_1, hz_12v3_2, hz_12v3_3, hz_12v3_4⟩ := hp
            have hW : Wd G A s9.heap [(x, .inr (9, [.int (iI ln), .ref a1, .int (iI pl), .ref a3, .ref a4, .int (iI ri), .int (iI ld2_12v3), .int (iI mn2_12v3), .ref a8, .ref a9, .int (iI nn), .ref a11, .int (iI fn), .ref a13, .int (iI lm), .ref a15, .ref a16, .ref a17, .ref a18, .ref a19, .ref a20])), (a3, .inl (G.2.1 0, 32, .inl (iA lw))), (a8, .inl (G.2.1 0, 2000, .inl (iA g2_12v3))), (a9, .inl (G.2.1 0, 60001, .inl (iA f2_12v3))), (a16, .inl (G.2.1 0, 5000, .inl (iA h2_12v3))), (a11, .inl (G.2.1 0, 40, .inl (iA nf)))] H locs := hW
            have hB_12v3 := hz_12v3_0 (by omega)
            have hb_12v3 := BrkR_b hB_12v3.2 hnn
            refine lv_bipush (v := iI (-4)) C.1 C.2.1 dX11_may_15 (by decide +kernel) ?_
            refine z_icmp_ne (tgt := 26) C dX11_may_17 (by decide) (by omega) (fun c_17 => ?_) (fun c_17 => ?_)
            ·
              refine lv_iconst (v := iI 0) C.1 C.2.1 dX11_may_26 rfl ?_
              refine z_ior (z := 1) C (by decide) dX11_may_27 ?_
              refine lv_istore_n (lv' := [(1, .int (iI 1)), (2, .int (iI 2)), (0, .ref x)]) C.1 C.2.1 dX11_may_28 rfl hl (by decide) rfl (fun ls hl => ?_)
              refine lv_iinc (v := iI 3) (lv' := [(2, .int (iI 3)), (1, .int (iI 1)), (0, .ref x)]) C.1 C.2.1 dX11_may_29 hl (k := 1) rfl (iI_add _ _) (by decide) rfl (fun ls hl => ?_)
              refine lv_goto (tgt := 4) C.1 C.2.1 dX11_may_32 (by decide) ?_
              refine lv_iload_n C.1 C.2.1 dX11_may_4 rfl (lv_at hl 0 rfl) ?_
              refine lv_iconst (v := iI 4) C.1 C.2.1 dX11_may_5 rfl ?_
              refine z_icmp_ge (tgt := 35) C dX11_may_6 (by decide) (by omega) (fun c_6 => ?_) (fun c_6 => ?_)
              ·
                exfalso; exact absurd c_6 (by decide)
              ·
                refine lv_iload_n C.1 C.2.1 dX11_may_9 rfl (lv_at hl 1 rfl) ?_
                refine lv_aload_n C.1 C.2.1 dX11_may_10 rfl (lv_at hl 2 rfl) ?_
                refine lv_iload_n C.1 C.2.1 dX11_may_11 rfl (lv_at hl 0 rfl) ?_
                refine z_call (va_runV (As := [.int (iI 3)]) (rest := [.int (iI 1)]) C (c_X11_breaksAt l G x ln a1 pl a3 a4 ri ld2_12v3 mn2_12v3 a8 a9 nn a11 fn a13 lm a15 a16 a17 a18 a19 a20 lw g2_12v3 f2_12v3 h2_12v3 3 nf hLw hlw hz_12v3_2 hz_12v3_3 hz_12v3_4 hz_12v3_1 (by first | omega | assumption | (intros; first | rfl | omega | assumption | (and_intros <;> first | rfl | omega | assumption))) (by first | omega | assumption | (intros; first | rfl | omega | assumption | (and_intros <;> first | rfl | omega | assumption))) hnn hnfb H.size) (cwV 1 C.2.2.2.2 gX11_may_X11_breaksAt rfl rfl rfl (by decide +kernel) ⟨Nat.le_of_ble_eq_true rfl, Nat.le_of_ble_eq_true rfl⟩) (z_preV hK hW hA [0, 1, 2, 3, 4, 5] rfl (by decide) (ci := 9) (q0 := 0) rfl rfl) rfl rfl hl.1 rfl (lv_room (Nat.le_of_ble_eq_true rfl)) dX11_may_12 ⟨Nat.zero_le _, Nat.zero_le _⟩) hW hA [0, 1, 2, 3, 4, 5] rfl (by decide) (fun _ => rfl) (fun r u H locs hp hW => ?_)
                obtain ⟨ld2_12v4, mn2_12v4, g2_12v4, f2_12v4, h2_12v4⟩ := u
                have hp : ∃ z : Int, r = some (.int (iI z)) ∧ ((0 ≤ (3 : Int) ∧ (3 : Int) ≤ 3) → RowL lw (3 : Int) mn2_12v4 g2_12v4 ∧ BrkR g2_12v4 mn2_12v4 nf nn z) ∧ (LaidR lw ld2_12v4 mn2_12v4 g2_12v4) ∧ (BD g2_12v4) ∧ (BD f2_12v4) ∧ (BD h2_12v4) := hp
                obtain ⟨z_12v4, rfl, hz_12v4_0, hz_12v4_1, hz_12v4_2, hz_12v4_3, hz_12v4_4⟩ := hp
                have hW : Wd G A s9.heap [(x, .inr (9, [.int (iI ln), .ref a1, .int (iI pl), .ref a3, .ref a4, .int (iI ri), .int (iI ld2_12v4), .int (iI mn2_12v4), .ref a8, .ref a9, .int (iI nn), .ref a11, .int (iI fn), .ref a13, .int (iI lm), .ref a15, .ref a16, .ref a17, .ref a18, .ref a19, .ref a20])), (a3, .inl (G.2.1 0, 32, .inl (iA lw))), (a8, .inl (G.2.1 0, 2000, .inl (iA g2_12v4))), (a9, .inl (G.2.1 0, 60001, .inl (iA f2_12v4))), (a16, .inl (G.2.1 0, 5000, .inl (iA h2_12v4))), (a11, .inl (G.2.1 0, 40, .inl (iA nf)))] H locs := hW
                have hB_12v4 := hz_12v4_0 (by omega)
                have hb_12v4 := BrkR_b hB_12v4.2 hnn
                refine lv_bipush (v := iI (-4)) C.1 C.2.1 dX11_may_15 (by decide +kernel) ?_
                refine z_icmp_ne (tgt := 26) C dX11_may_17 (by decide) (by omega) (fun c_17 => ?_) (fun c_17 => ?_)
                ·
                  refine lv_iconst (v := iI 0) C.1 C.2.1 dX11_may_26 rfl ?_
                  refine z_ior (z := 1) C (by decide) dX11_may_27 ?_
                  refine lv_istore_n (lv' := [(1, .int (iI 1)), (2, .int (iI 3)), (0, .ref x)]) C.1 C.2.1 dX11_may_28 rfl hl (by decide) rfl (fun ls hl => ?_)
                  refine lv_iinc (v := iI 4) (lv' := [(2, .int (iI 4)), (1, .int (iI 1)), (0, .ref x)]) C.1 C.2.1 dX11_may_29 hl (k := 1) rfl (iI_add _ _) (by decide) rfl (fun ls hl => ?_)
                  refine lv_goto (tgt := 4) C.1 C.2.1 dX11_may_32 (by decide) ?_
                  refine lv_iload_n C.1 C.2.1 dX11_may_4 rfl (lv_at hl 0 rfl) ?_
                  refine lv_iconst (v := iI 4) C.1 C.2.1 dX11_may_5 rfl ?_
                  refine z_icmp_ge (tgt := 35) C dX11_may_6 (by decide) (by omega) (fun c_6 => ?_) (fun c_6 => ?_)
                  ·
                    refine lv_iload_n C.1 C.2.1 dX11_may_35 rfl (lv_at hl 1 rfl) ?_
                    rw [hQ]
                    have hP9 : ∃ z : Int, (some (Value.int (iI 1))) = some (.int (iI z)) ∧ (∃ b0 b1 b2 b3 L0 L1 L2 L3 g0 g1 g3 g4, (RowL lw 0 L0 g0 ∧ BrkR g0 L0 nf nn b0) ∧ (RowL lw 1 L1 g1 ∧ BrkR g1 L1 nf nn b1) ∧ (RowL lw 2 L2 g3 ∧ BrkR g3 L2 nf nn b2) ∧ (RowL lw 3 L3 g4 ∧ BrkR g4 L3 nf nn b3) ∧ z = (if b0 = -4 then 1 else 0) + (if b1 = -4 then 2 else 0) + (if b2 = -4 then 4 else 0) + (if b3 = -4 then 8 else 0)) ∧ (LaidR lw ld2_12v4 mn2_12v4 g2_12v4) ∧ (BD g2_12v4) ∧ (BD f2_12v4) ∧ (BD h2_12v4) := ⟨_, rfl, ⟨_, _, _, _, _, _, _, _, _, _, _, _, hB_12, hB_12v2, hB_12v3, hB_12v4, by (repeat' split) <;> omega⟩, hz_12v4_1, hz_12v4_2, hz_12v4_3, hz_12v4_4⟩
                    exact z_iret C hr hlocks hW (ld2_12v4, mn2_12v4, g2_12v4, f2_12v4, h2_12v4) rfl hP9 dX11_may_36
                  ·
                    exfalso; exact absurd c_6 (by decide)
                ·
                  refine lv_iconst (v := iI 1) C.1 C.2.1 dX11_may_20 rfl ?_
                  refine lv_iload_n C.1 C.2.1 dX11_may_21 rfl (lv_at hl 0 rfl) ?_
                  refine z_ishl (z := 8) C (by decide) dX11_may_22 ?_
                  refine lv_goto (tgt := 27) C.1 C.2.1 dX11_may_23 (by decide) ?_
                  refine z_ior (z := 9) C (by decide) dX11_may_27 ?_
                  refine lv_istore_n (lv' := [(1, .int (iI 9)), (2, .int (iI 3)), (0, .ref x)]) C.1 C.2.1 dX11_may_28 rfl hl (by decide) rfl (fun ls hl => ?_)
                  refine lv_iinc (v := iI 4) (lv' := [(2, .int (iI 4)), (1, .int (iI 9)), (0, .ref x)]) C.1 C.2.1 dX11_may_29 hl (k := 1) rfl (iI_add _ _) (by decide) rfl (fun ls hl => ?_)
                  refine lv_goto (tgt := 4) C.1 C.2.1 dX11_may_32 (by decide) ?_
                  refine lv_iload_n C.1 C.2.1 dX11_may_4 rfl (lv_at hl 0 rfl) ?_
                  refine lv_iconst (v := iI 4) C.1 C.2.1 dX11_may_5 rfl ?_
                  refine z_icmp_ge (tgt := 35) C dX11_may_6 (by decide) (by omega) (fun c_6 => ?_) (fun c_6 => ?_)
                  ·
                    refine lv_iload_n C.1 C.2.1 dX11_may_35 rfl (lv_at hl 1 rfl) ?_
                    rw [hQ]
                    have hP9 : ∃ z : Int, (some (Value.int (iI 9))) = some (.int (iI z)) ∧ (∃ b0 b1 b2 b3 L0 L1 L2 L3 g0 g1 g3 g4, (RowL lw 0 L0 g0 ∧ BrkR g0 L0 nf nn b0) ∧ (RowL lw 1 L1 g1 ∧ BrkR g1 L1 nf nn b1) ∧ (RowL lw 2 L2 g3 ∧ BrkR g3 L2 nf nn b2) ∧ (RowL lw 3 L3 g4 ∧ BrkR g4 L3 nf nn b3) ∧ z = (if b0 = -4 then 1 else 0) + (if b1 = -4 then 2 else 0) + (if b2 = -4 then 4 else 0) + (if b3 = -4 then 8 else 0)) ∧ (LaidR lw ld2_12v4 mn2_12v4 g2_12v4) ∧ (BD g2_12v4) ∧ (BD f2_12v4) ∧ (BD h2_12v4) := ⟨_, rfl, ⟨_, _, _, _, _, _, _, _, _, _, _, _, hB_12, hB_12v2, hB_12v3, hB_12v4, by (repeat' split) <;> omega⟩, hz_12v4_1, hz_12v4_2, hz_12v4_3, hz_12v4_4⟩
                    exact z_iret C hr hlocks hW (ld2_12v4, mn2_12v4, g2_12v4, f2_12v4, h2_12v4) rfl hP9 dX11_may_36
                  ·
                    exfalso; exact absurd c_6 (by decide)
            ·
              refine lv_iconst (v := iI 1) C.1 C.2.1 dX11_may_20 rfl ?_
              refine lv_iload_n C.1 C.2.1 dX11_may_21 rfl (lv_at hl 0 rfl) ?_
              refine z_ishl (z := 4) C (by decide) dX11_may_22 ?_
              refine lv_goto (tgt := 27) C.1 C.2.1 dX11_may_23 (by decide) ?_
              refine z_ior (z := 5) C (by decide) dX11_may_27 ?_
              refine lv_istore_n (lv' := [(1, .int (iI 5)), (2, .int (iI 2)), (0, .ref x)]) C.1 C.2.1 dX11_may_28 rfl hl (by decide) rfl (fun ls hl => ?_)
              refine lv_iinc (v := iI 3) (lv' := [(2, .int (iI 3)), (1, .int (iI 5)), (0, .ref x)]) C.1 C.2.1 dX11_may_29 hl (k := 1) rfl (iI_add _ _) (by decide) rfl (fun ls hl => ?_)
              refine lv_goto (tgt := 4) C.1 C.2.1 dX11_may_32 (by decide) ?_
              refine lv_iload_n C.1 C.2.1 dX11_may_4 rfl (lv_at hl 0 rfl) ?_
              refine lv_iconst (v := iI 4) C.1 C.2.1 dX11_may_5 rfl ?_
              refine z_icmp_ge (tgt := 35) C dX11_may_6 (by decide) (by omega) (fun c_6 => ?_) (fun c_6 => ?_)
              ·
                exfalso; exact absurd c_6 (by decide)
              ·
                refine lv_iload_n C.1 C.2.1 dX11_may_9 rfl (lv_at hl 1 rfl) ?_
                refine lv_aload_n C.1 C.2.1 dX11_may_10 rfl (lv_at hl 2 rfl) ?_
                refine lv_iload_n C.1 C.2.1 dX11_may_11 rfl (lv_at hl 0 rfl) ?_
                refine z_call (va_runV (As := [.int (iI 3)]) (rest := [.int (iI 5)]) C (c_X11_breaksAt l G x ln a1 pl a3 a4 ri ld2_12v3 mn2_12v3 a8 a9 nn a11 fn a13 lm a15 a16 a17 a18 a19 a20 lw g2_12v3 f2_12v3 h2_12v3 3 nf hLw hlw hz_12v3_2 hz_12v3_3 hz_12v3_4 hz_12v3_1 (by first | omega | assumption | (intros; first | rfl | omega | assumption | (and_intros <;> first | rfl | omega | assumption))) (by first | omega | assumption | (intros; first | rfl | omega | assumption | (and_intros <;> first | rfl | omega | assumption))) hnn hnfb H.size) (cwV 1 C.2.2.2.2 gX11_may_X11_breaksAt rfl rfl rfl (by decide +kernel) ⟨Nat.le_of_ble_eq_true rfl, Nat.le_of_ble_eq_true rfl⟩) (z_preV hK hW hA [0, 1, 2, 3, 4, 5] rfl (by decide) (ci := 9) (q0 := 0) rfl rfl) rfl rfl hl.1 rfl (lv_room (Nat.le_of_ble_eq_true rfl)) dX11_may_12 ⟨Nat.zero_le _, Nat.zero_le _⟩) hW hA [0, 1, 2, 3, 4, 5] rfl (by decide) (fun _ => rfl) (fun r u H locs hp hW => ?_)
                obtain ⟨ld2_12v4, mn2_12v4, g2_12v4, f2_12v4, h2_12v4⟩ := u
                have hp : ∃ z : Int, r = some (.int (iI z)) ∧ ((0 ≤ (3 : Int) ∧ (3 : Int) ≤ 3) → RowL lw (3 : Int) mn2_12v4 g2_12v4 ∧ BrkR g2_12v4 mn2_12v4 nf nn z) ∧ (LaidR lw ld2_12v4 mn2_12v4 g2_12v4) ∧ (BD g2_12v4) ∧ (BD f2_12v4) ∧ (BD h2_12v4) := hp
                obtain ⟨z_12v4, rfl, hz_12v4_0, hz_12v4_1, hz_12v4_2, hz_12v4_3, hz_12v4_4⟩ := hp
                have hW : Wd G A s9.heap [(x, .inr (9, [.int (iI ln), .ref a1, .int (iI pl), .ref a3, .ref a4, .int (iI ri), .int (iI ld2_12v4), .int (iI mn2_12v4), .ref a8, .ref a9, .int (iI nn), .ref a11, .int (iI fn), .ref a13, .int (iI lm), .ref a15, .ref a16, .ref a17, .ref a18, .ref a19, .ref a20])), (a3, .inl (G.2.1 0, 32, .inl (iA lw))), (a8, .inl (G.2.1 0, 2000, .inl (iA g2_12v4))), (a9, .inl (G.2.1 0, 60001, .inl (iA f2_12v4))), (a16, .inl (G.2.1 0, 5000, .inl (iA h2_12v4))), (a11, .inl (G.2.1 0, 40, .inl (iA nf)))] H locs := hW
                have hB_12v4 := hz_12v4_0 (by omega)
                have hb_12v4 := BrkR_b hB_12v4.2 hnn
                refine lv_bipush (v := iI (-4)) C.1 C.2.1 dX11_may_15 (by decide +kernel) ?_
                refine z_icmp_ne (tgt := 26) C dX11_may_17 (by decide) (by omega) (fun c_17 => ?_) (fun c_17 => ?_)
                ·
                  refine lv_iconst (v := iI 0) C.1 C.2.1 dX11_may_26 rfl ?_
                  refine z_ior (z := 5) C (by decide) dX11_may_27 ?_
                  refine lv_istore_n (lv' := [(1, .int (iI 5)), (2, .int (iI 3)), (0, .ref x)]) C.1 C.2.1 dX11_may_28 rfl hl (by decide) rfl (fun ls hl => ?_)
                  refine lv_iinc (v := iI 4) (lv' := [(2, .int (iI 4)), (1, .int (iI 5)), (0, .ref x)]) C.1 C.2.1 dX11_may_29 hl (k := 1) rfl (iI_add _ _) (by decide) rfl (fun ls hl => ?_)
                  refine lv_goto (tgt := 4) C.1 C.2.1 dX11_may_32 (by decide) ?_
                  refine lv_iload_n C.1 C.2.1 dX11_may_4 rfl (lv_at hl 0 rfl) ?_
                  refine lv_iconst (v := iI 4) C.1 C.2.1 dX11_may_5 rfl ?_
                  refine z_icmp_ge (tgt := 35) C dX11_may_6 (by decide) (by omega) (fun c_6 => ?_) (fun c_6 => ?_)
                  ·
                    refine lv_iload_n C.1 C.2.1 dX11_may_35 rfl (lv_at hl 1 rfl) ?_
                    rw [hQ]
                    have hP9 : ∃ z : Int, (some (Value.int (iI 5))) = some (.int (iI z)) ∧ (∃ b0 b1 b2 b3 L0 L1 L2 L3 g0 g1 g3 g4, (RowL lw 0 L0 g0 ∧ BrkR g0 L0 nf nn b0) ∧ (RowL lw 1 L1 g1 ∧ BrkR g1 L1 nf nn b1) ∧ (RowL lw 2 L2 g3 ∧ BrkR g3 L2 nf nn b2) ∧ (RowL lw 3 L3 g4 ∧ BrkR g4 L3 nf nn b3) ∧ z = (if b0 = -4 then 1 else 0) + (if b1 = -4 then 2 else 0) + (if b2 = -4 then 4 else 0) + (if b3 = -4 then 8 else 0)) ∧ (LaidR lw ld2_12v4 mn2_12v4 g2_12v4) ∧ (BD g2_12v4) ∧ (BD f2_12v4) ∧ (BD h2_12v4) := ⟨_, rfl, ⟨_, _, _, _, _, _, _, _, _, _, _, _, hB_12, hB_12v2, hB_12v3, hB_12v4, by (repeat' split) <;> omega⟩, hz_12v4_1, hz_12v4_2, hz_12v4_3, hz_12v4_4⟩
                    exact z_iret C hr hlocks hW (ld2_12v4, mn2_12v4, g2_12v4, f2_12v4, h2_12v4) rfl hP9 dX11_may_36
                  ·
                    exfalso; exact absurd c_6 (by decide)
                ·
                  refine lv_iconst (v := iI 1) C.1 C.2.1 dX11_may_20 rfl ?_
                  refine lv_iload_n C.1 C.2.1 dX11_may_21 rfl (lv_at hl 0 rfl) ?_
                  refine z_ishl (z := 8) C (by decide) dX11_may_22 ?_
                  refine lv_goto (tgt := 27) C.1 C.2.1 dX11_may_23 (by decide) ?_
                  refine z_ior (z := 13) C (by decide) dX11_may_27 ?_
                  refine lv_istore_n (lv' := [(1, .int (iI 13)), (2, .int (iI 3)), (0, .ref x)]) C.1 C.2.1 dX11_may_28 rfl hl (by decide) rfl (fun ls hl => ?_)
                  refine lv_iinc (v := iI 4) (lv' := [(2, .int (iI 4)), (1, .int (iI 13)), (0, .ref x)]) C.1 C.2.1 dX11_may_29 hl (k := 1) rfl (iI_add _ _) (by decide) rfl (fun ls hl => ?_)
                  refine lv_goto (tgt := 4) C.1 C.2.1 dX11_may_32 (by decide) ?_
                  refine lv_iload_n C.1 C.2.1 dX11_may_4 rfl (lv_at hl 0 rfl) ?_
                  refine lv_iconst (v := iI 4) C.1 C.2.1 dX11_may_5 rfl ?_
                  refine z_icmp_ge (tgt := 35) C dX11_may_6 (by decide) (by omega) (fun c_6 => ?_) (fun c_6 => ?_)
                  ·
                    refine lv_iload_n C.1 C.2.1 dX11_may_35 rfl (lv_at hl 1 rfl) ?_
                    rw [hQ]
                    have hP9 : ∃ z : Int, (some (Value.int (iI 13))) = some (.int (iI z)) ∧ (∃ b0 b1 b2 b3 L0 L1 L2 L3 g0 g1 g3 g4, (RowL lw 0 L0 g0 ∧ BrkR g0 L0 nf nn b0) ∧ (RowL lw 1 L1 g1 ∧ BrkR g1 L1 nf nn b1) ∧ (RowL lw 2 L2 g3 ∧ BrkR g3 L2 nf nn b2) ∧ (RowL lw 3 L3 g4 ∧ BrkR g4 L3 nf nn b3) ∧ z = (if b0 = -4 then 1 else 0) + (if b1 = -4 then 2 else 0) + (if b2 = -4 then 4 else 0) + (if b3 = -4 then 8 else 0)) ∧ (LaidR lw ld2_12v4 mn2_12v4 g2_12v4) ∧ (BD g2_12v4) ∧ (BD f2_12v4) ∧ (BD h2_12v4) := ⟨_, rfl, ⟨_, _, _, _, _, _, _, _, _, _, _, _, hB_12, hB_12v2, hB_12v3, hB_12v4, by (repeat' split) <;> omega⟩, hz_12v4_1, hz_12v4_2, hz_12v4_3, hz_12v4_4⟩
                    exact z_iret C hr hlocks hW (ld2_12v4, mn2_12v4, g2_12v4, f2_12v4, h2_12v4) rfl hP9 dX11_may_36
                  ·
                    exfalso; exact absurd c_6 (by decide)
        ·
          refine lv_iconst (v := iI 1) C.1 C.2.1 dX11_may_20 rfl ?_
          refine lv_iload_n C.1 C.2.1 dX11_may_21 rfl (lv_at hl 0 rfl) ?_
          refine z_ishl (z := 2) C (by decide) dX11_may_22 ?_
          refine lv_goto (tgt := 27) C.1 C.2.1 dX11_may_23 (by decide) ?_
          refine z_ior (z := 3) C (by decide) dX11_may_27 ?_
          refine lv_istore_n (lv' := [(1, .int (iI 3)), (2, .int (iI 1)), (0, .ref x)]) C.1 C.2.1 dX11_may_28 rfl hl (by decide) rfl (fun ls hl => ?_)
          refine lv_iinc (v := iI 2) (lv' := [(2, .int (iI 2)), (1, .int (iI 3)), (0, .ref x)]) C.1 C.2.1 dX11_may_29 hl (k := 1) rfl (iI_add _ _) (by decide) rfl (fun ls hl => ?_)
          refine lv_goto (tgt := 4) C.1 C.2.1 dX11_may_32 (by decide) ?_
          refine lv_iload_n C.1 C.2.1 dX11_may_4 rfl (lv_at hl 0 rfl) ?_
          refine lv_iconst (v := iI 4) C.1 C.2.1 dX11_may_5 rfl ?_
          refine z_icmp_ge (tgt := 35) C dX11_may_6 (by decide) (by omega) (fun c_6 => ?_) (fun c_6 => ?_)
          ·
            exfalso; exact absurd c_6 (by decide)
          ·
            refine lv_iload_n C.1 C.2.1 dX11_may_9 rfl (lv_at hl 1 rfl) ?_
            refine lv_aload_n C.1 C.2.1 dX11_may_10 rfl (lv_at hl 2 rfl) ?_
            refine lv_iload_n C.1 C.2.1 dX11_may_11 rfl (lv_at hl 0 rfl) ?_
            refine z_call (va_runV (As := [.int (iI 2)]) (rest := [.int (iI 3)]) C (c_X11_breaksAt l G x ln a1 pl a3 a4 ri ld2_12v2 mn2_12v2 a8 a9 nn a11 fn a13 lm a15 a16 a17 a18 a19 a20 lw g2_12v2 f2_12v2 h2_12v2 2 nf hLw hlw hz_12v2_2 hz_12v2_3 hz_12v2_4 hz_12v2_1 (by first | omega | assumption | (intros; first | rfl | omega | assumption | (and_intros <;> first | rfl | omega | assumption))) (by first | omega | assumption | (intros; first | rfl | omega | assumption | (and_intros <;> first | rfl | omega | assumption))) hnn hnfb H.size) (cwV 1 C.2.2.2.2 gX11_may_X11_breaksAt rfl rfl rfl (by decide +kernel) ⟨Nat.le_of_ble_eq_true rfl, Nat.le_of_ble_eq_true rfl⟩) (z_preV hK hW hA [0, 1, 2, 3, 4, 5] rfl (by decide) (ci := 9) (q0 := 0) rfl rfl) rfl rfl hl.1 rfl (lv_room (Nat.le_of_ble_eq_true rfl)) dX11_may_12 ⟨Nat.zero_le _, Nat.zero_le _⟩) hW hA [0, 1, 2, 3, 4, 5] rfl (by decide) (fun _ => rfl) (fun r u H locs hp hW => ?_)
            obtain ⟨ld2_12v3, mn2_12v3, g2_12v3, f2_12v3, h2_12v3⟩ := u
            have hp : ∃ z : Int, r = some (.int (iI z)) ∧ ((0 ≤ (2 : Int) ∧ (2 : Int) ≤ 3) → RowL lw (2 : Int) mn2_12v3 g2_12v3 ∧ BrkR g2_12v3 mn2_12v3 nf nn z) ∧ (LaidR lw ld2_12v3 mn2_12v3 g2_12v3) ∧ (BD g2_12v3) ∧ (BD f2_12v3) ∧ (BD h2_12v3) := hp
            obtain ⟨z_12v3, rfl, hz_12v3_0, hz_12v3_1, hz_12v3_2, hz_12v3_3, hz_12v3_4⟩ := hp
            have hW : Wd G A s9.heap [(x, .inr (9, [.int (iI ln), .ref a1, .int (iI pl), .ref a3, .ref a4, .int (iI ri), .int (iI ld2_12v3), .int (iI mn2_12v3), .ref a8, .ref a9, .int (iI nn), .ref a11, .int (iI fn), .ref a13, .int (iI lm), .ref a15, .ref a16, .ref a17, .ref a18, .ref a19, .ref a20])), (a3, .inl (G.2.1 0, 32, .inl (iA lw))), (a8, .inl (G.2.1 0, 2000, .inl (iA g2_12v3))), (a9, .inl (G.2.1 0, 60001, .inl (iA f2_12v3))), (a16, .inl (G.2.1 0, 5000, .inl (iA h2_12v3))), (a11, .inl (G.2.1 0, 40, .inl (iA nf)))] H locs := hW
            have hB_12v3 := hz_12v3_0 (by omega)
            have hb_12v3 := BrkR_b hB_12v3.2 hnn
            refine lv_bipush (v := iI (-4)) C.1 C.2.1 dX11_may_15 (by decide +kernel) ?_
            refine z_icmp_ne (tgt := 26) C dX11_may_17 (by decide) (by omega) (fun c_17 => ?_) (fun c_17 => ?_)
            ·
              refine lv_iconst (v := iI 0) C.1 C.2.1 dX11_may_26 rfl ?_
              refine z_ior (z := 3) C (by decide) dX11_may_27 ?_
              refine lv_istore_n (lv' := [(1, .int (iI 3)), (2, .int (iI 2)), (0, .ref x)]) C.1 C.2.1 dX11_may_28 rfl hl (by decide) rfl (fun ls hl => ?_)
              refine lv_iinc (v := iI 3) (lv' := [(2, .int (iI 3)), (1, .int (iI 3)), (0, .ref x)]) C.1 C.2.1 dX11_may_29 hl (k := 1) rfl (iI_add _ _) (by decide) rfl (fun ls hl => ?_)
              refine lv_goto (tgt := 4) C.1 C.2.1 dX11_may_32 (by decide) ?_
              refine lv_iload_n C.1 C.2.1 dX11_may_4 rfl (lv_at hl 0 rfl) ?_
              refine lv_iconst (v := iI 4) C.1 C.2.1 dX11_may_5 rfl ?_
              refine z_icmp_ge (tgt := 35) C dX11_may_6 (by decide) (by omega) (fun c_6 => ?_) (fun c_6 => ?_)
              ·
                exfalso; exact absurd c_6 (by decide)
              ·
                refine lv_iload_n C.1 C.2.1 dX11_may_9 rfl (lv_at hl 1 rfl) ?_
                refine lv_aload_n C.1 C.2.1 dX11_may_10 rfl (lv_at hl 2 rfl) ?_
                refine lv_iload_n C.1 C.2.1 dX11_may_11 rfl (lv_at hl 0 rfl) ?_
                refine z_call (va_runV (As := [.int (iI 3)]) (rest := [.int (iI 3)]) C (c_X11_breaksAt l G x ln a1 pl a3 a4 ri ld2_12v3 mn2_12v3 a8 a9 nn a11 fn a13 lm a15 a16 a17 a18 a19 a20 lw g2_12v3 f2_12v3 h2_12v3 3 nf hLw hlw hz_12v3_2 hz_12v3_3 hz_12v3_4 hz_12v3_1 (by first | omega | assumption | (intros; first | rfl | omega | assumption | (and_intros <;> first | rfl | omega | assumption))) (by first | omega | assumption | (intros; first | rfl | omega | assumption | (and_intros <;> first | rfl | omega | assumption))) hnn hnfb H.size) (cwV 1 C.2.2.2.2 gX11_may_X11_breaksAt rfl rfl rfl (by decide +kernel) ⟨Nat.le_of_ble_eq_true rfl, Nat.le_of_ble_eq_true rfl⟩) (z_preV hK hW hA [0, 1, 2, 3, 4, 5] rfl (by decide) (ci := 9) (q0 := 0) rfl rfl) rfl rfl hl.1 rfl (lv_room (Nat.le_of_ble_eq_true rfl)) dX11_may_12 ⟨Nat.zero_le _, Nat.zero_le _⟩) hW hA [0, 1, 2, 3, 4, 5] rfl (by decide) (fun _ => rfl) (fun r u H locs hp hW => ?_)
                obtain ⟨ld2_12v4, mn2_12v4, g2_12v4, f2_12v4, h2_12v4⟩ := u
                have hp : ∃ z : Int, r = some (.int (iI z)) ∧ ((0 ≤ (3 : Int) ∧ (3 : Int) ≤ 3) → RowL lw (3 : Int) mn2_12v4 g2_12v4 ∧ BrkR g2_12v4 mn2_12v4 nf nn z) ∧ (LaidR lw ld2_12v4 mn2_12v4 g2_12v4) ∧ (BD g2_12v4) ∧ (BD f2_12v4) ∧ (BD h2_12v4) := hp
                obtain ⟨z_12v4, rfl, hz_12v4_0, hz_12v4_1, hz_12v4_2, hz_12v4_3, hz_12v4_4⟩ := hp
                have hW : Wd G A s9.heap [(x, .inr (9, [.int (iI ln), .ref a1, .int (iI pl), .ref a3, .ref a4, .int (iI ri), .int (iI ld2_12v4), .int (iI mn2_12v4), .ref a8, .ref a9, .int (iI nn), .ref a11, .int (iI fn), .ref a13, .int (iI lm), .ref a15, .ref a16, .ref a17, .ref a18, .ref a19, .ref a20])), (a3, .inl (G.2.1 0, 32, .inl (iA lw))), (a8, .inl (G.2.1 0, 2000, .inl (iA g2_12v4))), (a9, .inl (G.2.1 0, 60001, .inl (iA f2_12v4))), (a16, .inl (G.2.1 0, 5000, .inl (iA h2_12v4))), (a11, .inl (G.2.1 0, 40, .inl (iA nf)))] H locs := hW
                have hB_12v4 := hz_12v4_0 (by omega)
                have hb_12v4 := BrkR_b hB_12v4.2 hnn
                refine lv_bipush (v := iI (-4)) C.1 C.2.1 dX11_may_15 (by decide +kernel) ?_
                refine z_icmp_ne (tgt := 26) C dX11_may_17 (by decide) (by omega) (fun c_17 => ?_) (fun c_17 => ?_)
                ·
                  refine lv_iconst (v := iI 0) C.1 C.2.1 dX11_may_26 rfl ?_
                  refine z_ior (z := 3) C (by decide) dX11_may_27 ?_
                  refine lv_istore_n (lv' := [(1, .int (iI 3)), (2, .int (iI 3)), (0, .ref x)]) C.1 C.2.1 dX11_may_28 rfl hl (by decide) rfl (fun ls hl => ?_)
                  refine lv_iinc (v := iI 4) (lv' := [(2, .int (iI 4)), (1, .int (iI 3)), (0, .ref x)]) C.1 C.2.1 dX11_may_29 hl (k := 1) rfl (iI_add _ _) (by decide) rfl (fun ls hl => ?_)
                  refine lv_goto (tgt := 4) C.1 C.2.1 dX11_may_32 (by decide) ?_
                  refine lv_iload_n C.1 C.2.1 dX11_may_4 rfl (lv_at hl 0 rfl) ?_
                  refine lv_iconst (v := iI 4) C.1 C.2.1 dX11_may_5 rfl ?_
                  refine z_icmp_ge (tgt := 35) C dX11_may_6 (by decide) (by omega) (fun c_6 => ?_) (fun c_6 => ?_)
                  ·
                    refine lv_iload_n C.1 C.2.1 dX11_may_35 rfl (lv_at hl 1 rfl) ?_
                    rw [hQ]
                    have hP9 : ∃ z : Int, (some (Value.int (iI 3))) = some (.int (iI z)) ∧ (∃ b0 b1 b2 b3 L0 L1 L2 L3 g0 g1 g3 g4, (RowL lw 0 L0 g0 ∧ BrkR g0 L0 nf nn b0) ∧ (RowL lw 1 L1 g1 ∧ BrkR g1 L1 nf nn b1) ∧ (RowL lw 2 L2 g3 ∧ BrkR g3 L2 nf nn b2) ∧ (RowL lw 3 L3 g4 ∧ BrkR g4 L3 nf nn b3) ∧ z = (if b0 = -4 then 1 else 0) + (if b1 = -4 then 2 else 0) + (if b2 = -4 then 4 else 0) + (if b3 = -4 then 8 else 0)) ∧ (LaidR lw ld2_12v4 mn2_12v4 g2_12v4) ∧ (BD g2_12v4) ∧ (BD f2_12v4) ∧ (BD h2_12v4) := ⟨_, rfl, ⟨_, _, _, _, _, _, _, _, _, _, _, _, hB_12, hB_12v2, hB_12v3, hB_12v4, by (repeat' split) <;> omega⟩, hz_12v4_1, hz_12v4_2, hz_12v4_3, hz_12v4_4⟩
                    exact z_iret C hr hlocks hW (ld2_12v4, mn2_12v4, g2_12v4, f2_12v4, h2_12v4) rfl hP9 dX11_may_36
                  ·
                    exfalso; exact absurd c_6 (by decide)
                ·
                  refine lv_iconst (v := iI 1) C.1 C.2.1 dX11_may_20 rfl ?_
                  refine lv_iload_n C.1 C.2.1 dX11_may_21 rfl (lv_at hl 0 rfl) ?_
                  refine z_ishl (z := 8) C (by decide) dX11_may_22 ?_
                  refine lv_goto (tgt := 27) C.1 C.2.1 dX11_may_23 (by decide) ?_
                  refine z_ior (z := 11) C (by decide) dX11_may_27 ?_
                  refine lv_istore_n (lv' := [(1, .int (iI 11)), (2, .int (iI 3)), (0, .ref x)]) C.1 C.2.1 dX11_may_28 rfl hl (by decide) rfl (fun ls hl => ?_)
                  refine lv_iinc (v := iI 4) (lv' := [(2, .int (iI 4)), (1, .int (iI 11)), (0, .ref x)]) C.1 C.2.1 dX11_may_29 hl (k := 1) rfl (iI_add _ _) (by decide) rfl (fun ls hl => ?_)
                  refine lv_goto (tgt := 4) C.1 C.2.1 dX11_may_32 (by decide) ?_
                  refine lv_iload_n C.1 C.2.1 dX11_may_4 rfl (lv_at hl 0 rfl) ?_
                  refine lv_iconst (v := iI 4) C.1 C.2.1 dX11_may_5 rfl ?_
                  refine z_icmp_ge (tgt := 35) C dX11_may_6 (by decide) (by omega) (fun c_6 => ?_) (fun c_6 => ?_)
                  ·
                    refine lv_iload_n C.1 C.2.1 dX11_may_35 rfl (lv_at hl 1 rfl) ?_
                    rw [hQ]
                    have hP9 : ∃ z : Int, (some (Value.int (iI 11))) = some (.int (iI z)) ∧ (∃ b0 b1 b2 b3 L0 L1 L2 L3 g0 g1 g3 g4, (RowL lw 0 L0 g0 ∧ BrkR g0 L0 nf nn b0) ∧ (RowL lw 1 L1 g1 ∧ BrkR g1 L1 nf nn b1) ∧ (RowL lw 2 L2 g3 ∧ BrkR g3 L2 nf nn b2) ∧ (RowL lw 3 L3 g4 ∧ BrkR g4 L3 nf nn b3) ∧ z = (if b0 = -4 then 1 else 0) + (if b1 = -4 then 2 else 0) + (if b2 = -4 then 4 else 0) + (if b3 = -4 then 8 else 0)) ∧ (LaidR lw ld2_12v4 mn2_12v4 g2_12v4) ∧ (BD g2_12v4) ∧ (BD f2_12v4) ∧ (BD h2_12v4) := ⟨_, rfl, ⟨_, _, _, _, _, _, _, _, _, _, _, _, hB_12, hB_12v2, hB_12v3, hB_12v4, by (repeat' split) <;> omega⟩, hz_12v4_1, hz_12v4_2, hz_12v4_3, hz_12v4_4⟩
                    exact z_iret C hr hlocks hW (ld2_12v4, mn2_12v4, g2_12v4, f2_12v4, h2_12v4) rfl hP9 dX11_may_36
                  ·
                    exfalso; exact absurd c_6 (by decide)
            ·
              refine lv_iconst (v := iI 1) C.1 C.2.1 dX11_may_20 rfl ?_
              refine lv_iload_n C.1 C.2.1 dX11_may_21 rfl (lv_at hl 0 rfl) ?_
              refine z_ishl (z := 4) C (by decide) dX11_may_22 ?_
              refine lv_goto (tgt := 27) C.1 C.2.1 dX11_may_23 (by decide) ?_
              refine z_ior (z := 7) C (by decide) dX11_may_27 ?_
              refine lv_istore_n (lv' := [(1, .int (iI 7)), (2, .int (iI 2)), (0, .ref x)]) C.1 C.2.1 dX11_may_28 rfl hl (by decide) rfl (fun ls hl => ?_)
              refine lv_iinc (v := iI 3) (lv' := [(2, .int (iI 3)), (1, .int (iI 7)), (0, .ref x)]) C.1 C.2.1 dX11_may_29 hl (k := 1) rfl (iI_add _ _) (by decide) rfl (fun ls hl => ?_)
              refine lv_goto (tgt := 4) C.1 C.2.1 dX11_may_32 (by decide) ?_
              refine lv_iload_n C.1 C.2.1 dX11_may_4 rfl (lv_at hl 0 rfl) ?_
              refine lv_iconst (v := iI 4) C.1 C.2.1 dX11_may_5 rfl ?_
              refine z_icmp_ge (tgt := 35) C dX11_may_6 (by decide) (by omega) (fun c_6 => ?_) (fun c_6 => ?_)
              ·
                exfalso; exact absurd c_6 (by decide)
              ·
                refine lv_iload_n C.1 C.2.1 dX11_may_9 rfl (lv_at hl 1 rfl) ?_
                refine lv_aload_n C.1 C.2.1 dX11_may_10 rfl (lv_at hl 2 rfl) ?_
                refine lv_iload_n C.1 C.2.1 dX11_may_11 rfl (lv_at hl 0 rfl) ?_
                refine z_call (va_runV (As := [.int (iI 3)]) (rest := [.int (iI 7)]) C (c_X11_breaksAt l G x ln a1 pl a3 a4 ri ld2_12v3 mn2_12v3 a8 a9 nn a11 fn a13 lm a15 a16 a17 a18 a19 a20 lw g2_12v3 f2_12v3 h2_12v3 3 nf hLw hlw hz_12v3_2 hz_12v3_3 hz_12v3_4 hz_12v3_1 (by first | omega | assumption | (intros; first | rfl | omega | assumption | (and_intros <;> first | rfl | omega | assumption))) (by first | omega | assumption | (intros; first | rfl | omega | assumption | (and_intros <;> first | rfl | omega | assumption))) hnn hnfb H.size) (cwV 1 C.2.2.2.2 gX11_may_X11_breaksAt rfl rfl rfl (by decide +kernel) ⟨Nat.le_of_ble_eq_true rfl, Nat.le_of_ble_eq_true rfl⟩) (z_preV hK hW hA [0, 1, 2, 3, 4, 5] rfl (by decide) (ci := 9) (q0 := 0) rfl rfl) rfl rfl hl.1 rfl (lv_room (Nat.le_of_ble_eq_true rfl)) dX11_may_12 ⟨Nat.zero_le _, Nat.zero_le _⟩) hW hA [0, 1, 2, 3, 4, 5] rfl (by decide) (fun _ => rfl) (fun r u H locs hp hW => ?_)
                obtain ⟨ld2_12v4, mn2_12v4, g2_12v4, f2_12v4, h2_12v4⟩ := u
                have hp : ∃ z : Int, r = some (.int (iI z)) ∧ ((0 ≤ (3 : Int) ∧ (3 : Int) ≤ 3) → RowL lw (3 : Int) mn2_12v4 g2_12v4 ∧ BrkR g2_12v4 mn2_12v4 nf nn z) ∧ (LaidR lw ld2_12v4 mn2_12v4 g2_12v4) ∧ (BD g2_12v4) ∧ (BD f2_12v4) ∧ (BD h2_12v4) := hp
                obtain ⟨z_12v4, rfl, hz_12v4_0, hz_12v4_1, hz_12v4_2, hz_12v4_3, hz_12v4_4⟩ := hp
                have hW : Wd G A s9.heap [(x, .inr (9, [.int (iI ln), .ref a1, .int (iI pl), .ref a3, .ref a4, .int (iI ri), .int (iI ld2_12v4), .int (iI mn2_12v4), .ref a8, .ref a9, .int (iI nn), .ref a11, .int (iI fn), .ref a13, .int (iI lm), .ref a15, .ref a16, .ref a17, .ref a18, .ref a19, .ref a20])), (a3, .inl (G.2.1 0, 32, .inl (iA lw))), (a8, .inl (G.2.1 0, 2000, .inl (iA g2_12v4))), (a9, .inl (G.2.1 0, 60001, .inl (iA f2_12v4))), (a16, .inl (G.2.1 0, 5000, .inl (iA h2_12v4))), (a11, .inl (G.2.1 0, 40, .inl (iA nf)))] H locs := hW
                have hB_12v4 := hz_12v4_0 (by omega)
                have hb_12v4 := BrkR_b hB_12v4.2 hnn
                refine lv_bipush (v := iI (-4)) C.1 C.2.1 dX11_may_15 (by decide +kernel) ?_
                refine z_icmp_ne (tgt := 26) C dX11_may_17 (by decide) (by omega) (fun c_17 => ?_) (fun c_17 => ?_)
                ·
                  refine lv_iconst (v := iI 0) C.1 C.2.1 dX11_may_26 rfl ?_
                  refine z_ior (z := 7) C (by decide) dX11_may_27 ?_
                  refine lv_istore_n (lv' := [(1, .int (iI 7)), (2, .int (iI 3)), (0, .ref x)]) C.1 C.2.1 dX11_may_28 rfl hl (by decide) rfl (fun ls hl => ?_)
                  refine lv_iinc (v := iI 4) (lv' := [(2, .int (iI 4)), (1, .int (iI 7)), (0, .ref x)]) C.1 C.2.1 dX11_may_29 hl (k := 1) rfl (iI_add _ _) (by decide) rfl (fun ls hl => ?_)
                  refine lv_goto (tgt := 4) C.1 C.2.1 dX11_may_32 (by decide) ?_
                  refine lv_iload_n C.1 C.2.1 dX11_may_4 rfl (lv_at hl 0 rfl) ?_
                  refine lv_iconst (v := iI 4) C.1 C.2.1 dX11_may_5 rfl ?_
                  refine z_icmp_ge (tgt := 35) C dX11_may_6 (by decide) (by omega) (fun c_6 => ?_) (fun c_6 => ?_)
                  ·
                    refine lv_iload_n C.1 C.2.1 dX11_may_35 rfl (lv_at hl 1 rfl) ?_
                    rw [hQ]
                    have hP9 : ∃ z : Int, (some (Value.int (iI 7))) = some (.int (iI z)) ∧ (∃ b0 b1 b2 b3 L0 L1 L2 L3 g0 g1 g3 g4, (RowL lw 0 L0 g0 ∧ BrkR g0 L0 nf nn b0) ∧ (RowL lw 1 L1 g1 ∧ BrkR g1 L1 nf nn b1) ∧ (RowL lw 2 L2 g3 ∧ BrkR g3 L2 nf nn b2) ∧ (RowL lw 3 L3 g4 ∧ BrkR g4 L3 nf nn b3) ∧ z = (if b0 = -4 then 1 else 0) + (if b1 = -4 then 2 else 0) + (if b2 = -4 then 4 else 0) + (if b3 = -4 then 8 else 0)) ∧ (LaidR lw ld2_12v4 mn2_12v4 g2_12v4) ∧ (BD g2_12v4) ∧ (BD f2_12v4) ∧ (BD h2_12v4) := ⟨_, rfl, ⟨_, _, _, _, _, _, _, _, _, _, _, _, hB_12, hB_12v2, hB_12v3, hB_12v4, by (repeat' split) <;> omega⟩, hz_12v4_1, hz_12v4_2, hz_12v4_3, hz_12v4_4⟩
                    exact z_iret C hr hlocks hW (ld2_12v4, mn2_12v4, g2_12v4, f2_12v4, h2_12v4) rfl hP9 dX11_may_36
                  ·
                    exfalso; exact absurd c_6 (by decide)
                ·
                  refine lv_iconst (v := iI 1) C.1 C.2.1 dX11_may_20 rfl ?_
                  refine lv_iload_n C.1 C.2.1 dX11_may_21 rfl (lv_at hl 0 rfl) ?_
                  refine z_ishl (z := 8) C (by decide) dX11_may_22 ?_
                  refine lv_goto (tgt := 27) C.1 C.2.1 dX11_may_23 (by decide) ?_
                  refine z_ior (z := 15) C (by decide) dX11_may_27 ?_
                  refine lv_istore_n (lv' := [(1, .int (iI 15)), (2, .int (iI 3)), (0, .ref x)]) C.1 C.2.1 dX11_may_28 rfl hl (by decide) rfl (fun ls hl => ?_)
                  refine lv_iinc (v := iI 4) (lv' := [(2, .int (iI 4)), (1, .int (iI 15)), (0, .ref x)]) C.1 C.2.1 dX11_may_29 hl (k := 1) rfl (iI_add _ _) (by decide) rfl (fun ls hl => ?_)
                  refine lv_goto (tgt := 4) C.1 C.2.1 dX11_may_32 (by decide) ?_
                  refine lv_iload_n C.1 C.2.1 dX11_may_4 rfl (lv_at hl 0 rfl) ?_
                  refine lv_iconst (v := iI 4) C.1 C.2.1 dX11_may_5 rfl ?_
                  refine z_icmp_ge (tgt := 35) C dX11_may_6 (by decide) (by omega) (fun c_6 => ?_) (fun c_6 => ?_)
                  ·
                    refine lv_iload_n C.1 C.2.1 dX11_may_35 rfl (lv_at hl 1 rfl) ?_
                    rw [hQ]
                    have hP9 : ∃ z : Int, (some (Value.int (iI 15))) = some (.int (iI z)) ∧ (∃ b0 b1 b2 b3 L0 L1 L2 L3 g0 g1 g3 g4, (RowL lw 0 L0 g0 ∧ BrkR g0 L0 nf nn b0) ∧ (RowL lw 1 L1 g1 ∧ BrkR g1 L1 nf nn b1) ∧ (RowL lw 2 L2 g3 ∧ BrkR g3 L2 nf nn b2) ∧ (RowL lw 3 L3 g4 ∧ BrkR g4 L3 nf nn b3) ∧ z = (if b0 = -4 then 1 else 0) + (if b1 = -4 then 2 else 0) + (if b2 = -4 then 4 else 0) + (if b3 = -4 then 8 else 0)) ∧ (LaidR lw ld2_12v4 mn2_12v4 g2_12v4) ∧ (BD g2_12v4) ∧ (BD f2_12v4) ∧ (BD h2_12v4) := ⟨_, rfl, ⟨_, _, _, _, _, _, _, _, _, _, _, _, hB_12, hB_12v2, hB_12v3, hB_12v4, by (repeat' split) <;> omega⟩, hz_12v4_1, hz_12v4_2, hz_12v4_3, hz_12v4_4⟩
                    exact z_iret C hr hlocks hW (ld2_12v4, mn2_12v4, g2_12v4, f2_12v4, h2_12v4) rfl hP9 dX11_may_36
                  ·
                    exfalso; exact absurd c_6 (by decide)
