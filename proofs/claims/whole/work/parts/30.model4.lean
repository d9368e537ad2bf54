theorem It1_out {f g g' : Int → Int} {n m : Int} {k : Nat} (hh : ∀ j, 0 ≤ j → j < m → g' j = g j) (h : It 1 f n k g m) : It 1 f n k g' m := by
  cases k with
  | zero => exact ⟨h.1, fun j j0 j1 => by rw [hh j j0 (by have := h.1; omega)]; exact h.2 j j0 j1⟩
  | succ k =>
    obtain ⟨g1, m1, h1, h2⟩ := h
    exact ⟨g1, m1, h1, StepR_out hh h2⟩
theorem Step1_m {f g : Int → Int} {n m : Int} (h : StepR 1 f n g m) : 0 ≤ m ∧ m ≤ 40 := by
  rcases h with ⟨-, h⟩ | ⟨h, -⟩
  · have := TalS_m h (by omega)
    omega
  · omega
set_option maxHeartbeats 4000000 in
set_option maxRecDepth 100000 in
/-- round -/
theorem c_X11_round (l : Launch) (G : GG) (x : Nat) (ln : Int) (a1 : Nat) (pl : Int) (a3 : Nat) (a4 : Nat) (ri : Int) (ld : Int) (mn : Int) (a8 : Nat) (a9 : Nat) (nn : Int) (a11 : Nat) (fn : Int) (a13 : Nat) (lm : Int) (a15 : Nat) (a16 : Nat) (a17 : Nat) (a18 : Nat) (a19 : Nat) (a20 : Nat) (f : Int → Int) (g : Int → Int) (h0 : Int → Int) (e0 : Int → Int) (t0 : Int → Int) (w : Int) (hn : 0 ≤ fn ∧ fn ≤ 40) (hf : BD f) (hg : BD g) (hh : BD h0) (he0 : BD e0) (ht0 : BD t0) (hlm : 0 ≤ lm ∧ lm ≤ 5000) (hw : -2147483648 ≤ w ∧ w ≤ 2147483647) : MQc l yX11_round wsX11_round 1 G [.ref x, .int (iI w)] [(x, .inr (9, [.int (iI ln), .ref a1, .int (iI pl), .ref a3, .ref a4, .int (iI ri), .int (iI ld), .int (iI mn), .ref a8, .ref a9, .int (iI nn), .ref a11, .int (iI fn), .ref a13, .int (iI lm), .ref a15, .ref a16, .ref a17, .ref a18, .ref a19, .ref a20])), (a13, .inl (G.2.1 0, 40, .inl (iA f))), (a15, .inl (G.2.1 0, 5000, .inl (iA g))), (a16, .inl (G.2.1 0, 5000, .inl (iA h0))), (a17, .inl (G.2.1 0, 62, .inl (iA e0))), (a18, .inl (G.2.1 0, 2480, .inl (iA t0)))] (fun r (u : Int × (Int → Int) × (Int → Int) × (Int → Int) × (Int → Int)) => ∃ z : Int, r = some (.int (iI z)) ∧ (0 ≤ w ∧ w ≤ 1 → RoundQ f fn w z) ∧ (¬ (0 ≤ w ∧ w ≤ 1) → z = -1) ∧ (BD u.2.1) ∧ (BD u.2.2.1) ∧ (BD u.2.2.2.1) ∧ (BD u.2.2.2.2) ∧ (0 ≤ u.1 ∧ u.1 ≤ 5000)) (fun u => [(x, .inr (9, [.int (iI ln), .ref a1, .int (iI pl), .ref a3, .ref a4, .int (iI ri), .int (iI ld), .int (iI mn), .ref a8, .ref a9, .int (iI nn), .ref a11, .int (iI fn), .ref a13, .int (iI u.1), .ref a15, .ref a16, .ref a17, .ref a18, .ref a19, .ref a20])), (a13, .inl (G.2.1 0, 40, .inl (iA f))), (a15, .inl (G.2.1 0, 5000, .inl (iA u.2.1))), (a16, .inl (G.2.1 0, 5000, .inl (iA u.2.2.1))), (a17, .inl (G.2.1 0, 62, .inl (iA u.2.2.2.1))), (a18, .inl (G.2.1 0, 2480, .inl (iA u.2.2.2.2)))]) := by
  refine MQc.start (own := RX11) (by decide) rfl rfl (Nat.le_of_ble_eq_true rfl) ?_
  intro p9 e9 s9 m9 args below meth c9 A Q C hK hW hA hr hlocks hQ ls hl
  have hl : lv_has ls 4 [(0, .ref x), (1, .int (iI w))] := hl
  have hin11 : ∀ w ∈ wsX110, w ∈ wsX11_round := by decide +kernel
  refine lv_iload_n C.1 C.2.1 dX11_round_0 rfl (lv_at hl 1 rfl) ?_
  refine z_i2l C dX11_round_1 (by omega) ?_
  refine lv_lconst (v := lI 0) C.1 C.2.1 dX11_round_2 rfl ?_
  refine lv_lconst (v := lI 1) C.1 C.2.1 dX11_round_3 rfl ?_
  refine z_callR (va_runS (As := [.long (lI w), .long (lI 0), .long (lI 1)]) (rest := []) C (c_X11_in l G w 0 1 (by first | omega | assumption | (intros; first | rfl | omega | assumption | (and_intros <;> first | rfl | omega | assumption))) (by first | omega | assumption | (intros; first | rfl | omega | assumption | (and_intros <;> first | rfl | omega | assumption))) (by first | omega | assumption | (intros; first | rfl | omega | assumption | (and_intros <;> first | rfl | omega | assumption))) s9.heap.size) (va_cwS 3 C.2.2.2.2 gX11_round_X11_in rfl rfl rfl (by decide +kernel) ⟨Nat.le_of_ble_eq_true rfl, Nat.le_of_ble_eq_true rfl⟩) (z_preS hK hW hA [] rfl (by decide)) rfl rfl hl.1 rfl (lv_room (Nat.le_of_ble_eq_true rfl)) dX11_round_4 ⟨Nat.zero_le _, Nat.zero_le _⟩) (fun r hp => ?_)
  have hp : ∃ z : Int, r = some (.int (iI z)) ∧ ((z = 1 ∧ ((0 : Int) ≤ w ∧ w ≤ (1 : Int))) ∨ (z = 0 ∧ ¬ ((0 : Int) ≤ w ∧ w ≤ (1 : Int)))) := hp
  obtain ⟨z_4, rfl, hz_4_0⟩ := hp
  refine z_if_ne (tgt := 12) C dX11_round_7 (by decide) (by omega) (fun c_7 => ?_) (fun c_7 => ?_)
  ·
    refine lv_aload_n C.1 C.2.1 dX11_round_12 rfl (lv_at hl 0 rfl) ?_
    refine z_call (va_runV (As := []) (rest := []) C (c_X11_begins l G x ln a1 pl a3 a4 ri ld mn a8 a9 nn a11 fn a13 lm a15 a16 a17 a18 a19 a20 f g hn hf hg s9.heap.size) (cwV 0 C.2.2.2.2 gX11_round_X11_begins rfl rfl rfl (by decide +kernel) ⟨Nat.le_of_ble_eq_true rfl, Nat.le_of_ble_eq_true rfl⟩) (z_preV hK hW hA [0, 1, 2] rfl (by decide) (ci := 9) (q0 := 0) rfl rfl) rfl rfl hl.1 rfl (lv_room (Nat.le_of_ble_eq_true rfl)) dX11_round_13 ⟨Nat.zero_le _, Nat.zero_le _⟩) hW hA [0, 1, 2] rfl (by decide) (fun _ => rfl) (fun r u H locs hp hW => ?_)
    obtain ⟨g2_13, rfl⟩ : ∃ q9, q9 = u := ⟨_, rfl⟩
    have hp : r = none ∧ (∀ j, 0 ≤ j → j < fn → g2_13 j = f j) ∧ (BD g2_13) := hp
    obtain ⟨rfl, hz_13_0, hz_13_1⟩ := hp
    have hW : Wd G A s9.heap [(x, .inr (9, [.int (iI ln), .ref a1, .int (iI pl), .ref a3, .ref a4, .int (iI ri), .int (iI ld), .int (iI mn), .ref a8, .ref a9, .int (iI nn), .ref a11, .int (iI fn), .ref a13, .int (iI fn), .ref a15, .ref a16, .ref a17, .ref a18, .ref a19, .ref a20])), (a13, .inl (G.2.1 0, 40, .inl (iA f))), (a15, .inl (G.2.1 0, 5000, .inl (iA g2_13))), (a16, .inl (G.2.1 0, 5000, .inl (iA h0))), (a17, .inl (G.2.1 0, 62, .inl (iA e0))), (a18, .inl (G.2.1 0, 2480, .inl (iA t0)))] H locs := hW
    refine lv_iconst (v := iI 0) C.1 C.2.1 dX11_round_16 rfl ?_
    refine lv_istore_n (lv' := [(2, .int (iI 0)), (0, .ref x), (1, .int (iI w))]) C.1 C.2.1 dX11_round_17 rfl hl (by decide) rfl (fun ls hl => ?_)
    have cut_18 : ∀ (n9 : Nat) (s : Int) (l1 : Int) (g1 : Int → Int) (h1 : Int → Int) (e1 : Int → Int) (t1 : Int → Int), (0 ≤ s ∧ s ≤ 61) → (It 1 f fn (s - 1).toNat g1 l1) → (0 ≤ l1 ∧ l1 ≤ 40) → (BD g1) → (BD h1) → (BD e1) → (BD t1) → (∀ u, 0 ≤ u → u < s → It 1 f fn u.toNat (fun j => t1 (40 * u + j)) (e1 u) ∧ (0 ≤ e1 u ∧ e1 u ≤ 40)) → (∀ u v, 0 ≤ u → u < v → v < s → ¬ Alike f fn u v) → (61 - s < (n9 : Int)) → ∀ (H : Heap) (locs : List Loc) (ls : Array Slot), Wd G A s9.heap [(x, .inr (9, [.int (iI ln), .ref a1, .int (iI pl), .ref a3, .ref a4, .int (iI ri), .int (iI ld), .int (iI mn), .ref a8, .ref a9, .int (iI nn), .ref a11, .int (iI fn), .ref a13, .int (iI l1), .ref a15, .ref a16, .ref a17, .ref a18, .ref a19, .ref a20])), (a13, .inl (G.2.1 0, 40, .inl (iA f))), (a15, .inl (G.2.1 0, 5000, .inl (iA g1))), (a16, .inl (G.2.1 0, 5000, .inl (iA h1))), (a17, .inl (G.2.1 0, 62, .inl (iA e1))), (a18, .inl (G.2.1 0, 2480, .inl (iA t1)))] H locs → lv_has ls 4 [(2, .int (iI s)), (0, .ref x), (1, .int (iI w))] → W p9 l e9 (rmL 1) s9 m9 args below meth c9 H locs 0 0 Q (F0 m9 18 ls []) := by
      intro n9
      induction n9 with
      | zero => intro s l1 g1 h1 e1 t1 hs hI hl1 hg1 hh1 he1 ht1 hSt hNo hmu; intros; exfalso; omega
      | succ n9 ih_18 =>
        intro s l1 g1 h1 e1 t1 hs hI hl1 hg1 hh1 he1 ht1 hSt hNo hmu H locs ls hW hl
        refine lv_iload_n C.1 C.2.1 dX11_round_18 rfl (lv_at hl 0 rfl) ?_
        refine lv_bipush (v := iI 60) C.1 C.2.1 dX11_round_19 (by decide +kernel) ?_
        refine z_icmp_gt (tgt := 122) C dX11_round_21 (by decide) (by omega) (fun c_21 => ?_) (fun c_21 => ?_)
        ·
          refine lv_bipush (v := iI (-2)) C.1 C.2.1 dX11_round_122 (by decide +kernel) ?_
          rw [hQ]
          have hP9 : ∃ z : Int, (some (Value.int (iI (-2)))) = some (.int (iI z)) ∧ (0 ≤ w ∧ w ≤ 1 → RoundQ f fn w z) ∧ (¬ (0 ≤ w ∧ w ≤ 1) → z = -1) ∧ (BD g1) ∧ (BD h1) ∧ (BD e1) ∧ (BD t1) ∧ (0 ≤ l1 ∧ l1 ≤ 5000) := ⟨_, rfl, (fun _ => Or.inl ⟨fun u v u0 u1 u2 => hNo u v u0 u1 (by omega), rfl⟩), (fun q9 => by omega), hg1, hh1, he1, ht1, (by first | omega | assumption | (intros; first | rfl | omega | assumption | (and_intros <;> first | rfl | omega | assumption)))⟩
          exact z_iret C hr hlocks hW (l1, g1, h1, e1, t1) rfl hP9 dX11_round_124
        ·
          have cut_39 : ∀ (lb : Int) (gb : Int → Int) (hb : Int → Int), (It 1 f fn s.toNat gb lb) → (0 ≤ lb ∧ lb ≤ 40) → (BD gb) → (BD hb) → ∀ (H : Heap) (locs : List Loc) (ls : Array Slot), Wd G A s9.heap [(x, .inr (9, [.int (iI ln), .ref a1, .int (iI pl), .ref a3, .ref a4, .int (iI ri), .int (iI ld), .int (iI mn), .ref a8, .ref a9, .int (iI nn), .ref a11, .int (iI fn), .ref a13, .int (iI lb), .ref a15, .ref a16, .ref a17, .ref a18, .ref a19, .ref a20])), (a13, .inl (G.2.1 0, 40, .inl (iA f))), (a15, .inl (G.2.1 0, 5000, .inl (iA gb))), (a16, .inl (G.2.1 0, 5000, .inl (iA hb))), (a17, .inl (G.2.1 0, 62, .inl (iA e1))), (a18, .inl (G.2.1 0, 2480, .inl (iA t1)))] H locs → lv_has ls 4 [(2, .int (iI s)), (0, .ref x), (1, .int (iI w))] → W p9 l e9 (rmL 1) s9 m9 args below meth c9 H locs 0 0 Q (F0 m9 39 ls []) := by
            intro lb gb hb hIb hlb hgb hhb H locs ls hW hl
            refine lv_aload_n C.1 C.2.1 dX11_round_39 rfl (lv_at hl 1 rfl) ?_
            refine z_get C hK hW hin11 (v := .ref a17) 0 rfl rfl 17 (by decide) (C.2.2.2.2 (.fieldLink RX11 43 "TellingRowsModel" "stepMany" "[I") (List.mem_of_getElem? (i := 1) rfl)) (fun _ h9 => h9) rfl dX11_round_40 ?_
            refine lv_iload_n C.1 C.2.1 dX11_round_43 rfl (lv_at hl 0 rfl) ?_
            refine lv_aload_n C.1 C.2.1 dX11_round_44 rfl (lv_at hl 1 rfl) ?_
            refine z_get C hK hW hin11 (v := .int (iI lb)) 0 rfl rfl 14 (by decide) (C.2.2.2.2 (.fieldLink RX11 144 "TellingRowsModel" "lineMany" "I") (List.mem_of_getElem? (i := 2) rfl)) (fun _ h9 => h9) rfl dX11_round_45 ?_
            refine z_iast C hK hW 4 rfl (by omega) (by omega) dX11_round_48 (fun H locs hW => ?_)
            have hbd_48 : BD (up e1 s lb) := BD.up he1 (by omega)
            have hW : Wd G A s9.heap [(x, .inr (9, [.int (iI ln), .ref a1, .int (iI pl), .ref a3, .ref a4, .int (iI ri), .int (iI ld), .int (iI mn), .ref a8, .ref a9, .int (iI nn), .ref a11, .int (iI fn), .ref a13, .int (iI lb), .ref a15, .ref a16, .ref a17, .ref a18, .ref a19, .ref a20])), (a13, .inl (G.2.1 0, 40, .inl (iA f))), (a15, .inl (G.2.1 0, 5000, .inl (iA gb))), (a16, .inl (G.2.1 0, 5000, .inl (iA hb))), (a17, .inl (G.2.1 0, 62, .inl (iA (up e1 s lb)))), (a18, .inl (G.2.1 0, 2480, .inl (iA t1)))] H locs := hW
            refine lv_iconst (v := iI 0) C.1 C.2.1 dX11_round_49 rfl ?_
            refine lv_istore_n (lv' := [(3, .int (iI 0)), (2, .int (iI s)), (0, .ref x), (1, .int (iI w))]) C.1 C.2.1 dX11_round_50 rfl hl (by decide) rfl (fun ls hl => ?_)
            have cut_51 : ∀ (n9 : Nat) (k : Int) (tb : Int → Int), (0 ≤ k ∧ k ≤ lb) → (BD tb) → (∀ j, 0 ≤ j → j < k → tb (40 * s + j) = gb j) → (∀ j, j < 40 * s → tb j = t1 j) → (lb - k < (n9 : Int)) → ∀ (H : Heap) (locs : List Loc) (ls : Array Slot), Wd G A s9.heap [(x, .inr (9, [.int (iI ln), .ref a1, .int (iI pl), .ref a3, .ref a4, .int (iI ri), .int (iI ld), .int (iI mn), .ref a8, .ref a9, .int (iI nn), .ref a11, .int (iI fn), .ref a13, .int (iI lb), .ref a15, .ref a16, .ref a17, .ref a18, .ref a19, .ref a20])), (a13, .inl (G.2.1 0, 40, .inl (iA f))), (a15, .inl (G.2.1 0, 5000, .inl (iA gb))), (a16, .inl (G.2.1 0, 5000, .inl (iA hb))), (a17, .inl (G.2.1 0, 62, .inl (iA (up e1 s lb)))), (a18, .inl (G.2.1 0, 2480, .inl (iA tb)))] H locs → lv_has ls 4 [(3, .int (iI k)), (2, .int (iI s)), (0, .ref x), (1, .int (iI w))] → W p9 l e9 (rmL 1) s9 m9 args below meth c9 H locs 0 0 Q (F0 m9 51 ls []) := by
              intro n9
              induction n9 with
              | zero => intro k tb hk htb hc1 hc2 hmu; intros; exfalso; omega
              | succ n9 ih_51 =>
                intro k tb hk htb hc1 hc2 hmu H locs ls hW hl
                refine lv_iload_n C.1 C.2.1 dX11_round_51 rfl (lv_at hl 0 rfl) ?_
                refine lv_aload_n C.1 C.2.1 dX11_round_52 rfl (lv_at hl 2 rfl) ?_
                refine z_get C hK hW hin11 (v := .int (iI lb)) 0 rfl rfl 14 (by decide) (C.2.2.2.2 (.fieldLink RX11 144 "TellingRowsModel" "lineMany" "I") (List.mem_of_getElem? (i := 2) rfl)) (fun _ h9 => h9) rfl dX11_round_53 ?_
                refine z_icmp_ge (tgt := 82) C dX11_round_56 (by decide) (by omega) (fun c_56 => ?_) (fun c_56 => ?_)
                ·
                  have hSt2 : ∀ u, 0 ≤ u → u ≤ s → It 1 f fn u.toNat (fun j => tb (40 * u + j)) (up e1 s lb u) ∧ (0 ≤ up e1 s lb u ∧ up e1 s lb u ≤ 40) := fun u u0 u1 => if q : u = s then (by rw [q, up_s]; exact ⟨It1_out (fun j j0 j1 => hc1 j j0 (by omega)) hIb, hlb⟩) else (by rw [up_n _ _ q]; have h9 := hSt u u0 (by omega); exact ⟨It1_out (fun j j0 j1 => hc2 _ (by omega)) h9.1, h9.2⟩)
                  refine lv_iconst (v := iI 0) C.1 C.2.1 dX11_round_82 rfl ?_
                  refine lv_istore_n (lv' := [(3, .int (iI 0)), (2, .int (iI s)), (0, .ref x), (1, .int (iI w))]) C.1 C.2.1 dX11_round_83 rfl hl (by decide) rfl (fun ls hl => ?_)
                  have cut_84 : ∀ (n9 : Nat) (u : Int), (0 ≤ u ∧ u ≤ s) → (∀ v, 0 ≤ v → v < u → ¬ Alike f fn v s) → (s - u < (n9 : Int)) → ∀ (H : Heap) (locs : List Loc) (ls : Array Slot), Wd G A s9.heap [(x, .inr (9, [.int (iI ln), .ref a1, .int (iI pl), .ref a3, .ref a4, .int (iI ri), .int (iI ld), .int (iI mn), .ref a8, .ref a9, .int (iI nn), .ref a11, .int (iI fn), .ref a13, .int (iI lb), .ref a15, .ref a16, .ref a17, .ref a18, .ref a19, .ref a20])), (a13, .inl (G.2.1 0, 40, .inl (iA f))), (a15, .inl (G.2.1 0, 5000, .inl (iA gb))), (a16, .inl (G.2.1 0, 5000, .inl (iA hb))), (a17, .inl (G.2.1 0, 62, .inl (iA (up e1 s lb)))), (a18, .inl (G.2.1 0, 2480, .inl (iA tb)))] H locs → lv_has ls 4 [(3, .int (iI u)), (2, .int (iI s)), (0, .ref x), (1, .int (iI w))] → W p9 l e9 (rmL 1) s9 m9 args below meth c9 H locs 0 0 Q (F0 m9 84 ls []) := by
                    intro n9
                    induction n9 with
                    | zero => intro u hu hNe hmu; intros; exfalso; omega
                    | succ n9 ih_84 =>
                      intro u hu hNe hmu H locs ls hW hl
                      refine lv_iload_n C.1 C.2.1 dX11_round_84 rfl (lv_at hl 0 rfl) ?_
                      refine lv_iload_n C.1 C.2.1 dX11_round_85 rfl (lv_at hl 1 rfl) ?_
                      refine z_icmp_ge (tgt := 116) C dX11_round_86 (by decide) (by omega) (fun c_86 => ?_) (fun c_86 => ?_)
                      ·
                        refine lv_iinc (v := iI (s + 1)) (lv' := [(2, .int (iI (s + 1))), (3, .int (iI u)), (0, .ref x), (1, .int (iI w))]) C.1 C.2.1 dX11_round_116 hl (k := 1) rfl (iI_add _ _) (by decide) rfl (fun ls hl => ?_)
                        refine lv_goto (tgt := 18) C.1 C.2.1 dX11_round_119 (by decide) ?_
                        exact ih_18 (s + 1) lb gb hb (up e1 s lb) tb (by first | omega | assumption | (intros; first | rfl | omega | assumption | (and_intros <;> first | rfl | omega | assumption))) (by rw [show s + 1 - 1 = s by omega]; exact hIb) hlb hgb hhb hbd_48 htb (fun u u0 u1 => hSt2 u u0 (by omega)) (fun u v u0 u1 u2 => if q : v = s then (by rw [q]; exact hNe u u0 (by omega)) else hNo u v u0 u1 (by omega)) (by omega) _ _ _ hW (lv_sub hl [0, 2, 3] rfl)
                      ·
                        refine lv_aload_n C.1 C.2.1 dX11_round_89 rfl (lv_at hl 2 rfl) ?_
                        refine lv_iload_n C.1 C.2.1 dX11_round_90 rfl (lv_at hl 0 rfl) ?_
                        refine lv_iload_n C.1 C.2.1 dX11_round_91 rfl (lv_at hl 1 rfl) ?_
                        refine z_callR (va_runV (As := [.int (iI u), .int (iI s)]) (rest := []) C (c_X11_areLike l G x ln a1 pl a3 a4 ri ld mn a8 a9 nn a11 fn a13 lb a15 a16 a17 a18 a19 a20 (up e1 s lb) tb u s hbd_48 htb (by first | omega | assumption | (intros; first | rfl | omega | assumption | (and_intros <;> first | rfl | omega | assumption))) (by first | omega | assumption | (intros; first | rfl | omega | assumption | (and_intros <;> first | rfl | omega | assumption))) (hSt2 u hu.1 hu.2).2 H.size) (cwV 2 C.2.2.2.2 gX11_round_X11_areLike rfl rfl rfl (by decide +kernel) ⟨Nat.le_of_ble_eq_true rfl, Nat.le_of_ble_eq_true rfl⟩) (z_preV hK hW hA [0, 4, 5] rfl (by decide) (ci := 9) (q0 := 0) rfl rfl) rfl rfl hl.1 rfl (lv_room (Nat.le_of_ble_eq_true rfl)) dX11_round_92 ⟨Nat.zero_le _, Nat.zero_le _⟩) (fun r hp => ?_)
                        have hp : ∃ z : Int, r = some (.int (iI z)) ∧ ((z = 1 ∧ ((up e1 s lb) u = (up e1 s lb) s ∧ ∀ j, 0 ≤ j → j < (up e1 s lb) u → tb (40 * u + j) = tb (40 * s + j))) ∨ (z = 0 ∧ ¬ ((up e1 s lb) u = (up e1 s lb) s ∧ ∀ j, 0 ≤ j → j < (up e1 s lb) u → tb (40 * u + j) = tb (40 * s + j)))) := hp
                        obtain ⟨z_92, rfl, hz_92_0⟩ := hp
                        refine z_if_eq (tgt := 110) C dX11_round_95 (by decide) (by omega) (fun c_95 => ?_) (fun c_95 => ?_)
                        ·
                          refine lv_iinc (v := iI (u + 1)) (lv' := [(3, .int (iI (u + 1))), (2, .int (iI s)), (0, .ref x), (1, .int (iI w))]) C.1 C.2.1 dX11_round_110 hl (k := 0) rfl (iI_add _ _) (by decide) rfl (fun ls hl => ?_)
                          refine lv_goto (tgt := 84) C.1 C.2.1 dX11_round_113 (by decide) ?_
                          exact ih_84 (u + 1) (by first | omega | assumption | (intros; first | rfl | omega | assumption | (and_intros <;> first | rfl | omega | assumption))) (fun v v0 v1 => if q : v = u then (by rw [q]; exact Alike_no (hSt2 u hu.1 hu.2).1 (hSt2 s hs.1 (Int.le_refl s)).1 (hz_92_0.elim (fun y => absurd y.1 (by omega)) (fun y => y.2))) else hNe v v0 (by omega)) (by omega) _ _ _ hW (lv_sub hl [0, 1, 2, 3] rfl)
                        ·
                          refine lv_iload_n C.1 C.2.1 dX11_round_98 rfl (lv_at hl 3 rfl) ?_
                          refine z_if_ne (tgt := 106) C dX11_round_99 (by decide) (by omega) (fun c_99 => ?_) (fun c_99 => ?_)
                          ·
                            refine lv_iload_n C.1 C.2.1 dX11_round_106 rfl (lv_at hl 1 rfl) ?_
                            refine lv_iload_n C.1 C.2.1 dX11_round_107 rfl (lv_at hl 0 rfl) ?_
                            refine z_isub C dX11_round_108 ?_
                            rw [hQ]
                            have hP9 : ∃ z : Int, (some (Value.int (iI (s - u)))) = some (.int (iI z)) ∧ (0 ≤ w ∧ w ≤ 1 → RoundQ f fn w z) ∧ (¬ (0 ≤ w ∧ w ≤ 1) → z = -1) ∧ (BD gb) ∧ (BD hb) ∧ (BD (up e1 s lb)) ∧ (BD tb) ∧ (0 ≤ lb ∧ lb ≤ 5000) := ⟨_, rfl, (by have hsm := hz_92_0.elim (fun y => y.2) (fun y => absurd y.1 c_95); exact fun _ => Or.inr ⟨u, s - u, ⟨hu.1, by omega, by omega, by rw [show u + (s - u) = s by omega]; exact ⟨_, _, _, _, (hSt2 u hu.1 hu.2).1, (hSt2 s hs.1 (Int.le_refl s)).1, hsm.1, hsm.2⟩, fun v v0 v1 => by rw [show u + (s - u) = s by omega]; exact hNe v v0 v1, fun v y v0 v1 v2 => hNo v y v0 v1 (by omega)⟩, fun q9 => by first | rfl | omega, fun q9 => by first | rfl | omega⟩), (fun q9 => by omega), hgb, hhb, hbd_48, htb, (by first | omega | assumption | (intros; first | rfl | omega | assumption | (and_intros <;> first | rfl | omega | assumption)))⟩
                            exact z_iret C hr hlocks hW (lb, gb, hb, (up e1 s lb), tb) rfl hP9 dX11_round_109
                          ·
                            refine lv_iload_n C.1 C.2.1 dX11_round_102 rfl (lv_at hl 0 rfl) ?_
                            refine lv_goto (tgt := 109) C.1 C.2.1 dX11_round_103 (by decide) ?_
                            rw [hQ]
                            have hP9 : ∃ z : Int, (some (Value.int (iI u))) = some (.int (iI z)) ∧ (0 ≤ w ∧ w ≤ 1 → RoundQ f fn w z) ∧ (¬ (0 ≤ w ∧ w ≤ 1) → z = -1) ∧ (BD gb) ∧ (BD hb) ∧ (BD (up e1 s lb)) ∧ (BD tb) ∧ (0 ≤ lb ∧ lb ≤ 5000) := ⟨_, rfl, (by have hsm := hz_92_0.elim (fun y => y.2) (fun y => absurd y.1 c_95); exact fun _ => Or.inr ⟨u, s - u, ⟨hu.1, by omega, by omega, by rw [show u + (s - u) = s by omega]; exact ⟨_, _, _, _, (hSt2 u hu.1 hu.2).1, (hSt2 s hs.1 (Int.le_refl s)).1, hsm.1, hsm.2⟩, fun v v0 v1 => by rw [show u + (s - u) = s by omega]; exact hNe v v0 v1, fun v y v0 v1 v2 => hNo v y v0 v1 (by omega)⟩, fun q9 => by first | rfl | omega, fun q9 => by first | rfl | omega⟩), (fun q9 => by omega), hgb, hhb, hbd_48, htb, (by first | omega | assumption | (intros; first | rfl | omega | assumption | (and_intros <;> first | rfl | omega | assumption)))⟩
                            exact z_iret C hr hlocks hW (lb, gb, hb, (up e1 s lb), tb) rfl hP9 dX11_round_109
                  exact cut_84 (((s - 0) + 1 : Int)).toNat 0 (by first | omega | assumption | (intros; first | rfl | omega | assumption | (and_intros <;> first | rfl | omega | assumption))) (fun v v0 v1 => by omega) (by omega) _ _ _ hW (lv_sub hl [0, 1, 2, 3] rfl)
                ·
                  refine lv_aload_n C.1 C.2.1 dX11_round_59 rfl (lv_at hl 2 rfl) ?_
                  refine z_get C hK hW hin11 (v := .ref a18) 0 rfl rfl 18 (by decide) (C.2.2.2.2 (.fieldLink RX11 46 "TellingRowsModel" "step" "[I") (List.mem_of_getElem? (i := 3) rfl)) (fun _ h9 => h9) rfl dX11_round_60 ?_
                  refine lv_bipush (v := iI 40) C.1 C.2.1 dX11_round_63 (by decide +kernel) ?_
                  refine lv_iload_n C.1 C.2.1 dX11_round_65 rfl (lv_at hl 1 rfl) ?_
                  refine z_imul C dX11_round_66 ?_
                  refine lv_iload_n C.1 C.2.1 dX11_round_67 rfl (lv_at hl 0 rfl) ?_
                  refine z_iadd C dX11_round_68 ?_
                  refine lv_aload_n C.1 C.2.1 dX11_round_69 rfl (lv_at hl 2 rfl) ?_
                  refine z_get C hK hW hin11 (v := .ref a15) 0 rfl rfl 15 (by decide) (C.2.2.2.2 (.fieldLink RX11 37 "TellingRowsModel" "line" "[I") (List.mem_of_getElem? (i := 4) rfl)) (fun _ h9 => h9) rfl dX11_round_70 ?_
                  refine lv_iload_n C.1 C.2.1 dX11_round_73 rfl (lv_at hl 0 rfl) ?_
                  refine z_iald C hK hW 2 rfl (by omega) (by omega) dX11_round_74 ?_
                  have hb_74 := hgb k
                  refine z_iast C hK hW 5 rfl (by omega) (by omega) dX11_round_75 (fun H locs hW => ?_)
                  have hbd_75 : BD (up tb ((40 * s) + k) (gb k)) := BD.up htb (by omega)
                  have hW : Wd G A s9.heap [(x, .inr (9, [.int (iI ln), .ref a1, .int (iI pl), .ref a3, .ref a4, .int (iI ri), .int (iI ld), .int (iI mn), .ref a8, .ref a9, .int (iI nn), .ref a11, .int (iI fn), .ref a13, .int (iI lb), .ref a15, .ref a16, .ref a17, .ref a18, .ref a19, .ref a20])), (a13, .inl (G.2.1 0, 40, .inl (iA f))), (a15, .inl (G.2.1 0, 5000, .inl (iA gb))), (a16, .inl (G.2.1 0, 5000, .inl (iA hb))), (a17, .inl (G.2.1 0, 62, .inl (iA (up e1 s lb)))), (a18, .inl (G.2.1 0, 2480, .inl (iA (up tb ((40 * s) + k) (gb k)))))] H locs := hW
                  refine lv_iinc (v := iI (k + 1)) (lv' := [(3, .int (iI (k + 1))), (2, .int (iI s)), (0, .ref x), (1, .int (iI w))]) C.1 C.2.1 dX11_round_76 hl (k := 0) rfl (iI_add _ _) (by decide) rfl (fun ls hl => ?_)
                  refine lv_goto (tgt := 51) C.1 C.2.1 dX11_round_79 (by decide) ?_
                  exact ih_51 (k + 1) (up tb ((40 * s) + k) (gb k)) (by first | omega | assumption | (intros; first | rfl | omega | assumption | (and_intros <;> first | rfl | omega | assumption))) hbd_75 (fun j j0 j1 => if q : j = k then (by rw [q, up_s]) else (by rw [up_n _ _ (by omega)]; exact hc1 j j0 (by omega))) (fun j j1 => by rw [up_n _ _ (by omega)]; exact hc2 j j1) (by omega) _ _ _ hW (lv_sub hl [0, 1, 2, 3] rfl)
            exact cut_51 (((lb - 0) + 1 : Int)).toNat 0 t1 (by first | omega | assumption | (intros; first | rfl | omega | assumption | (and_intros <;> first | rfl | omega | assumption))) ht1 (fun j j0 j1 => by omega) (fun j j1 => rfl) (by omega) _ _ _ hW (lv_sub hl [0, 1, 2, 3] rfl)
          refine lv_iload_n C.1 C.2.1 dX11_round_24 rfl (lv_at hl 0 rfl) ?_
          refine z_if_le (tgt := 39) C dX11_round_25 (by decide) (by omega) (fun c_25 => ?_) (fun c_25 => ?_)
          ·
            exact cut_39 l1 g1 h1 (by rw [show s.toNat = (s - 1).toNat by omega]; exact hI) hl1 hg1 hh1 _ _ _ hW (lv_sub hl [0, 1, 2] rfl)
          ·
            refine lv_aload_n C.1 C.2.1 dX11_round_28 rfl (lv_at hl 1 rfl) ?_
            refine lv_iconst (v := iI 1) C.1 C.2.1 dX11_round_29 rfl ?_
            refine z_call (va_runV (As := [.int (iI 1)]) (rest := []) C (c_X11_tells l G x ln a1 pl a3 a4 ri ld mn a8 a9 nn a11 fn a13 l1 a15 a16 a17 a18 a19 a20 g1 h1 1 (by first | omega | assumption | (intros; first | rfl | omega | assumption | (and_intros <;> first | rfl | omega | assumption))) hg1 hh1 (by first | omega | assumption | (intros; first | rfl | omega | assumption | (and_intros <;> first | rfl | omega | assumption))) H.size) (cwV 1 C.2.2.2.2 gX11_round_X11_tells rfl rfl rfl (by decide +kernel) ⟨Nat.le_of_ble_eq_true rfl, Nat.le_of_ble_eq_true rfl⟩) (z_preV hK hW hA [0, 2, 3] rfl (by decide) (ci := 9) (q0 := 0) rfl rfl) rfl rfl hl.1 rfl (lv_room (Nat.le_of_ble_eq_true rfl)) dX11_round_30 ⟨Nat.zero_le _, Nat.zero_le _⟩) hW hA [0, 2, 3] rfl (by decide) (fun _ => rfl) (fun r u H locs hp hW => ?_)
            obtain ⟨lm2_30, g2_30, h2_30⟩ := u
            have hp : ∃ z : Int, r = some (.int (iI z)) ∧ ((z = 1 ∧ StepR (1 : Int) g1 l1 g2_30 lm2_30) ∨ (z = 0 ∧ StepB (1 : Int) g1 l1)) ∧ (BD g2_30) ∧ (BD h2_30) ∧ (0 ≤ lm2_30 ∧ lm2_30 ≤ 5000) := hp
            obtain ⟨z_30, rfl, hz_30_0, hz_30_1, hz_30_2, hz_30_3⟩ := hp
            have hW : Wd G A s9.heap [(x, .inr (9, [.int (iI ln), .ref a1, .int (iI pl), .ref a3, .ref a4, .int (iI ri), .int (iI ld), .int (iI mn), .ref a8, .ref a9, .int (iI nn), .ref a11, .int (iI fn), .ref a13, .int (iI lm2_30), .ref a15, .ref a16, .ref a17, .ref a18, .ref a19, .ref a20])), (a13, .inl (G.2.1 0, 40, .inl (iA f))), (a15, .inl (G.2.1 0, 5000, .inl (iA g2_30))), (a16, .inl (G.2.1 0, 5000, .inl (iA h2_30))), (a17, .inl (G.2.1 0, 62, .inl (iA e1))), (a18, .inl (G.2.1 0, 2480, .inl (iA t1)))] H locs := hW
            refine z_if_ne (tgt := 39) C dX11_round_33 (by decide) (by omega) (fun c_33 => ?_) (fun c_33 => ?_)
            ·
              exact cut_39 lm2_30 g2_30 h2_30 (by rw [show s.toNat = (s - 1).toNat + 1 by omega]; exact ⟨_, _, hI, hz_30_0.elim (fun q => q.2) (fun q => absurd q.1 c_33)⟩) (Step1_m (hz_30_0.elim (fun q => q.2) (fun q => absurd q.1 c_33))) hz_30_1 hz_30_2 _ _ _ hW (lv_sub hl [0, 1, 2] rfl)
            ·
              refine lv_bipush (v := iI (-2)) C.1 C.2.1 dX11_round_36 (by decide +kernel) ?_
              rw [hQ]
              have hP9 : ∃ z : Int, (some (Value.int (iI (-2)))) = some (.int (iI z)) ∧ (0 ≤ w ∧ w ≤ 1 → RoundQ f fn w z) ∧ (¬ (0 ≤ w ∧ w ≤ 1) → z = -1) ∧ (BD g2_30) ∧ (BD h2_30) ∧ (BD e1) ∧ (BD t1) ∧ (0 ≤ lm2_30 ∧ lm2_30 ≤ 5000) := ⟨_, rfl, (fun _ => Or.inl ⟨fun u v u0 u1 u2 => if q : v < s then hNo u v u0 u1 q else (fun hal => by obtain ⟨x1, x2, x3, x4, y1, y2, y3, y4⟩ := hal; exact It1_no hI (hz_30_0.elim (fun y => absurd y.1 (by omega)) (fun y => y.2.elim (fun y => y.2) (fun y => absurd y.1 (by omega)))) (by omega) y2), rfl⟩), (fun q9 => by omega), hz_30_1, hz_30_2, he1, ht1, hz_30_3⟩
              exact z_iret C hr hlocks hW (lm2_30, g2_30, h2_30, e1, t1) rfl hP9 dX11_round_38
    exact cut_18 (((61 - 0) + 1 : Int)).toNat 0 fn g2_13 h0 e0 t0 (by first | omega | assumption | (intros; first | rfl | omega | assumption | (and_intros <;> first | rfl | omega | assumption))) (by exact ⟨rfl, hz_13_0⟩) hn hz_13_1 hh he0 ht0 (fun u u0 u1 => by omega) (fun u v u0 u1 u2 => by omega) (by omega) _ _ _ hW (lv_sub hl [0, 1, 2] rfl)
  ·
    refine lv_iconst (v := iI (-1)) C.1 C.2.1 dX11_round_10 rfl ?_
    rw [hQ]
    have hP9 : ∃ z : Int, (some (Value.int (iI (-1)))) = some (.int (iI z)) ∧ (0 ≤ w ∧ w ≤ 1 → RoundQ f fn w z) ∧ (¬ (0 ≤ w ∧ w ≤ 1) → z = -1) ∧ (BD g) ∧ (BD h0) ∧ (BD e0) ∧ (BD t0) ∧ (0 ≤ lm ∧ lm ≤ 5000) := ⟨_, rfl, (fun q9 => by omega), (by first | omega | assumption | (intros; first | rfl | omega | assumption | (and_intros <;> first | rfl | omega | assumption))), hg, hh, he0, ht0, hlm⟩
    exact z_iret C hr hlocks hW (lm, g, h0, e0, t0) rfl hP9 dX11_round_11
