theorem StepR_out {b : Int} {f g g' : Int → Int} {n m : Int} (hh : ∀ j, 0 ≤ j → j < m → g' j = g j) (h : StepR b f n g m) : StepR b f n g' m := by
  rcases h with ⟨h0, h1, h2⟩ | ⟨h0, t, h1, h2, h3, h4, h5⟩
  · refine Or.inl ⟨h0, h1, fun y y0 y1 => ⟨(h2 y y0 y1).1, fun hp => ?_⟩⟩
    have a := (h2 y y0 y1).2 hp
    have b1 := tc_b (f := f) (n := n) y0
    have b2 := tc_mono (f := f) (n := n) (x := y + 1) (y := 9) (by omega) (by omega)
    rw [tc_s y0, if_pos hp] at b2
    rw [hh _ (by omega) (by omega), hh _ (by omega) (by omega)]
    exact a
  · refine Or.inr ⟨h0, t, h1, h2, h3, fun k hk s e hs hsn hr => ?_, h5⟩
    have a := h4 k hk s e hs hsn hr
    rw [hh _ (by omega) (by omega), hh _ (by omega) (by omega)]
    exact a
set_option maxHeartbeats 4000000 in
set_option maxRecDepth 100000 in
/-- tells -/
theorem c_X11_tells (l : Launch) (G : GG) (x : Nat) (ln : Int) (a1 : Nat) (pl : Int) (a3 : Nat) (a4 : Nat) (ri : Int) (ld : Int) (mn : Int) (a8 : Nat) (a9 : Nat) (nn : Int) (a11 : Nat) (fn : Int) (a13 : Nat) (lm : Int) (a15 : Nat) (a16 : Nat) (a17 : Nat) (a18 : Nat) (a19 : Nat) (a20 : Nat) (g : Int → Int) (h0 : Int → Int) (b : Int) (hlm : 0 ≤ lm ∧ lm ≤ 5000) (hg : BD g) (hh : BD h0) (hb : -2147483648 ≤ b ∧ b ≤ 2147483647) : MQc l yX11_tells wsX11_tells 0 G [.ref x, .int (iI b)] [(x, .inr (9, [.int (iI ln), .ref a1, .int (iI pl), .ref a3, .ref a4, .int (iI ri), .int (iI ld), .int (iI mn), .ref a8, .ref a9, .int (iI nn), .ref a11, .int (iI fn), .ref a13, .int (iI lm), .ref a15, .ref a16, .ref a17, .ref a18, .ref a19, .ref a20])), (a15, .inl (G.2.1 0, 5000, .inl (iA g))), (a16, .inl (G.2.1 0, 5000, .inl (iA h0)))] (fun r (u : Int × (Int → Int) × (Int → Int)) => ∃ z : Int, r = some (.int (iI z)) ∧ ((z = 1 ∧ StepR b g lm u.2.1 u.1) ∨ (z = 0 ∧ StepB b g lm)) ∧ (BD u.2.1) ∧ (BD u.2.2) ∧ (0 ≤ u.1 ∧ u.1 ≤ 5000)) (fun u => [(x, .inr (9, [.int (iI ln), .ref a1, .int (iI pl), .ref a3, .ref a4, .int (iI ri), .int (iI ld), .int (iI mn), .ref a8, .ref a9, .int (iI nn), .ref a11, .int (iI fn), .ref a13, .int (iI u.1), .ref a15, .ref a16, .ref a17, .ref a18, .ref a19, .ref a20])), (a15, .inl (G.2.1 0, 5000, .inl (iA u.2.1))), (a16, .inl (G.2.1 0, 5000, .inl (iA u.2.2)))]) := by
  refine MQc.start (own := RX11) (by decide) rfl rfl (Nat.le_of_ble_eq_true rfl) ?_
  intro p9 e9 s9 m9 args below meth c9 A Q C hK hW hA hr hlocks hQ ls hl
  have hl : lv_has ls 6 [(0, .ref x), (1, .int (iI b))] := hl
  have hin11 : ∀ w ∈ wsX110, w ∈ wsX11_tells := by decide +kernel
  refine lv_iconst (v := iI 0) C.1 C.2.1 dX11_tells_0 rfl ?_
  refine lv_istore_n (lv' := [(2, .int (iI 0)), (0, .ref x), (1, .int (iI b))]) C.1 C.2.1 dX11_tells_1 rfl hl (by decide) rfl (fun ls hl => ?_)
  have cut_196 : ∀ (m : Int) (h1 : Int → Int), (StepR b g lm h1 m) → (0 ≤ m ∧ m ≤ 5000) → (BD h1) → ∀ (H : Heap) (locs : List Loc) (ls : Array Slot), Wd G A s9.heap [(x, .inr (9, [.int (iI ln), .ref a1, .int (iI pl), .ref a3, .ref a4, .int (iI ri), .int (iI ld), .int (iI mn), .ref a8, .ref a9, .int (iI nn), .ref a11, .int (iI fn), .ref a13, .int (iI lm), .ref a15, .ref a16, .ref a17, .ref a18, .ref a19, .ref a20])), (a15, .inl (G.2.1 0, 5000, .inl (iA g))), (a16, .inl (G.2.1 0, 5000, .inl (iA h1)))] H locs → lv_has ls 6 [(2, .int (iI m)), (0, .ref x), (1, .int (iI b))] → W p9 l e9 (rmL 0) s9 m9 args below meth c9 H locs 0 0 Q (F0 m9 196 ls []) := by
    intro m h1 hS hm hh1 H locs ls hW hl
    refine lv_aload_n C.1 C.2.1 dX11_tells_196 rfl (lv_at hl 1 rfl) ?_
    refine lv_iload_n C.1 C.2.1 dX11_tells_197 rfl (lv_at hl 0 rfl) ?_
    refine z_put C hK hW hin11 tyX11 tyX11_ok nmX11 0 rfl rfl 14 (by decide) (C.2.2.2.2 (.fieldLink RX11 144 "TellingRowsModel" "lineMany" "I") (List.mem_of_getElem? (i := 1) rfl)) (fun _ h9 => h9) rfl rfl rfl (Nat.le_of_ble_eq_true rfl) dX11_tells_198 (fun H locs hW => ?_)
    have hW : Wd G A s9.heap [(x, .inr (9, [.int (iI ln), .ref a1, .int (iI pl), .ref a3, .ref a4, .int (iI ri), .int (iI ld), .int (iI mn), .ref a8, .ref a9, .int (iI nn), .ref a11, .int (iI fn), .ref a13, .int (iI m), .ref a15, .ref a16, .ref a17, .ref a18, .ref a19, .ref a20])), (a15, .inl (G.2.1 0, 5000, .inl (iA g))), (a16, .inl (G.2.1 0, 5000, .inl (iA h1)))] H locs := hW
    refine lv_iconst (v := iI 0) C.1 C.2.1 dX11_tells_201 rfl ?_
    refine lv_istore_n (lv' := [(3, .int (iI 0)), (2, .int (iI m)), (0, .ref x), (1, .int (iI b))]) C.1 C.2.1 dX11_tells_202 rfl hl (by decide) rfl (fun ls hl => ?_)
    have cut_203 : ∀ (n9 : Nat) (i : Int) (g1 : Int → Int), (0 ≤ i ∧ i ≤ m) → (BD g1) → (∀ j, 0 ≤ j → j < i → g1 j = h1 j) → (m - i < (n9 : Int)) → ∀ (H : Heap) (locs : List Loc) (ls : Array Slot), Wd G A s9.heap [(x, .inr (9, [.int (iI ln), .ref a1, .int (iI pl), .ref a3, .ref a4, .int (iI ri), .int (iI ld), .int (iI mn), .ref a8, .ref a9, .int (iI nn), .ref a11, .int (iI fn), .ref a13, .int (iI m), .ref a15, .ref a16, .ref a17, .ref a18, .ref a19, .ref a20])), (a15, .inl (G.2.1 0, 5000, .inl (iA g1))), (a16, .inl (G.2.1 0, 5000, .inl (iA h1)))] H locs → lv_has ls 6 [(3, .int (iI i)), (2, .int (iI m)), (0, .ref x), (1, .int (iI b))] → W p9 l e9 (rmL 0) s9 m9 args below meth c9 H locs 0 0 Q (F0 m9 203 ls []) := by
      intro n9
      induction n9 with
      | zero => intro i g1 hi hg1 he hmu; intros; exfalso; omega
      | succ n9 ih_203 =>
        intro i g1 hi hg1 he hmu H locs ls hW hl
        refine lv_iload_n C.1 C.2.1 dX11_tells_203 rfl (lv_at hl 0 rfl) ?_
        refine lv_iload_n C.1 C.2.1 dX11_tells_204 rfl (lv_at hl 1 rfl) ?_
        refine z_icmp_ge (tgt := 226) C dX11_tells_205 (by decide) (by omega) (fun c_205 => ?_) (fun c_205 => ?_)
        ·
          refine lv_iconst (v := iI 1) C.1 C.2.1 dX11_tells_226 rfl ?_
          rw [hQ]
          have hP9 : ∃ z : Int, (some (Value.int (iI 1))) = some (.int (iI z)) ∧ ((z = 1 ∧ StepR b g lm g1 m) ∨ (z = 0 ∧ StepB b g lm)) ∧ (BD g1) ∧ (BD h1) ∧ (0 ≤ m ∧ m ≤ 5000) := ⟨_, rfl, (Or.inl ⟨rfl, StepR_out (fun j j0 j1 => he j j0 (by omega)) hS⟩), hg1, hh1, hm⟩
          exact z_zret C hr rfl hlocks hW (m, g1, h1) rfl hP9 dX11_tells_227
        ·
          refine lv_aload_n C.1 C.2.1 dX11_tells_208 rfl (lv_at hl 2 rfl) ?_
          refine z_get C hK hW hin11 (v := .ref a15) 0 rfl rfl 15 (by decide) (C.2.2.2.2 (.fieldLink RX11 37 "TellingRowsModel" "line" "[I") (List.mem_of_getElem? (i := 2) rfl)) (fun _ h9 => h9) rfl dX11_tells_209 ?_
          refine lv_iload_n C.1 C.2.1 dX11_tells_212 rfl (lv_at hl 0 rfl) ?_
          refine lv_aload_n C.1 C.2.1 dX11_tells_213 rfl (lv_at hl 2 rfl) ?_
          refine z_get C hK hW hin11 (v := .ref a16) 0 rfl rfl 16 (by decide) (C.2.2.2.2 (.fieldLink RX11 40 "TellingRowsModel" "other" "[I") (List.mem_of_getElem? (i := 3) rfl)) (fun _ h9 => h9) rfl dX11_tells_214 ?_
          refine lv_iload_n C.1 C.2.1 dX11_tells_217 rfl (lv_at hl 0 rfl) ?_
          refine z_iald C hK hW 2 rfl (by omega) (by omega) dX11_tells_218 ?_
          have hb_218 := hh1 i
          refine z_iast C hK hW 1 rfl (by omega) (by omega) dX11_tells_219 (fun H locs hW => ?_)
          have hbd_219 : BD (up g1 i (h1 i)) := BD.up hg1 (by omega)
          have hW : Wd G A s9.heap [(x, .inr (9, [.int (iI ln), .ref a1, .int (iI pl), .ref a3, .ref a4, .int (iI ri), .int (iI ld), .int (iI mn), .ref a8, .ref a9, .int (iI nn), .ref a11, .int (iI fn), .ref a13, .int (iI m), .ref a15, .ref a16, .ref a17, .ref a18, .ref a19, .ref a20])), (a15, .inl (G.2.1 0, 5000, .inl (iA (up g1 i (h1 i))))), (a16, .inl (G.2.1 0, 5000, .inl (iA h1)))] H locs := hW
          refine lv_iinc (v := iI (i + 1)) (lv' := [(3, .int (iI (i + 1))), (2, .int (iI m)), (0, .ref x), (1, .int (iI b))]) C.1 C.2.1 dX11_tells_220 hl (k := 0) rfl (iI_add _ _) (by decide) rfl (fun ls hl => ?_)
          refine lv_goto (tgt := 203) C.1 C.2.1 dX11_tells_223 (by decide) ?_
          exact ih_203 (i + 1) (up g1 i (h1 i)) (by first | omega | assumption | (intros; first | rfl | omega | assumption | (and_intros <;> first | rfl | omega | assumption))) hbd_219 (up_pre he rfl) (by omega) _ _ _ hW (lv_sub hl [0, 1, 2, 3] rfl)
    exact cut_203 (((m - 0) + 1 : Int)).toNat 0 g (by first | omega | assumption | (intros; first | rfl | omega | assumption | (and_intros <;> first | rfl | omega | assumption))) hg (fun j j0 j1 => by omega) (by omega) _ _ _ hW (lv_sub hl [0, 1, 2, 3] rfl)
  refine lv_iload_n C.1 C.2.1 dX11_tells_2 rfl (lv_at hl 2 rfl) ?_
  refine z_if_eq (tgt := 99) C dX11_tells_3 (by decide) (by omega) (fun c_3 => ?_) (fun c_3 => ?_)
  ·
    refine lv_iconst (v := iI 0) C.1 C.2.1 dX11_tells_99 rfl ?_
    refine lv_istore_n (lv' := [(3, .int (iI 0)), (2, .int (iI 0)), (0, .ref x), (1, .int (iI b))]) C.1 C.2.1 dX11_tells_100 rfl hl (by decide) rfl (fun ls hl => ?_)
    have cut_101 : ∀ (n9 : Nat) (s : Int) (m : Int) (h1 : Int → Int) (t : Nat), (0 ≤ s ∧ s ≤ lm) → (SayS g lm t s h1 m) → (BD h1) → (lm - s < (n9 : Int)) → ∀ (H : Heap) (locs : List Loc) (ls : Array Slot), Wd G A s9.heap [(x, .inr (9, [.int (iI ln), .ref a1, .int (iI pl), .ref a3, .ref a4, .int (iI ri), .int (iI ld), .int (iI mn), .ref a8, .ref a9, .int (iI nn), .ref a11, .int (iI fn), .ref a13, .int (iI lm), .ref a15, .ref a16, .ref a17, .ref a18, .ref a19, .ref a20])), (a15, .inl (G.2.1 0, 5000, .inl (iA g))), (a16, .inl (G.2.1 0, 5000, .inl (iA h1)))] H locs → lv_has ls 6 [(3, .int (iI s)), (2, .int (iI m)), (0, .ref x), (1, .int (iI b))] → W p9 l e9 (rmL 0) s9 m9 args below meth c9 H locs 0 0 Q (F0 m9 101 ls []) := by
      intro n9
      induction n9 with
      | zero => intro s m h1 t hs hI hh1 hmu; intros; exfalso; omega
      | succ n9 ih_101 =>
        intro s m h1 t hs hI hh1 hmu H locs ls hW hl
        have hm2 := hI.1
        have hm3 := hI.2.1
        refine lv_iload_n C.1 C.2.1 dX11_tells_101 rfl (lv_at hl 0 rfl) ?_
        refine lv_aload_n C.1 C.2.1 dX11_tells_102 rfl (lv_at hl 2 rfl) ?_
        refine z_get C hK hW hin11 (v := .int (iI lm)) 0 rfl rfl 14 (by decide) (C.2.2.2.2 (.fieldLink RX11 144 "TellingRowsModel" "lineMany" "I") (List.mem_of_getElem? (i := 1) rfl)) (fun _ h9 => h9) rfl dX11_tells_103 ?_
        refine z_icmp_ge (tgt := 196) C dX11_tells_106 (by decide) (by omega) (fun c_106 => ?_) (fun c_106 => ?_)
        ·
          exact cut_196 m h1 (Or.inr ⟨c_3, t, by rw [show s = lm by omega] at hI; exact hI⟩) (by have := hI.1; have := hI.2.1; omega) hh1 _ _ _ hW (lv_sub hl [1, 2, 3] rfl)
        ·
          refine lv_iload_n C.1 C.2.1 dX11_tells_109 rfl (lv_at hl 0 rfl) ?_
          refine lv_istore (lv' := [(4, .int (iI s)), (3, .int (iI s)), (2, .int (iI m)), (0, .ref x), (1, .int (iI b))]) C.1 C.2.1 dX11_tells_110 hl (by decide) rfl (fun ls hl => ?_)
          have cut_112 : ∀ (n9 : Nat) (e : Int), (s ≤ e ∧ e ≤ lm) → (∀ j, s ≤ j → j < e → g j = g s) → (lm - e < (n9 : Int)) → ∀ (H : Heap) (locs : List Loc) (ls : Array Slot), Wd G A s9.heap [(x, .inr (9, [.int (iI ln), .ref a1, .int (iI pl), .ref a3, .ref a4, .int (iI ri), .int (iI ld), .int (iI mn), .ref a8, .ref a9, .int (iI nn), .ref a11, .int (iI fn), .ref a13, .int (iI lm), .ref a15, .ref a16, .ref a17, .ref a18, .ref a19, .ref a20])), (a15, .inl (G.2.1 0, 5000, .inl (iA g))), (a16, .inl (G.2.1 0, 5000, .inl (iA h1)))] H locs → lv_has ls 6 [(4, .int (iI e)), (3, .int (iI s)), (2, .int (iI m)), (0, .ref x), (1, .int (iI b))] → W p9 l e9 (rmL 0) s9 m9 args below meth c9 H locs 0 0 Q (F0 m9 112 ls []) := by
            intro n9
            induction n9 with
            | zero => intro e he hr9 hmu; intros; exfalso; omega
            | succ n9 ih_112 =>
              intro e he hr9 hmu H locs ls hW hl
              refine lv_iload C.1 C.2.1 dX11_tells_112 (lv_at hl 0 rfl) ?_
              refine lv_aload_n C.1 C.2.1 dX11_tells_114 rfl (lv_at hl 3 rfl) ?_
              refine z_get C hK hW hin11 (v := .int (iI lm)) 0 rfl rfl 14 (by decide) (C.2.2.2.2 (.fieldLink RX11 144 "TellingRowsModel" "lineMany" "I") (List.mem_of_getElem? (i := 1) rfl)) (fun _ h9 => h9) rfl dX11_tells_115 ?_
              refine z_icmp_ge (tgt := 143) C dX11_tells_118 (by decide) (by omega) (fun c_118 => ?_) (fun c_118 => ?_)
              ·
                have hRE : RunE g s lm e := ⟨(Int.lt_or_le s e).elim id (fun q => by first | omega | exact absurd (by rw [show e = s by omega]) c_134), by omega, hr9, fun q => by first | omega | exact c_134⟩
                have hse : s < e := hRE.1
                refine lv_iload C.1 C.2.1 dX11_tells_143 (lv_at hl 0 rfl) ?_
                refine lv_iload_n C.1 C.2.1 dX11_tells_145 rfl (lv_at hl 1 rfl) ?_
                refine z_isub C dX11_tells_146 ?_
                refine lv_bipush (v := iI 9) C.1 C.2.1 dX11_tells_147 (by decide +kernel) ?_
                refine z_icmp_gt (tgt := 161) C dX11_tells_149 (by decide) (by omega) (fun c_149 => ?_) (fun c_149 => ?_)
                ·
                  refine lv_iconst (v := iI 0) C.1 C.2.1 dX11_tells_161 rfl ?_
                  rw [hQ]
                  have hP9 : ∃ z : Int, (some (Value.int (iI 0))) = some (.int (iI z)) ∧ ((z = 1 ∧ StepR b g lm g lm) ∨ (z = 0 ∧ StepB b g lm)) ∧ (BD g) ∧ (BD h1) ∧ (0 ≤ lm ∧ lm ≤ 5000) := ⟨_, rfl, (Or.inr ⟨rfl, Or.inr ⟨c_3, SayS_b hI (by omega) hRE (by first | exact Or.inl (by omega) | exact Or.inr (by omega))⟩⟩), hg, hh1, hlm⟩
                  exact z_zret C hr rfl hlocks hW (lm, g, h1) rfl hP9 dX11_tells_162
                ·
                  refine lv_iload_n C.1 C.2.1 dX11_tells_152 rfl (lv_at hl 2 rfl) ?_
                  refine lv_iconst (v := iI 2) C.1 C.2.1 dX11_tells_153 rfl ?_
                  refine z_iadd C dX11_tells_154 ?_
                  refine lv_sipush (v := iI 5000) C.1 C.2.1 dX11_tells_155 (by decide +kernel) ?_
                  refine z_icmp_le (tgt := 163) C dX11_tells_158 (by decide) (by omega) (fun c_158 => ?_) (fun c_158 => ?_)
                  ·
                    refine lv_aload_n C.1 C.2.1 dX11_tells_163 rfl (lv_at hl 3 rfl) ?_
                    refine z_get C hK hW hin11 (v := .ref a16) 0 rfl rfl 16 (by decide) (C.2.2.2.2 (.fieldLink RX11 40 "TellingRowsModel" "other" "[I") (List.mem_of_getElem? (i := 3) rfl)) (fun _ h9 => h9) rfl dX11_tells_164 ?_
                    refine lv_iload_n C.1 C.2.1 dX11_tells_167 rfl (lv_at hl 2 rfl) ?_
                    refine lv_iload C.1 C.2.1 dX11_tells_168 (lv_at hl 0 rfl) ?_
                    refine lv_iload_n C.1 C.2.1 dX11_tells_170 rfl (lv_at hl 1 rfl) ?_
                    refine z_isub C dX11_tells_171 ?_
                    refine z_iast C hK hW 2 rfl (by omega) (by omega) dX11_tells_172 (fun H locs hW => ?_)
                    have hbd_172 : BD (up h1 m (e - s)) := BD.up hh1 (by omega)
                    have hW : Wd G A s9.heap [(x, .inr (9, [.int (iI ln), .ref a1, .int (iI pl), .ref a3, .ref a4, .int (iI ri), .int (iI ld), .int (iI mn), .ref a8, .ref a9, .int (iI nn), .ref a11, .int (iI fn), .ref a13, .int (iI lm), .ref a15, .ref a16, .ref a17, .ref a18, .ref a19, .ref a20])), (a15, .inl (G.2.1 0, 5000, .inl (iA g))), (a16, .inl (G.2.1 0, 5000, .inl (iA (up h1 m (e - s)))))] H locs := hW
                    refine lv_aload_n C.1 C.2.1 dX11_tells_173 rfl (lv_at hl 3 rfl) ?_
                    refine z_get C hK hW hin11 (v := .ref a16) 0 rfl rfl 16 (by decide) (C.2.2.2.2 (.fieldLink RX11 40 "TellingRowsModel" "other" "[I") (List.mem_of_getElem? (i := 3) rfl)) (fun _ h9 => h9) rfl dX11_tells_174 ?_
                    refine lv_iload_n C.1 C.2.1 dX11_tells_177 rfl (lv_at hl 2 rfl) ?_
                    refine lv_iconst (v := iI 1) C.1 C.2.1 dX11_tells_178 rfl ?_
                    refine z_iadd C dX11_tells_179 ?_
                    refine lv_aload_n C.1 C.2.1 dX11_tells_180 rfl (lv_at hl 3 rfl) ?_
                    refine z_get C hK hW hin11 (v := .ref a15) 0 rfl rfl 15 (by decide) (C.2.2.2.2 (.fieldLink RX11 37 "TellingRowsModel" "line" "[I") (List.mem_of_getElem? (i := 2) rfl)) (fun _ h9 => h9) rfl dX11_tells_181 ?_
                    refine lv_iload_n C.1 C.2.1 dX11_tells_184 rfl (lv_at hl 1 rfl) ?_
                    refine z_iald C hK hW 1 rfl (by omega) (by omega) dX11_tells_185 ?_
                    have hb_185 := hg s
                    refine z_iast C hK hW 2 rfl (by omega) (by omega) dX11_tells_186 (fun H locs hW => ?_)
                    have hbd_186 : BD (up (up h1 m (e - s)) (m + 1) (g s)) := BD.up hbd_172 (by omega)
                    have hW : Wd G A s9.heap [(x, .inr (9, [.int (iI ln), .ref a1, .int (iI pl), .ref a3, .ref a4, .int (iI ri), .int (iI ld), .int (iI mn), .ref a8, .ref a9, .int (iI nn), .ref a11, .int (iI fn), .ref a13, .int (iI lm), .ref a15, .ref a16, .ref a17, .ref a18, .ref a19, .ref a20])), (a15, .inl (G.2.1 0, 5000, .inl (iA g))), (a16, .inl (G.2.1 0, 5000, .inl (iA (up (up h1 m (e - s)) (m + 1) (g s)))))] H locs := hW
                    refine lv_iinc (v := iI (m + 2)) (lv' := [(2, .int (iI (m + 2))), (4, .int (iI e)), (3, .int (iI s)), (0, .ref x), (1, .int (iI b))]) C.1 C.2.1 dX11_tells_187 hl (k := 2) rfl (iI_add _ _) (by decide) rfl (fun ls hl => ?_)
                    refine lv_iload C.1 C.2.1 dX11_tells_190 (lv_at hl 1 rfl) ?_
                    refine lv_istore_n (lv' := [(3, .int (iI e)), (2, .int (iI (m + 2))), (4, .int (iI e)), (0, .ref x), (1, .int (iI b))]) C.1 C.2.1 dX11_tells_192 rfl hl (by decide) rfl (fun ls hl => ?_)
                    refine lv_goto (tgt := 101) C.1 C.2.1 dX11_tells_193 (by decide) ?_
                    exact ih_101 e (m + 2) (up (up h1 m (e - s)) (m + 1) (g s)) (t + 1) (by first | omega | assumption | (intros; first | rfl | omega | assumption | (and_intros <;> first | rfl | omega | assumption))) (SayS_s hI (by omega) hRE (by omega) (by omega)) hbd_186 (by omega) _ _ _ hW (lv_sub hl [0, 1, 3, 4] rfl)
                  ·
                    refine lv_iconst (v := iI 0) C.1 C.2.1 dX11_tells_161 rfl ?_
                    rw [hQ]
                    have hP9 : ∃ z : Int, (some (Value.int (iI 0))) = some (.int (iI z)) ∧ ((z = 1 ∧ StepR b g lm g lm) ∨ (z = 0 ∧ StepB b g lm)) ∧ (BD g) ∧ (BD h1) ∧ (0 ≤ lm ∧ lm ≤ 5000) := ⟨_, rfl, (Or.inr ⟨rfl, Or.inr ⟨c_3, SayS_b hI (by omega) hRE (by first | exact Or.inl (by omega) | exact Or.inr (by omega))⟩⟩), hg, hh1, hlm⟩
                    exact z_zret C hr rfl hlocks hW (lm, g, h1) rfl hP9 dX11_tells_162
              ·
                refine lv_aload_n C.1 C.2.1 dX11_tells_121 rfl (lv_at hl 3 rfl) ?_
                refine z_get C hK hW hin11 (v := .ref a15) 0 rfl rfl 15 (by decide) (C.2.2.2.2 (.fieldLink RX11 37 "TellingRowsModel" "line" "[I") (List.mem_of_getElem? (i := 2) rfl)) (fun _ h9 => h9) rfl dX11_tells_122 ?_
                refine lv_iload C.1 C.2.1 dX11_tells_125 (lv_at hl 0 rfl) ?_
                refine z_iald C hK hW 1 rfl (by omega) (by omega) dX11_tells_127 ?_
                have hb_127 := hg e
                refine lv_aload_n C.1 C.2.1 dX11_tells_128 rfl (lv_at hl 3 rfl) ?_
                refine z_get C hK hW hin11 (v := .ref a15) 0 rfl rfl 15 (by decide) (C.2.2.2.2 (.fieldLink RX11 37 "TellingRowsModel" "line" "[I") (List.mem_of_getElem? (i := 2) rfl)) (fun _ h9 => h9) rfl dX11_tells_129 ?_
                refine lv_iload_n C.1 C.2.1 dX11_tells_132 rfl (lv_at hl 1 rfl) ?_
                refine z_iald C hK hW 1 rfl (by omega) (by omega) dX11_tells_133 ?_
                have hb_133 := hg s
                refine z_icmp_ne (tgt := 143) C dX11_tells_134 (by decide) (by omega) (fun c_134 => ?_) (fun c_134 => ?_)
                ·
                  have hRE : RunE g s lm e := ⟨(Int.lt_or_le s e).elim id (fun q => by first | omega | exact absurd (by rw [show e = s by omega]) c_134), by omega, hr9, fun q => by first | omega | exact c_134⟩
                  have hse : s < e := hRE.1
                  refine lv_iload C.1 C.2.1 dX11_tells_143 (lv_at hl 0 rfl) ?_
                  refine lv_iload_n C.1 C.2.1 dX11_tells_145 rfl (lv_at hl 1 rfl) ?_
                  refine z_isub C dX11_tells_146 ?_
                  refine lv_bipush (v := iI 9) C.1 C.2.1 dX11_tells_147 (by decide +kernel) ?_
                  refine z_icmp_gt (tgt := 161) C dX11_tells_149 (by decide) (by omega) (fun c_149 => ?_) (fun c_149 => ?_)
                  ·
                    refine lv_iconst (v := iI 0) C.1 C.2.1 dX11_tells_161 rfl ?_
                    rw [hQ]
                    have hP9 : ∃ z : Int, (some (Value.int (iI 0))) = some (.int (iI z)) ∧ ((z = 1 ∧ StepR b g lm g lm) ∨ (z = 0 ∧ StepB b g lm)) ∧ (BD g) ∧ (BD h1) ∧ (0 ≤ lm ∧ lm ≤ 5000) := ⟨_, rfl, (Or.inr ⟨rfl, Or.inr ⟨c_3, SayS_b hI (by omega) hRE (by first | exact Or.inl (by omega) | exact Or.inr (by omega))⟩⟩), hg, hh1, hlm⟩
                    exact z_zret C hr rfl hlocks hW (lm, g, h1) rfl hP9 dX11_tells_162
                  ·
                    refine lv_iload_n C.1 C.2.1 dX11_tells_152 rfl (lv_at hl 2 rfl) ?_
                    refine lv_iconst (v := iI 2) C.1 C.2.1 dX11_tells_153 rfl ?_
                    refine z_iadd C dX11_tells_154 ?_
                    refine lv_sipush (v := iI 5000) C.1 C.2.1 dX11_tells_155 (by decide +kernel) ?_
                    refine z_icmp_le (tgt := 163) C dX11_tells_158 (by decide) (by omega) (fun c_158 => ?_) (fun c_158 => ?_)
                    ·
                      refine lv_aload_n C.1 C.2.1 dX11_tells_163 rfl (lv_at hl 3 rfl) ?_
                      refine z_get C hK hW hin11 (v := .ref a16) 0 rfl rfl 16 (by decide) (C.2.2.2.2 (.fieldLink RX11 40 "TellingRowsModel" "other" "[I") (List.mem_of_getElem? (i := 3) rfl)) (fun _ h9 => h9) rfl dX11_tells_164 ?_
                      refine lv_iload_n C.1 C.2.1 dX11_tells_167 rfl (lv_at hl 2 rfl) ?_
                      refine lv_iload C.1 C.2.1 dX11_tells_168 (lv_at hl 0 rfl) ?_
                      refine lv_iload_n C.1 C.2.1 dX11_tells_170 rfl (lv_at hl 1 rfl) ?_
                      refine z_isub C dX11_tells_171 ?_
                      refine z_iast C hK hW 2 rfl (by omega) (by omega) dX11_tells_172 (fun H locs hW => ?_)
                      have hbd_172 : BD (up h1 m (e - s)) := BD.up hh1 (by omega)
                      have hW : Wd G A s9.heap [(x, .inr (9, [.int (iI ln), .ref a1, .int (iI pl), .ref a3, .ref a4, .int (iI ri), .int (iI ld), .int (iI mn), .ref a8, .ref a9, .int (iI nn), .ref a11, .int (iI fn), .ref a13, .int (iI lm), .ref a15, .ref a16, .ref a17, .ref a18, .ref a19, .ref a20])), (a15, .inl (G.2.1 0, 5000, .inl (iA g))), (a16, .inl (G.2.1 0, 5000, .inl (iA (up h1 m (e - s)))))] H locs := hW
                      refine lv_aload_n C.1 C.2.1 dX11_tells_173 rfl (lv_at hl 3 rfl) ?_
                      refine z_get C hK hW hin11 (v := .ref a16) 0 rfl rfl 16 (by decide) (C.2.2.2.2 (.fieldLink RX11 40 "TellingRowsModel" "other" "[I") (List.mem_of_getElem? (i := 3) rfl)) (fun _ h9 => h9) rfl dX11_tells_174 ?_
                      refine lv_iload_n C.1 C.2.1 dX11_tells_177 rfl (lv_at hl 2 rfl) ?_
                      refine lv_iconst (v := iI 1) C.1 C.2.1 dX11_tells_178 rfl ?_
                      refine z_iadd C dX11_tells_179 ?_
                      refine lv_aload_n C.1 C.2.1 dX11_tells_180 rfl (lv_at hl 3 rfl) ?_
                      refine z_get C hK hW hin11 (v := .ref a15) 0 rfl rfl 15 (by decide) (C.2.2.2.2 (.fieldLink RX11 37 "TellingRowsModel" "line" "[I") (List.mem_of_getElem? (i := 2) rfl)) (fun _ h9 => h9) rfl dX11_tells_181 ?_
                      refine lv_iload_n C.1 C.2.1 dX11_tells_184 rfl (lv_at hl 1 rfl) ?_
                      refine z_iald C hK hW 1 rfl (by omega) (by omega) dX11_tells_185 ?_
                      have hb_185 := hg s
                      refine z_iast C hK hW 2 rfl (by omega) (by omega) dX11_tells_186 (fun H locs hW => ?_)
                      have hbd_186 : BD (up (up h1 m (e - s)) (m + 1) (g s)) := BD.up hbd_172 (by omega)
                      have hW : Wd G A s9.heap [(x, .inr (9, [.int (iI ln), .ref a1, .int (iI pl), .ref a3, .ref a4, .int (iI ri), .int (iI ld), .int (iI mn), .ref a8, .ref a9, .int (iI nn), .ref a11, .int (iI fn), .ref a13, .int (iI lm), .ref a15, .ref a16, .ref a17, .ref a18, .ref a19, .ref a20])), (a15, .inl (G.2.1 0, 5000, .inl (iA g))), (a16, .inl (G.2.1 0, 5000, .inl (iA (up (up h1 m (e - s)) (m + 1) (g s)))))] H locs := hW
                      refine lv_iinc (v := iI (m + 2)) (lv' := [(2, .int (iI (m + 2))), (4, .int (iI e)), (3, .int (iI s)), (0, .ref x), (1, .int (iI b))]) C.1 C.2.1 dX11_tells_187 hl (k := 2) rfl (iI_add _ _) (by decide) rfl (fun ls hl => ?_)
                      refine lv_iload C.1 C.2.1 dX11_tells_190 (lv_at hl 1 rfl) ?_
                      refine lv_istore_n (lv' := [(3, .int (iI e)), (2, .int (iI (m + 2))), (4, .int (iI e)), (0, .ref x), (1, .int (iI b))]) C.1 C.2.1 dX11_tells_192 rfl hl (by decide) rfl (fun ls hl => ?_)
                      refine lv_goto (tgt := 101) C.1 C.2.1 dX11_tells_193 (by decide) ?_
                      exact ih_101 e (m + 2) (up (up h1 m (e - s)) (m + 1) (g s)) (t + 1) (by first | omega | assumption | (intros; first | rfl | omega | assumption | (and_intros <;> first | rfl | omega | assumption))) (SayS_s hI (by omega) hRE (by omega) (by omega)) hbd_186 (by omega) _ _ _ hW (lv_sub hl [0, 1, 3, 4] rfl)
                    ·
                      refine lv_iconst (v := iI 0) C.1 C.2.1 dX11_tells_161 rfl ?_
                      rw [hQ]
                      have hP9 : ∃ z : Int, (some (Value.int (iI 0))) = some (.int (iI z)) ∧ ((z = 1 ∧ StepR b g lm g lm) ∨ (z = 0 ∧ StepB b g lm)) ∧ (BD g) ∧ (BD h1) ∧ (0 ≤ lm ∧ lm ≤ 5000) := ⟨_, rfl, (Or.inr ⟨rfl, Or.inr ⟨c_3, SayS_b hI (by omega) hRE (by first | exact Or.inl (by omega) | exact Or.inr (by omega))⟩⟩), hg, hh1, hlm⟩
                      exact z_zret C hr rfl hlocks hW (lm, g, h1) rfl hP9 dX11_tells_162
                ·
                  refine lv_iinc (v := iI (e + 1)) (lv' := [(4, .int (iI (e + 1))), (3, .int (iI s)), (2, .int (iI m)), (0, .ref x), (1, .int (iI b))]) C.1 C.2.1 dX11_tells_137 hl (k := 0) rfl (iI_add _ _) (by decide) rfl (fun ls hl => ?_)
                  refine lv_goto (tgt := 112) C.1 C.2.1 dX11_tells_140 (by decide) ?_
                  exact ih_112 (e + 1) (by first | omega | assumption | (intros; first | rfl | omega | assumption | (and_intros <;> first | rfl | omega | assumption))) (fun j j0 j1 => if q : j = e then (by rw [q]; exact c_134) else hr9 j j0 (by omega)) (by omega) _ _ _ hW (lv_sub hl [0, 1, 2, 3, 4] rfl)
          exact cut_112 (((lm - s) + 1 : Int)).toNat s (by first | omega | assumption | (intros; first | rfl | omega | assumption | (and_intros <;> first | rfl | omega | assumption))) (fun j j0 j1 => by omega) (by omega) _ _ _ hW (lv_sub hl [0, 1, 2, 3, 4] rfl)
    exact cut_101 (((lm - 0) + 1 : Int)).toNat 0 0 h0 0 (by first | omega | assumption | (intros; first | rfl | omega | assumption | (and_intros <;> first | rfl | omega | assumption))) (SayS_0 (by omega)) hh (by omega) _ _ _ hW (lv_sub hl [0, 1, 2, 3] rfl)
  ·
    refine lv_iconst (v := iI 1) C.1 C.2.1 dX11_tells_6 rfl ?_
    refine lv_istore_n (lv' := [(3, .int (iI 1)), (2, .int (iI 0)), (0, .ref x), (1, .int (iI b))]) C.1 C.2.1 dX11_tells_7 rfl hl (by decide) rfl (fun ls hl => ?_)
    have cut_8 : ∀ (n9 : Nat) (d : Int) (m : Int) (h1 : Int → Int), (1 ≤ d ∧ d ≤ 10) → (TalS g lm (d - 1) h1 m) → (BD h1) → (10 - d < (n9 : Int)) → ∀ (H : Heap) (locs : List Loc) (ls : Array Slot), Wd G A s9.heap [(x, .inr (9, [.int (iI ln), .ref a1, .int (iI pl), .ref a3, .ref a4, .int (iI ri), .int (iI ld), .int (iI mn), .ref a8, .ref a9, .int (iI nn), .ref a11, .int (iI fn), .ref a13, .int (iI lm), .ref a15, .ref a16, .ref a17, .ref a18, .ref a19, .ref a20])), (a15, .inl (G.2.1 0, 5000, .inl (iA g))), (a16, .inl (G.2.1 0, 5000, .inl (iA h1)))] H locs → lv_has ls 6 [(3, .int (iI d)), (2, .int (iI m)), (0, .ref x), (1, .int (iI b))] → W p9 l e9 (rmL 0) s9 m9 args below meth c9 H locs 0 0 Q (F0 m9 8 ls []) := by
      intro n9
      induction n9 with
      | zero => intro d m h1 hd hI hh1 hmu; intros; exfalso; omega
      | succ n9 ih_8 =>
        intro d m h1 hd hI hh1 hmu H locs ls hW hl
        have hM := TalS_m hI (by omega)
        refine lv_iload_n C.1 C.2.1 dX11_tells_8 rfl (lv_at hl 0 rfl) ?_
        refine lv_bipush (v := iI 10) C.1 C.2.1 dX11_tells_9 (by decide +kernel) ?_
        refine z_icmp_ge (tgt := 96) C dX11_tells_11 (by decide) (by omega) (fun c_11 => ?_) (fun c_11 => ?_)
        ·
          refine lv_goto (tgt := 196) C.1 C.2.1 dX11_tells_96 (by decide) ?_
          exact cut_196 m h1 (Or.inl ⟨c_3, by rw [show d - 1 = 9 by omega] at hI; exact hI⟩) (by first | omega | assumption | (intros; first | rfl | omega | assumption | (and_intros <;> first | rfl | omega | assumption))) hh1 _ _ _ hW (lv_sub hl [1, 2, 3] rfl)
        ·
          refine lv_iconst (v := iI 0) C.1 C.2.1 dX11_tells_14 rfl ?_
          refine lv_istore (lv' := [(4, .int (iI 0)), (3, .int (iI d)), (2, .int (iI m)), (0, .ref x), (1, .int (iI b))]) C.1 C.2.1 dX11_tells_15 hl (by decide) rfl (fun ls hl => ?_)
          refine lv_iconst (v := iI 0) C.1 C.2.1 dX11_tells_17 rfl ?_
          refine lv_istore (lv' := [(5, .int (iI 0)), (4, .int (iI 0)), (3, .int (iI d)), (2, .int (iI m)), (0, .ref x), (1, .int (iI b))]) C.1 C.2.1 dX11_tells_18 hl (by decide) rfl (fun ls hl => ?_)
          have cut_20 : ∀ (n9 : Nat) (k : Int) (i : Int), (0 ≤ i ∧ i ≤ lm) → (k = oc g d i) → (lm - i < (n9 : Int)) → ∀ (H : Heap) (locs : List Loc) (ls : Array Slot), Wd G A s9.heap [(x, .inr (9, [.int (iI ln), .ref a1, .int (iI pl), .ref a3, .ref a4, .int (iI ri), .int (iI ld), .int (iI mn), .ref a8, .ref a9, .int (iI nn), .ref a11, .int (iI fn), .ref a13, .int (iI lm), .ref a15, .ref a16, .ref a17, .ref a18, .ref a19, .ref a20])), (a15, .inl (G.2.1 0, 5000, .inl (iA g))), (a16, .inl (G.2.1 0, 5000, .inl (iA h1)))] H locs → lv_has ls 6 [(5, .int (iI i)), (4, .int (iI k)), (3, .int (iI d)), (2, .int (iI m)), (0, .ref x), (1, .int (iI b))] → W p9 l e9 (rmL 0) s9 m9 args below meth c9 H locs 0 0 Q (F0 m9 20 ls []) := by
            intro n9
            induction n9 with
            | zero => intro k i hi hk hmu; intros; exfalso; omega
            | succ n9 ih_20 =>
              intro k i hi hk hmu H locs ls hW hl
              have hkb := oc_b (g := g) (v := d) hi.1
              refine lv_iload C.1 C.2.1 dX11_tells_20 (lv_at hl 0 rfl) ?_
              refine lv_aload_n C.1 C.2.1 dX11_tells_22 rfl (lv_at hl 4 rfl) ?_
              refine z_get C hK hW hin11 (v := .int (iI lm)) 0 rfl rfl 14 (by decide) (C.2.2.2.2 (.fieldLink RX11 144 "TellingRowsModel" "lineMany" "I") (List.mem_of_getElem? (i := 1) rfl)) (fun _ h9 => h9) rfl dX11_tells_23 ?_
              refine z_icmp_ge (tgt := 56) C dX11_tells_26 (by decide) (by omega) (fun c_26 => ?_) (fun c_26 => ?_)
              ·
                refine lv_iload C.1 C.2.1 dX11_tells_56 (lv_at hl 1 rfl) ?_
                refine lv_bipush (v := iI 9) C.1 C.2.1 dX11_tells_58 (by decide +kernel) ?_
                refine z_icmp_le (tgt := 65) C dX11_tells_60 (by decide) (by omega) (fun c_60 => ?_) (fun c_60 => ?_)
                ·
                  refine lv_iload C.1 C.2.1 dX11_tells_65 (lv_at hl 1 rfl) ?_
                  refine z_if_le (tgt := 90) C dX11_tells_67 (by decide) (by omega) (fun c_67 => ?_) (fun c_67 => ?_)
                  ·
                    refine lv_iinc (v := iI (d + 1)) (lv' := [(3, .int (iI (d + 1))), (5, .int (iI i)), (4, .int (iI k)), (2, .int (iI m)), (0, .ref x), (1, .int (iI b))]) C.1 C.2.1 dX11_tells_90 hl (k := 2) rfl (iI_add _ _) (by decide) rfl (fun ls hl => ?_)
                    refine lv_goto (tgt := 8) C.1 C.2.1 dX11_tells_93 (by decide) ?_
                    exact ih_8 (d + 1) m h1 (by first | omega | assumption | (intros; first | rfl | omega | assumption | (and_intros <;> first | rfl | omega | assumption))) (by first | (have h9 := TalS_z hI (by omega) (by rw [show d - 1 + 1 = d by omega, show lm = i by omega, ← hk]; omega); rw [show d + 1 - 1 = d - 1 + 1 by omega]; exact h9) | (have h9 := TalS_s hI (c := k) (by omega) (by rw [hk, show d - 1 + 1 = d by omega]; congr 1; omega) (by omega) (by omega); rw [show d - 1 + 1 = d by omega] at h9; rw [show d + 1 - 1 = d by omega]; exact h9)) hh1 (by omega) _ _ _ hW (lv_sub hl [0, 3, 4, 5] rfl)
                  ·
                    refine lv_aload_n C.1 C.2.1 dX11_tells_70 rfl (lv_at hl 4 rfl) ?_
                    refine z_get C hK hW hin11 (v := .ref a16) 0 rfl rfl 16 (by decide) (C.2.2.2.2 (.fieldLink RX11 40 "TellingRowsModel" "other" "[I") (List.mem_of_getElem? (i := 3) rfl)) (fun _ h9 => h9) rfl dX11_tells_71 ?_
                    refine lv_iload_n C.1 C.2.1 dX11_tells_74 rfl (lv_at hl 3 rfl) ?_
                    refine lv_iload C.1 C.2.1 dX11_tells_75 (lv_at hl 1 rfl) ?_
                    refine z_iast C hK hW 2 rfl (by omega) (by omega) dX11_tells_77 (fun H locs hW => ?_)
                    have hbd_77 : BD (up h1 m k) := BD.up hh1 (by omega)
                    have hW : Wd G A s9.heap [(x, .inr (9, [.int (iI ln), .ref a1, .int (iI pl), .ref a3, .ref a4, .int (iI ri), .int (iI ld), .int (iI mn), .ref a8, .ref a9, .int (iI nn), .ref a11, .int (iI fn), .ref a13, .int (iI lm), .ref a15, .ref a16, .ref a17, .ref a18, .ref a19, .ref a20])), (a15, .inl (G.2.1 0, 5000, .inl (iA g))), (a16, .inl (G.2.1 0, 5000, .inl (iA (up h1 m k))))] H locs := hW
                    refine lv_aload_n C.1 C.2.1 dX11_tells_78 rfl (lv_at hl 4 rfl) ?_
                    refine z_get C hK hW hin11 (v := .ref a16) 0 rfl rfl 16 (by decide) (C.2.2.2.2 (.fieldLink RX11 40 "TellingRowsModel" "other" "[I") (List.mem_of_getElem? (i := 3) rfl)) (fun _ h9 => h9) rfl dX11_tells_79 ?_
                    refine lv_iload_n C.1 C.2.1 dX11_tells_82 rfl (lv_at hl 3 rfl) ?_
                    refine lv_iconst (v := iI 1) C.1 C.2.1 dX11_tells_83 rfl ?_
                    refine z_iadd C dX11_tells_84 ?_
                    refine lv_iload_n C.1 C.2.1 dX11_tells_85 rfl (lv_at hl 2 rfl) ?_
                    refine z_iast C hK hW 2 rfl (by omega) (by omega) dX11_tells_86 (fun H locs hW => ?_)
                    have hbd_86 : BD (up (up h1 m k) (m + 1) d) := BD.up hbd_77 (by omega)
                    have hW : Wd G A s9.heap [(x, .inr (9, [.int (iI ln), .ref a1, .int (iI pl), .ref a3, .ref a4, .int (iI ri), .int (iI ld), .int (iI mn), .ref a8, .ref a9, .int (iI nn), .ref a11, .int (iI fn), .ref a13, .int (iI lm), .ref a15, .ref a16, .ref a17, .ref a18, .ref a19, .ref a20])), (a15, .inl (G.2.1 0, 5000, .inl (iA g))), (a16, .inl (G.2.1 0, 5000, .inl (iA (up (up h1 m k) (m + 1) d))))] H locs := hW
                    refine lv_iinc (v := iI (m + 2)) (lv' := [(2, .int (iI (m + 2))), (5, .int (iI i)), (4, .int (iI k)), (3, .int (iI d)), (0, .ref x), (1, .int (iI b))]) C.1 C.2.1 dX11_tells_87 hl (k := 3) rfl (iI_add _ _) (by decide) rfl (fun ls hl => ?_)
                    refine lv_iinc (v := iI (d + 1)) (lv' := [(3, .int (iI (d + 1))), (2, .int (iI (m + 2))), (5, .int (iI i)), (4, .int (iI k)), (0, .ref x), (1, .int (iI b))]) C.1 C.2.1 dX11_tells_90 hl (k := 3) rfl (iI_add _ _) (by decide) rfl (fun ls hl => ?_)
                    refine lv_goto (tgt := 8) C.1 C.2.1 dX11_tells_93 (by decide) ?_
                    exact ih_8 (d + 1) (m + 2) (up (up h1 m k) (m + 1) d) (by first | omega | assumption | (intros; first | rfl | omega | assumption | (and_intros <;> first | rfl | omega | assumption))) (by first | (have h9 := TalS_z hI (by omega) (by rw [show d - 1 + 1 = d by omega, show lm = i by omega, ← hk]; omega); rw [show d + 1 - 1 = d - 1 + 1 by omega]; exact h9) | (have h9 := TalS_s hI (c := k) (by omega) (by rw [hk, show d - 1 + 1 = d by omega]; congr 1; omega) (by omega) (by omega); rw [show d - 1 + 1 = d by omega] at h9; rw [show d + 1 - 1 = d by omega]; exact h9)) hbd_86 (by omega) _ _ _ hW (lv_sub hl [0, 1, 4, 5] rfl)
                ·
                  refine lv_iconst (v := iI 0) C.1 C.2.1 dX11_tells_63 rfl ?_
                  rw [hQ]
                  have hP9 : ∃ z : Int, (some (Value.int (iI 0))) = some (.int (iI z)) ∧ ((z = 1 ∧ StepR b g lm g lm) ∨ (z = 0 ∧ StepB b g lm)) ∧ (BD g) ∧ (BD h1) ∧ (0 ≤ lm ∧ lm ≤ 5000) := ⟨_, rfl, (Or.inr ⟨rfl, Or.inl ⟨c_3, d - 1, by omega, by omega, by rw [show d - 1 + 1 = d by omega, show lm = i by omega]; omega⟩⟩), hg, hh1, hlm⟩
                  exact z_zret C hr rfl hlocks hW (lm, g, h1) rfl hP9 dX11_tells_64
              ·
                refine lv_iload C.1 C.2.1 dX11_tells_29 (lv_at hl 1 rfl) ?_
                refine lv_aload_n C.1 C.2.1 dX11_tells_31 rfl (lv_at hl 4 rfl) ?_
                refine z_get C hK hW hin11 (v := .ref a15) 0 rfl rfl 15 (by decide) (C.2.2.2.2 (.fieldLink RX11 37 "TellingRowsModel" "line" "[I") (List.mem_of_getElem? (i := 2) rfl)) (fun _ h9 => h9) rfl dX11_tells_32 ?_
                refine lv_iload C.1 C.2.1 dX11_tells_35 (lv_at hl 0 rfl) ?_
                refine z_iald C hK hW 1 rfl (by omega) (by omega) dX11_tells_37 ?_
                have hb_37 := hg i
                refine lv_iload_n C.1 C.2.1 dX11_tells_38 rfl (lv_at hl 2 rfl) ?_
                refine z_icmp_ne (tgt := 46) C dX11_tells_39 (by decide) (by omega) (fun c_39 => ?_) (fun c_39 => ?_)
                ·
                  refine lv_iconst (v := iI 0) C.1 C.2.1 dX11_tells_46 rfl ?_
                  refine z_iadd C dX11_tells_47 ?_
                  refine lv_istore (lv' := [(4, .int (iI (k + 0))), (5, .int (iI i)), (3, .int (iI d)), (2, .int (iI m)), (0, .ref x), (1, .int (iI b))]) C.1 C.2.1 dX11_tells_48 hl (by decide) rfl (fun ls hl => ?_)
                  refine lv_iinc (v := iI (i + 1)) (lv' := [(5, .int (iI (i + 1))), (4, .int (iI (k + 0))), (3, .int (iI d)), (2, .int (iI m)), (0, .ref x), (1, .int (iI b))]) C.1 C.2.1 dX11_tells_50 hl (k := 1) rfl (iI_add _ _) (by decide) rfl (fun ls hl => ?_)
                  refine lv_goto (tgt := 20) C.1 C.2.1 dX11_tells_53 (by decide) ?_
                  exact ih_20 (k + 0) (i + 1) (by first | omega | assumption | (intros; first | rfl | omega | assumption | (and_intros <;> first | rfl | omega | assumption))) (by rw [oc_s (by omega)]; split <;> omega) (by omega) _ _ _ hW (lv_sub hl [0, 1, 2, 3, 4, 5] rfl)
                ·
                  refine lv_iconst (v := iI 1) C.1 C.2.1 dX11_tells_42 rfl ?_
                  refine lv_goto (tgt := 47) C.1 C.2.1 dX11_tells_43 (by decide) ?_
                  refine z_iadd C dX11_tells_47 ?_
                  refine lv_istore (lv' := [(4, .int (iI (k + 1))), (5, .int (iI i)), (3, .int (iI d)), (2, .int (iI m)), (0, .ref x), (1, .int (iI b))]) C.1 C.2.1 dX11_tells_48 hl (by decide) rfl (fun ls hl => ?_)
                  refine lv_iinc (v := iI (i + 1)) (lv' := [(5, .int (iI (i + 1))), (4, .int (iI (k + 1))), (3, .int (iI d)), (2, .int (iI m)), (0, .ref x), (1, .int (iI b))]) C.1 C.2.1 dX11_tells_50 hl (k := 1) rfl (iI_add _ _) (by decide) rfl (fun ls hl => ?_)
                  refine lv_goto (tgt := 20) C.1 C.2.1 dX11_tells_53 (by decide) ?_
                  exact ih_20 (k + 1) (i + 1) (by first | omega | assumption | (intros; first | rfl | omega | assumption | (and_intros <;> first | rfl | omega | assumption))) (by rw [oc_s (by omega)]; split <;> omega) (by omega) _ _ _ hW (lv_sub hl [0, 1, 2, 3, 4, 5] rfl)
          exact cut_20 (((lm - 0) + 1 : Int)).toNat 0 0 (by first | omega | assumption | (intros; first | rfl | omega | assumption | (and_intros <;> first | rfl | omega | assumption))) (by rw [oc_0 (by omega)]) (by omega) _ _ _ hW (lv_sub hl [0, 1, 2, 3, 4, 5] rfl)
    exact cut_8 (((10 - 1) + 1 : Int)).toNat 1 0 h0 (by first | omega | assumption | (intros; first | rfl | omega | assumption | (and_intros <;> first | rfl | omega | assumption))) TalS_0 hh (by omega) _ _ _ hW (lv_sub hl [0, 1, 2, 3] rfl)
theorem off_b {f : Int → Int} {n i : Int} (hF : FIG f n) (h0 : 0 ≤ i) (h1 : 2 * i ≤ n) : 0 ≤ off f i ∧ off f i ≤ 9 * i := by
  have h := sm_b (h := fun y => f (2 * y)) (n := i) (lo := 0) (hi := 9) (fun j j0 j1 => by have := hF (2 * j) (by omega) (by omega); omega) h0
  unfold off
  omega
theorem UnR_out {f g g' : Int → Int} {n m : Int} (hF : FIG f n) (hh : ∀ j, 0 ≤ j → j < m → g' j = g j) (h : UnR f n g m) : UnR f n g' m := by
  obtain ⟨i, hi, a1, a2, a3, a4, a5, a6⟩ := h
  refine ⟨i, hi, a1, a2, a3, a4, a5, fun y k y0 y1 k0 k1 => ?_⟩
  have h1 := off_mono hF (i := y + 1) (k := i) (by omega) (by omega) (by omega)
  have h2 := off_b hF (i := y) y0 (by omega)
  rw [off_s y0] at h1
  rw [hh _ (by omega) (by omega)]
  exact a6 y k y0 y1 k0 k1
set_option maxHeartbeats 4000000 in
set_option maxRecDepth 100000 in
/-- untells -/
theorem c_X11_untells (l : Launch) (G : GG) (x : Nat) (ln : Int) (a1 : Nat) (pl : Int) (a3 : Nat) (a4 : Nat) (ri : Int) (ld : Int) (mn : Int) (a8 : Nat) (a9 : Nat) (nn : Int) (a11 : Nat) (fn : Int) (a13 : Nat) (lm : Int) (a15 : Nat) (a16 : Nat) (a17 : Nat) (a18 : Nat) (a19 : Nat) (a20 : Nat) (g : Int → Int) (h0 : Int → Int) (hlm : 0 ≤ lm ∧ lm ≤ 5000) (hg : BD g) (hh : BD h0) (hF : FIG g lm) : MQc l yX11_untells wsX11_untells 0 G [.ref x] [(x, .inr (9, [.int (iI ln), .ref a1, .int (iI pl), .ref a3, .ref a4, .int (iI ri), .int (iI ld), .int (iI mn), .ref a8, .ref a9, .int (iI nn), .ref a11, .int (iI fn), .ref a13, .int (iI lm), .ref a15, .ref a16, .ref a17, .ref a18, .ref a19, .ref a20])), (a15, .inl (G.2.1 0, 5000, .inl (iA g))), (a16, .inl (G.2.1 0, 5000, .inl (iA h0)))] (fun r (u : Int × (Int → Int) × (Int → Int)) => ∃ z : Int, r = some (.int (iI z)) ∧ ((z = 1 ∧ UnR g lm u.2.1 u.1) ∨ (z = 0 ∧ UnB g lm)) ∧ (BD u.2.1) ∧ (BD u.2.2) ∧ (0 ≤ u.1 ∧ u.1 ≤ 5000)) (fun u => [(x, .inr (9, [.int (iI ln), .ref a1, .int (iI pl), .ref a3, .ref a4, .int (iI ri), .int (iI ld), .int (iI mn), .ref a8, .ref a9, .int (iI nn), .ref a11, .int (iI fn), .ref a13, .int (iI u.1), .ref a15, .ref a16, .ref a17, .ref a18, .ref a19, .ref a20])), (a15, .inl (G.2.1 0, 5000, .inl (iA u.2.1))), (a16, .inl (G.2.1 0, 5000, .inl (iA u.2.2)))]) := by
  refine MQc.start (own := RX11) (by decide) rfl rfl (Nat.le_of_ble_eq_true rfl) ?_
  intro p9 e9 s9 m9 args below meth c9 A Q C hK hW hA hr hlocks hQ ls hl
  have hl : lv_has ls 5 [(0, .ref x)] := hl
  have hin11 : ∀ w ∈ wsX110, w ∈ wsX11_untells := by decide +kernel
  refine lv_iconst (v := iI 0) C.1 C.2.1 dX11_untells_0 rfl ?_
  refine lv_istore_n (lv' := [(1, .int (iI 0)), (0, .ref x)]) C.1 C.2.1 dX11_untells_1 rfl hl (by decide) rfl (fun ls hl => ?_)
  refine lv_aload_n C.1 C.2.1 dX11_untells_2 rfl (lv_at hl 1 rfl) ?_
  refine z_get C hK hW hin11 (v := .int (iI lm)) 0 rfl rfl 14 (by decide) (C.2.2.2.2 (.fieldLink RX11 144 "TellingRowsModel" "lineMany" "I") (List.mem_of_getElem? (i := 1) rfl)) (fun _ h9 => h9) rfl dX11_untells_3 ?_
  refine lv_iconst (v := iI 2) C.1 C.2.1 dX11_untells_6 rfl ?_
  refine z_irem C dX11_untells_7 (by omega) ?_
  refine lv_iconst (v := iI 1) C.1 C.2.1 dX11_untells_8 rfl ?_
  refine z_icmp_ne (tgt := 14) C dX11_untells_9 (by decide) (by omega) (fun c_9 => ?_) (fun c_9 => ?_)
  ·
    refine lv_iconst (v := iI 0) C.1 C.2.1 dX11_untells_14 rfl ?_
    refine lv_istore_n (lv' := [(2, .int (iI 0)), (1, .int (iI 0)), (0, .ref x)]) C.1 C.2.1 dX11_untells_15 rfl hl (by decide) rfl (fun ls hl => ?_)
    have cut_16 : ∀ (n9 : Nat) (c : Int) (p : Int), (0 ≤ p ∧ p ≤ lm ∧ p % 2 = 0) → (c = off g (p / 2)) → (∀ y, 1 ≤ y → y < p / 2 → g (2 * y + 1) ≠ g (2 * y - 1)) → (lm - p < (n9 : Int)) → ∀ (H : Heap) (locs : List Loc) (ls : Array Slot), Wd G A s9.heap [(x, .inr (9, [.int (iI ln), .ref a1, .int (iI pl), .ref a3, .ref a4, .int (iI ri), .int (iI ld), .int (iI mn), .ref a8, .ref a9, .int (iI nn), .ref a11, .int (iI fn), .ref a13, .int (iI lm), .ref a15, .ref a16, .ref a17, .ref a18, .ref a19, .ref a20])), (a15, .inl (G.2.1 0, 5000, .inl (iA g))), (a16, .inl (G.2.1 0, 5000, .inl (iA h0)))] H locs → lv_has ls 5 [(2, .int (iI p)), (1, .int (iI c)), (0, .ref x)] → W p9 l e9 (rmL 0) s9 m9 args below meth c9 H locs 0 0 Q (F0 m9 16 ls []) := by
      intro n9
      induction n9 with
      | zero => intro c p hp hc hN hmu; intros; exfalso; omega
      | succ n9 ih_16 =>
        intro c p hp hc hN hmu H locs ls hW hl
        obtain ⟨i, hpi⟩ : ∃ i, p = 2 * i := ⟨p / 2, by omega⟩
        have hpi2 : p / 2 = i := by omega
        rw [hpi2] at hc hN
        have hob := off_b hF (i := i) (by omega) (by omega)
        refine lv_iload_n C.1 C.2.1 dX11_untells_16 rfl (lv_at hl 0 rfl) ?_
        refine lv_aload_n C.1 C.2.1 dX11_untells_17 rfl (lv_at hl 2 rfl) ?_
        refine z_get C hK hW hin11 (v := .int (iI lm)) 0 rfl rfl 14 (by decide) (C.2.2.2.2 (.fieldLink RX11 144 "TellingRowsModel" "lineMany" "I") (List.mem_of_getElem? (i := 1) rfl)) (fun _ h9 => h9) rfl dX11_untells_18 ?_
        refine z_icmp_ge (tgt := 64) C dX11_untells_21 (by decide) (by omega) (fun c_21 => ?_) (fun c_21 => ?_)
        ·
          refine lv_iload_n C.1 C.2.1 dX11_untells_64 rfl (lv_at hl 1 rfl) ?_
          refine lv_sipush (v := iI 5000) C.1 C.2.1 dX11_untells_65 (by decide +kernel) ?_
          refine z_icmp_le (tgt := 73) C dX11_untells_68 (by decide) (by omega) (fun c_68 => ?_) (fun c_68 => ?_)
          ·
            refine lv_iconst (v := iI 0) C.1 C.2.1 dX11_untells_73 rfl ?_
            refine lv_istore_n (lv' := [(2, .int (iI 0)), (1, .int (iI c)), (0, .ref x)]) C.1 C.2.1 dX11_untells_74 rfl hl (by decide) rfl (fun ls hl => ?_)
            refine lv_iconst (v := iI 0) C.1 C.2.1 dX11_untells_75 rfl ?_
            refine lv_istore_n (lv' := [(3, .int (iI 0)), (2, .int (iI 0)), (1, .int (iI c)), (0, .ref x)]) C.1 C.2.1 dX11_untells_76 rfl hl (by decide) rfl (fun ls hl => ?_)
            have cut_77 : ∀ (n9 : Nat) (m : Int) (t : Int) (h1 : Int → Int), (0 ≤ t ∧ t ≤ lm ∧ t % 2 = 0) → (UnS g lm (t / 2) h1 m) → (BD h1) → (lm - t < (n9 : Int)) → ∀ (H : Heap) (locs : List Loc) (ls : Array Slot), Wd G A s9.heap [(x, .inr (9, [.int (iI ln), .ref a1, .int (iI pl), .ref a3, .ref a4, .int (iI ri), .int (iI ld), .int (iI mn), .ref a8, .ref a9, .int (iI nn), .ref a11, .int (iI fn), .ref a13, .int (iI lm), .ref a15, .ref a16, .ref a17, .ref a18, .ref a19, .ref a20])), (a15, .inl (G.2.1 0, 5000, .inl (iA g))), (a16, .inl (G.2.1 0, 5000, .inl (iA h1)))] H locs → lv_has ls 5 [(3, .int (iI t)), (2, .int (iI m)), (1, .int (iI c)), (0, .ref x)] → W p9 l e9 (rmL 0) s9 m9 args below meth c9 H locs 0 0 Q (F0 m9 77 ls []) := by
              intro n9
              induction n9 with
              | zero => intro m t h1 ht hI hh1 hmu; intros; exfalso; omega
              | succ n9 ih_77 =>
                intro m t h1 ht hI hh1 hmu H locs ls hW hl
                obtain ⟨u9, htu⟩ : ∃ u9, t = 2 * u9 := ⟨t / 2, by omega⟩
                have htu2 : t / 2 = u9 := by omega
                rw [htu2] at hI
                have hm0 : 0 ≤ m ∧ m ≤ 5000 := ⟨by have h1 := hI.2.2.1; have h2 := off_b hF (i := u9) (by omega) (by omega); omega, hI.2.2.2.1⟩
                refine lv_iload_n C.1 C.2.1 dX11_untells_77 rfl (lv_at hl 0 rfl) ?_
                refine lv_aload_n C.1 C.2.1 dX11_untells_78 rfl (lv_at hl 3 rfl) ?_
                refine z_get C hK hW hin11 (v := .int (iI lm)) 0 rfl rfl 14 (by decide) (C.2.2.2.2 (.fieldLink RX11 144 "TellingRowsModel" "lineMany" "I") (List.mem_of_getElem? (i := 1) rfl)) (fun _ h9 => h9) rfl dX11_untells_79 ?_
                refine z_icmp_ge (tgt := 128) C dX11_untells_82 (by decide) (by omega) (fun c_82 => ?_) (fun c_82 => ?_)
                ·
                  have hmc : m = c := by have h1 := hI.2.2.1; rw [h1, hc, show u9 = i by omega]
                  refine lv_aload_n C.1 C.2.1 dX11_untells_128 rfl (lv_at hl 3 rfl) ?_
                  refine lv_iload_n C.1 C.2.1 dX11_untells_129 rfl (lv_at hl 2 rfl) ?_
                  refine z_put C hK hW hin11 tyX11 tyX11_ok nmX11 0 rfl rfl 14 (by decide) (C.2.2.2.2 (.fieldLink RX11 144 "TellingRowsModel" "lineMany" "I") (List.mem_of_getElem? (i := 1) rfl)) (fun _ h9 => h9) rfl rfl rfl (Nat.le_of_ble_eq_true rfl) dX11_untells_130 (fun H locs hW => ?_)
                  have hW : Wd G A s9.heap [(x, .inr (9, [.int (iI ln), .ref a1, .int (iI pl), .ref a3, .ref a4, .int (iI ri), .int (iI ld), .int (iI mn), .ref a8, .ref a9, .int (iI nn), .ref a11, .int (iI fn), .ref a13, .int (iI c), .ref a15, .ref a16, .ref a17, .ref a18, .ref a19, .ref a20])), (a15, .inl (G.2.1 0, 5000, .inl (iA g))), (a16, .inl (G.2.1 0, 5000, .inl (iA h1)))] H locs := hW
                  refine lv_iconst (v := iI 0) C.1 C.2.1 dX11_untells_133 rfl ?_
                  refine lv_istore_n (lv' := [(3, .int (iI 0)), (2, .int (iI m)), (1, .int (iI c)), (0, .ref x)]) C.1 C.2.1 dX11_untells_134 rfl hl (by decide) rfl (fun ls hl => ?_)
                  have cut_135 : ∀ (n9 : Nat) (k9 : Int) (g1 : Int → Int), (0 ≤ k9 ∧ k9 ≤ c) → (BD g1) → (∀ j, 0 ≤ j → j < k9 → g1 j = h1 j) → (c - k9 < (n9 : Int)) → ∀ (H : Heap) (locs : List Loc) (ls : Array Slot), Wd G A s9.heap [(x, .inr (9, [.int (iI ln), .ref a1, .int (iI pl), .ref a3, .ref a4, .int (iI ri), .int (iI ld), .int (iI mn), .ref a8, .ref a9, .int (iI nn), .ref a11, .int (iI fn), .ref a13, .int (iI c), .ref a15, .ref a16, .ref a17, .ref a18, .ref a19, .ref a20])), (a15, .inl (G.2.1 0, 5000, .inl (iA g1))), (a16, .inl (G.2.1 0, 5000, .inl (iA h1)))] H locs → lv_has ls 5 [(3, .int (iI k9)), (2, .int (iI m)), (1, .int (iI c)), (0, .ref x)] → W p9 l e9 (rmL 0) s9 m9 args below meth c9 H locs 0 0 Q (F0 m9 135 ls []) := by
                    intro n9
                    induction n9 with
                    | zero => intro k9 g1 hk hg1 he hmu; intros; exfalso; omega
                    | succ n9 ih_135 =>
                      intro k9 g1 hk hg1 he hmu H locs ls hW hl
                      refine lv_iload_n C.1 C.2.1 dX11_untells_135 rfl (lv_at hl 0 rfl) ?_
                      refine lv_iload_n C.1 C.2.1 dX11_untells_136 rfl (lv_at hl 2 rfl) ?_
                      refine z_icmp_ge (tgt := 158) C dX11_untells_137 (by decide) (by omega) (fun c_137 => ?_) (fun c_137 => ?_)
                      ·
                        refine lv_iconst (v := iI 1) C.1 C.2.1 dX11_untells_158 rfl ?_
                        rw [hQ]
                        have hP9 : ∃ z : Int, (some (Value.int (iI 1))) = some (.int (iI z)) ∧ ((z = 1 ∧ UnR g lm g1 c) ∨ (z = 0 ∧ UnB g lm)) ∧ (BD g1) ∧ (BD h1) ∧ (0 ≤ c ∧ c ≤ 5000) := ⟨_, rfl, (Or.inl ⟨rfl, UnR_out hF (fun j j0 j1 => he j j0 (by omega)) ⟨u9, by omega, by rw [hmc] at hI; exact hI⟩⟩), hg1, hh1, (by first | omega | assumption | (intros; first | rfl | omega | assumption | (and_intros <;> first | rfl | omega | assumption)))⟩
                        exact z_zret C hr rfl hlocks hW (c, g1, h1) rfl hP9 dX11_untells_159
                      ·
                        refine lv_aload_n C.1 C.2.1 dX11_untells_140 rfl (lv_at hl 3 rfl) ?_
                        refine z_get C hK hW hin11 (v := .ref a15) 0 rfl rfl 15 (by decide) (C.2.2.2.2 (.fieldLink RX11 37 "TellingRowsModel" "line" "[I") (List.mem_of_getElem? (i := 2) rfl)) (fun _ h9 => h9) rfl dX11_untells_141 ?_
                        refine lv_iload_n C.1 C.2.1 dX11_untells_144 rfl (lv_at hl 0 rfl) ?_
                        refine lv_aload_n C.1 C.2.1 dX11_untells_145 rfl (lv_at hl 3 rfl) ?_
                        refine z_get C hK hW hin11 (v := .ref a16) 0 rfl rfl 16 (by decide) (C.2.2.2.2 (.fieldLink RX11 40 "TellingRowsModel" "other" "[I") (List.mem_of_getElem? (i := 3) rfl)) (fun _ h9 => h9) rfl dX11_untells_146 ?_
                        refine lv_iload_n C.1 C.2.1 dX11_untells_149 rfl (lv_at hl 0 rfl) ?_
                        refine z_iald C hK hW 2 rfl (by omega) (by omega) dX11_untells_150 ?_
                        have hb_150 := hh1 k9
                        refine z_iast C hK hW 1 rfl (by omega) (by omega) dX11_untells_151 (fun H locs hW => ?_)
                        have hbd_151 : BD (up g1 k9 (h1 k9)) := BD.up hg1 (by omega)
                        have hW : Wd G A s9.heap [(x, .inr (9, [.int (iI ln), .ref a1, .int (iI pl), .ref a3, .ref a4, .int (iI ri), .int (iI ld), .int (iI mn), .ref a8, .ref a9, .int (iI nn), .ref a11, .int (iI fn), .ref a13, .int (iI c), .ref a15, .ref a16, .ref a17, .ref a18, .ref a19, .ref a20])), (a15, .inl (G.2.1 0, 5000, .inl (iA (up g1 k9 (h1 k9))))), (a16, .inl (G.2.1 0, 5000, .inl (iA h1)))] H locs := hW
                        refine lv_iinc (v := iI (k9 + 1)) (lv' := [(3, .int (iI (k9 + 1))), (2, .int (iI m)), (1, .int (iI c)), (0, .ref x)]) C.1 C.2.1 dX11_untells_152 hl (k := 0) rfl (iI_add _ _) (by decide) rfl (fun ls hl => ?_)
                        refine lv_goto (tgt := 135) C.1 C.2.1 dX11_untells_155 (by decide) ?_
                        exact ih_135 (k9 + 1) (up g1 k9 (h1 k9)) (by first | omega | assumption | (intros; first | rfl | omega | assumption | (and_intros <;> first | rfl | omega | assumption))) hbd_151 (up_pre he rfl) (by omega) _ _ _ hW (lv_sub hl [0, 1, 2, 3] rfl)
                  exact cut_135 (((c - 0) + 1 : Int)).toNat 0 g (by first | omega | assumption | (intros; first | rfl | omega | assumption | (and_intros <;> first | rfl | omega | assumption))) hg (fun j j0 j1 => by omega) (by omega) _ _ _ hW (lv_sub hl [0, 1, 2, 3] rfl)
                ·
                  refine lv_iconst (v := iI 0) C.1 C.2.1 dX11_untells_85 rfl ?_
                  refine lv_istore (lv' := [(4, .int (iI 0)), (3, .int (iI t)), (2, .int (iI m)), (1, .int (iI c)), (0, .ref x)]) C.1 C.2.1 dX11_untells_86 hl (by decide) rfl (fun ls hl => ?_)
                  have cut_88 : ∀ (n9 : Nat) (j9 : Int) (m1 : Int) (h2 : Int → Int), (0 ≤ j9 ∧ j9 ≤ g t) → (m1 = m + j9) → (m + g t ≤ 5000) → (BD h2) → (∀ j, j < m → h2 j = h1 j) → (∀ j, 0 ≤ j → j < j9 → h2 (m + j) = g (t + 1)) → (g t - j9 < (n9 : Int)) → ∀ (H : Heap) (locs : List Loc) (ls : Array Slot), Wd G A s9.heap [(x, .inr (9, [.int (iI ln), .ref a1, .int (iI pl), .ref a3, .ref a4, .int (iI ri), .int (iI ld), .int (iI mn), .ref a8, .ref a9, .int (iI nn), .ref a11, .int (iI fn), .ref a13, .int (iI lm), .ref a15, .ref a16, .ref a17, .ref a18, .ref a19, .ref a20])), (a15, .inl (G.2.1 0, 5000, .inl (iA g))), (a16, .inl (G.2.1 0, 5000, .inl (iA h2)))] H locs → lv_has ls 5 [(4, .int (iI j9)), (3, .int (iI t)), (2, .int (iI m1)), (1, .int (iI c)), (0, .ref x)] → W p9 l e9 (rmL 0) s9 m9 args below meth c9 H locs 0 0 Q (F0 m9 88 ls []) := by
                    intro n9
                    induction n9 with
                    | zero => intro j9 m1 h2 hj hm1 hm5 hh2 hold hnew hmu; intros; exfalso; omega
                    | succ n9 ih_88 =>
                      intro j9 m1 h2 hj hm1 hm5 hh2 hold hnew hmu H locs ls hW hl
                      refine lv_iload C.1 C.2.1 dX11_untells_88 (lv_at hl 0 rfl) ?_
                      refine lv_aload_n C.1 C.2.1 dX11_untells_90 rfl (lv_at hl 4 rfl) ?_
                      refine z_get C hK hW hin11 (v := .ref a15) 0 rfl rfl 15 (by decide) (C.2.2.2.2 (.fieldLink RX11 37 "TellingRowsModel" "line" "[I") (List.mem_of_getElem? (i := 2) rfl)) (fun _ h9 => h9) rfl dX11_untells_91 ?_
                      refine lv_iload_n C.1 C.2.1 dX11_untells_94 rfl (lv_at hl 1 rfl) ?_
                      refine z_iald C hK hW 1 rfl (by omega) (by omega) dX11_untells_95 ?_
                      have hb_95 := hg t
                      refine z_icmp_ge (tgt := 122) C dX11_untells_96 (by decide) (by omega) (fun c_96 => ?_) (fun c_96 => ?_)
                      ·
                        refine lv_iinc (v := iI (t + 2)) (lv' := [(3, .int (iI (t + 2))), (4, .int (iI j9)), (2, .int (iI m1)), (1, .int (iI c)), (0, .ref x)]) C.1 C.2.1 dX11_untells_122 hl (k := 1) rfl (iI_add _ _) (by decide) rfl (fun ls hl => ?_)
                        refine lv_goto (tgt := 77) C.1 C.2.1 dX11_untells_125 (by decide) ?_
                        exact ih_77 m1 (t + 2) h2 (by first | omega | assumption | (intros; first | rfl | omega | assumption | (and_intros <;> first | rfl | omega | assumption))) (by have h1 : m1 = m + g (2 * u9) := (by rw [← htu]; omega); rw [show (t + 2) / 2 = u9 + 1 by omega, h1]; exact UnS_s hI hF (by omega) rfl (by omega) (fun q9 => hN u9 q9 (by omega)) hold (fun j j0 j1 => by rw [hnew j j0 (by rw [← htu] at j1; omega), ← htu])) hh2 (by omega) _ _ _ hW (lv_sub hl [0, 2, 3, 4] rfl)
                      ·
                        refine lv_aload_n C.1 C.2.1 dX11_untells_99 rfl (lv_at hl 4 rfl) ?_
                        refine z_get C hK hW hin11 (v := .ref a16) 0 rfl rfl 16 (by decide) (C.2.2.2.2 (.fieldLink RX11 40 "TellingRowsModel" "other" "[I") (List.mem_of_getElem? (i := 3) rfl)) (fun _ h9 => h9) rfl dX11_untells_100 ?_
                        refine lv_iload_n C.1 C.2.1 dX11_untells_103 rfl (lv_at hl 2 rfl) ?_
                        refine lv_aload_n C.1 C.2.1 dX11_untells_104 rfl (lv_at hl 4 rfl) ?_
                        refine z_get C hK hW hin11 (v := .ref a15) 0 rfl rfl 15 (by decide) (C.2.2.2.2 (.fieldLink RX11 37 "TellingRowsModel" "line" "[I") (List.mem_of_getElem? (i := 2) rfl)) (fun _ h9 => h9) rfl dX11_untells_105 ?_
                        refine lv_iload_n C.1 C.2.1 dX11_untells_108 rfl (lv_at hl 1 rfl) ?_
                        refine lv_iconst (v := iI 1) C.1 C.2.1 dX11_untells_109 rfl ?_
                        refine z_iadd C dX11_untells_110 ?_
                        refine z_iald C hK hW 1 rfl (by omega) (by omega) dX11_untells_111 ?_
                        have hb_111 := hg (t + 1)
                        refine z_iast C hK hW 2 rfl (by omega) (by omega) dX11_untells_112 (fun H locs hW => ?_)
                        have hbd_112 : BD (up h2 m1 (g (t + 1))) := BD.up hh2 (by omega)
                        have hW : Wd G A s9.heap [(x, .inr (9, [.int (iI ln), .ref a1, .int (iI pl), .ref a3, .ref a4, .int (iI ri), .int (iI ld), .int (iI mn), .ref a8, .ref a9, .int (iI nn), .ref a11, .int (iI fn), .ref a13, .int (iI lm), .ref a15, .ref a16, .ref a17, .ref a18, .ref a19, .ref a20])), (a15, .inl (G.2.1 0, 5000, .inl (iA g))), (a16, .inl (G.2.1 0, 5000, .inl (iA (up h2 m1 (g (t + 1))))))] H locs := hW
                        refine lv_iinc (v := iI (m1 + 1)) (lv' := [(2, .int (iI (m1 + 1))), (4, .int (iI j9)), (3, .int (iI t)), (1, .int (iI c)), (0, .ref x)]) C.1 C.2.1 dX11_untells_113 hl (k := 2) rfl (iI_add _ _) (by decide) rfl (fun ls hl => ?_)
                        refine lv_iinc (v := iI (j9 + 1)) (lv' := [(4, .int (iI (j9 + 1))), (2, .int (iI (m1 + 1))), (3, .int (iI t)), (1, .int (iI c)), (0, .ref x)]) C.1 C.2.1 dX11_untells_116 hl (k := 1) rfl (iI_add _ _) (by decide) rfl (fun ls hl => ?_)
                        refine lv_goto (tgt := 88) C.1 C.2.1 dX11_untells_119 (by decide) ?_
                        have hgt := hF t (by omega) (by omega)
                        exact ih_88 (j9 + 1) (m1 + 1) (up h2 m1 (g (t + 1))) (by first | omega | assumption | (intros; first | rfl | omega | assumption | (and_intros <;> first | rfl | omega | assumption))) (by first | omega | assumption | (intros; first | rfl | omega | assumption | (and_intros <;> first | rfl | omega | assumption))) hm5 hbd_112 (fun j j1 => by rw [up_n _ _ (by omega)]; exact hold j j1) (fun j j0 j1 => if q : m + j = m1 then (by rw [q, up_s]) else (by rw [up_n _ _ q]; exact hnew j j0 (by omega))) (by omega) _ _ _ hW (lv_sub hl [0, 2, 1, 3, 4] rfl)
                  have hgt := hF t (by omega) (by omega)
                  exact cut_88 (((g t - 0) + 1 : Int)).toNat 0 m h1 (by first | omega | assumption | (intros; first | rfl | omega | assumption | (and_intros <;> first | rfl | omega | assumption))) (by first | omega | assumption | (intros; first | rfl | omega | assumption | (and_intros <;> first | rfl | omega | assumption))) (by have h2 := off_mono hF (i := u9 + 1) (k := i) (by omega) (by omega) (by omega); rw [off_s (by omega), ← htu] at h2; have h3 := hI.2.2.1; omega) hh1 (fun j j1 => rfl) (fun j j0 j1 => by omega) (by omega) _ _ _ hW (lv_sub hl [0, 1, 2, 3, 4] rfl)
            exact cut_77 (((lm - 0) + 1 : Int)).toNat 0 0 h0 (by first | omega | assumption | (intros; first | rfl | omega | assumption | (and_intros <;> first | rfl | omega | assumption))) (by exact UnS_0 (by omega)) hh (by omega) _ _ _ hW (lv_sub hl [0, 1, 2, 3] rfl)
          ·
            refine lv_iconst (v := iI 0) C.1 C.2.1 dX11_untells_71 rfl ?_
            rw [hQ]
            have hP9 : ∃ z : Int, (some (Value.int (iI 0))) = some (.int (iI z)) ∧ ((z = 1 ∧ UnR g lm g lm) ∨ (z = 0 ∧ UnB g lm)) ∧ (BD g) ∧ (BD h0) ∧ (0 ≤ lm ∧ lm ≤ 5000) := ⟨_, rfl, (Or.inr ⟨rfl, Or.inr (Or.inr ⟨i, by omega, by omega⟩)⟩), hg, hh, hlm⟩
            exact z_zret C hr rfl hlocks hW (lm, g, h0) rfl hP9 dX11_untells_72
        ·
          refine lv_iload_n C.1 C.2.1 dX11_untells_24 rfl (lv_at hl 0 rfl) ?_
          refine z_if_le (tgt := 49) C dX11_untells_25 (by decide) (by omega) (fun c_25 => ?_) (fun c_25 => ?_)
          ·
            refine lv_iload_n C.1 C.2.1 dX11_untells_49 rfl (lv_at hl 1 rfl) ?_
            refine lv_aload_n C.1 C.2.1 dX11_untells_50 rfl (lv_at hl 2 rfl) ?_
            refine z_get C hK hW hin11 (v := .ref a15) 0 rfl rfl 15 (by decide) (C.2.2.2.2 (.fieldLink RX11 37 "TellingRowsModel" "line" "[I") (List.mem_of_getElem? (i := 2) rfl)) (fun _ h9 => h9) rfl dX11_untells_51 ?_
            refine lv_iload_n C.1 C.2.1 dX11_untells_54 rfl (lv_at hl 0 rfl) ?_
            refine z_iald C hK hW 1 rfl (by omega) (by omega) dX11_untells_55 ?_
            have hb_55 := hg p
            refine z_iadd C dX11_untells_56 ?_
            refine lv_istore_n (lv' := [(1, .int (iI (c + (g p)))), (2, .int (iI p)), (0, .ref x)]) C.1 C.2.1 dX11_untells_57 rfl hl (by decide) rfl (fun ls hl => ?_)
            refine lv_iinc (v := iI (p + 2)) (lv' := [(2, .int (iI (p + 2))), (1, .int (iI (c + (g p)))), (0, .ref x)]) C.1 C.2.1 dX11_untells_58 hl (k := 1) rfl (iI_add _ _) (by decide) rfl (fun ls hl => ?_)
            refine lv_goto (tgt := 16) C.1 C.2.1 dX11_untells_61 (by decide) ?_
            exact ih_16 (c + (g p)) (p + 2) (by first | omega | assumption | (intros; first | rfl | omega | assumption | (and_intros <;> first | rfl | omega | assumption))) (by rw [show (p + 2) / 2 = i + 1 by omega, off_s (by omega), hc, hpi]) (fun y y0 y1 => if q : y = i then (by rw [q, show 2 * i + 1 = p + 1 by omega, show 2 * i - 1 = p - 1 by omega]; first | omega | exact c_44) else hN y y0 (by omega)) (by omega) _ _ _ hW (lv_sub hl [0, 1, 2] rfl)
          ·
            refine lv_aload_n C.1 C.2.1 dX11_untells_28 rfl (lv_at hl 2 rfl) ?_
            refine z_get C hK hW hin11 (v := .ref a15) 0 rfl rfl 15 (by decide) (C.2.2.2.2 (.fieldLink RX11 37 "TellingRowsModel" "line" "[I") (List.mem_of_getElem? (i := 2) rfl)) (fun _ h9 => h9) rfl dX11_untells_29 ?_
            refine lv_iload_n C.1 C.2.1 dX11_untells_32 rfl (lv_at hl 0 rfl) ?_
            refine lv_iconst (v := iI 1) C.1 C.2.1 dX11_untells_33 rfl ?_
            refine z_iadd C dX11_untells_34 ?_
            refine z_iald C hK hW 1 rfl (by omega) (by omega) dX11_untells_35 ?_
            have hb_35 := hg (p + 1)
            refine lv_aload_n C.1 C.2.1 dX11_untells_36 rfl (lv_at hl 2 rfl) ?_
            refine z_get C hK hW hin11 (v := .ref a15) 0 rfl rfl 15 (by decide) (C.2.2.2.2 (.fieldLink RX11 37 "TellingRowsModel" "line" "[I") (List.mem_of_getElem? (i := 2) rfl)) (fun _ h9 => h9) rfl dX11_untells_37 ?_
            refine lv_iload_n C.1 C.2.1 dX11_untells_40 rfl (lv_at hl 0 rfl) ?_
            refine lv_iconst (v := iI 1) C.1 C.2.1 dX11_untells_41 rfl ?_
            refine z_isub C dX11_untells_42 ?_
            refine z_iald C hK hW 1 rfl (by omega) (by omega) dX11_untells_43 ?_
            have hb_43 := hg (p - 1)
            refine z_icmp_ne (tgt := 49) C dX11_untells_44 (by decide) (by omega) (fun c_44 => ?_) (fun c_44 => ?_)
            ·
              refine lv_iload_n C.1 C.2.1 dX11_untells_49 rfl (lv_at hl 1 rfl) ?_
              refine lv_aload_n C.1 C.2.1 dX11_untells_50 rfl (lv_at hl 2 rfl) ?_
              refine z_get C hK hW hin11 (v := .ref a15) 0 rfl rfl 15 (by decide) (C.2.2.2.2 (.fieldLink RX11 37 "TellingRowsModel" "line" "[I") (List.mem_of_getElem? (i := 2) rfl)) (fun _ h9 => h9) rfl dX11_untells_51 ?_
              refine lv_iload_n C.1 C.2.1 dX11_untells_54 rfl (lv_at hl 0 rfl) ?_
              refine z_iald C hK hW 1 rfl (by omega) (by omega) dX11_untells_55 ?_
              have hb_55 := hg p
              refine z_iadd C dX11_untells_56 ?_
              refine lv_istore_n (lv' := [(1, .int (iI (c + (g p)))), (2, .int (iI p)), (0, .ref x)]) C.1 C.2.1 dX11_untells_57 rfl hl (by decide) rfl (fun ls hl => ?_)
              refine lv_iinc (v := iI (p + 2)) (lv' := [(2, .int (iI (p + 2))), (1, .int (iI (c + (g p)))), (0, .ref x)]) C.1 C.2.1 dX11_untells_58 hl (k := 1) rfl (iI_add _ _) (by decide) rfl (fun ls hl => ?_)
              refine lv_goto (tgt := 16) C.1 C.2.1 dX11_untells_61 (by decide) ?_
              exact ih_16 (c + (g p)) (p + 2) (by first | omega | assumption | (intros; first | rfl | omega | assumption | (and_intros <;> first | rfl | omega | assumption))) (by rw [show (p + 2) / 2 = i + 1 by omega, off_s (by omega), hc, hpi]) (fun y y0 y1 => if q : y = i then (by rw [q, show 2 * i + 1 = p + 1 by omega, show 2 * i - 1 = p - 1 by omega]; first | omega | exact c_44) else hN y y0 (by omega)) (by omega) _ _ _ hW (lv_sub hl [0, 1, 2] rfl)
            ·
              refine lv_iconst (v := iI 0) C.1 C.2.1 dX11_untells_47 rfl ?_
              rw [hQ]
              have hP9 : ∃ z : Int, (some (Value.int (iI 0))) = some (.int (iI z)) ∧ ((z = 1 ∧ UnR g lm g lm) ∨ (z = 0 ∧ UnB g lm)) ∧ (BD g) ∧ (BD h0) ∧ (0 ≤ lm ∧ lm ≤ 5000) := ⟨_, rfl, (Or.inr ⟨rfl, Or.inr (Or.inl ⟨i, by omega, by omega, by rw [show 2 * i + 1 = p + 1 by omega, show 2 * i - 1 = p - 1 by omega]; exact c_44⟩)⟩), hg, hh, hlm⟩
              exact z_zret C hr rfl hlocks hW (lm, g, h0) rfl hP9 dX11_untells_48
    exact cut_16 (((lm - 0) + 1 : Int)).toNat 0 0 (by first | omega | assumption | (intros; first | rfl | omega | assumption | (and_intros <;> first | rfl | omega | assumption))) (by exact off_0.symm) (fun y y0 y1 => by omega) (by omega) _ _ _ hW (lv_sub hl [0, 1, 2] rfl)
  ·
    refine lv_iconst (v := iI 0) C.1 C.2.1 dX11_untells_12 rfl ?_
    rw [hQ]
    have hP9 : ∃ z : Int, (some (Value.int (iI 0))) = some (.int (iI z)) ∧ ((z = 1 ∧ UnR g lm g lm) ∨ (z = 0 ∧ UnB g lm)) ∧ (BD g) ∧ (BD h0) ∧ (0 ≤ lm ∧ lm ≤ 5000) := ⟨_, rfl, (Or.inr ⟨rfl, Or.inl (by omega)⟩), hg, hh, hlm⟩
    exact z_zret C hr rfl hlocks hW (lm, g, h0) rfl hP9 dX11_untells_13
