set_option maxHeartbeats 4000000 in
set_option maxRecDepth 100000 in
/-- isNumber -/
theorem c_X10_isNumber (l : Launch) (G : GG) (v : Int) (hv : -2147483648 ≤ v ∧ v ≤ 2147483647) : MRc l yX10_isNumber wsX10_isNumber 0 G [.int (iI v)] [] (fun r => ∃ z : Int, r = some (.int (iI z)) ∧ ((z = 1 ∧ 0 ≤ v ∧ v ≤ 60000) ∨ (z = 0 ∧ ¬ (0 ≤ v ∧ v ≤ 60000)))) := by
  refine MRc.start (own := RX10) (by decide) rfl rfl (Nat.le_of_ble_eq_true rfl) ?_
  intro p9 e9 s9 m9 args below meth c9 A Q C hK hW hA hr hlocks hQ ls hl
  have hl : lv_has ls 1 [(0, .int (iI v))] := hl
  refine lv_iload_n C.1 C.2.1 dX10_isNumber_0 rfl (lv_at hl 0 rfl) ?_
  refine z_if_lt (tgt := 14) C dX10_isNumber_1 (by decide) (by omega) (fun c_1 => ?_) (fun c_1 => ?_)
  ·
    refine lv_iconst (v := iI 0) C.1 C.2.1 dX10_isNumber_14 rfl ?_
    rw [hQ]
    have hP9 : ∃ z : Int, (some (Value.int (iI 0))) = some (.int (iI z)) ∧ ((z = 1 ∧ 0 ≤ v ∧ v ≤ 60000) ∨ (z = 0 ∧ ¬ (0 ≤ v ∧ v ≤ 60000))) := ⟨_, rfl, (by first | omega | assumption | (intros; first | rfl | omega | assumption | (and_intros <;> first | rfl | omega | assumption)))⟩
    exact z_zretR C hr rfl hlocks hP9 dX10_isNumber_15
  ·
    refine lv_iload_n C.1 C.2.1 dX10_isNumber_4 rfl (lv_at hl 0 rfl) ?_
    refine z_ldc (z := 60000) C (C.2.2.2.2 (.constant RX10 201 (60000)) (List.mem_of_getElem? (i := 1) rfl)) (by decide +kernel) dX10_isNumber_5 ?_
    refine z_icmp_gt (tgt := 14) C dX10_isNumber_7 (by decide) (by omega) (fun c_7 => ?_) (fun c_7 => ?_)
    ·
      refine lv_iconst (v := iI 0) C.1 C.2.1 dX10_isNumber_14 rfl ?_
      rw [hQ]
      have hP9 : ∃ z : Int, (some (Value.int (iI 0))) = some (.int (iI z)) ∧ ((z = 1 ∧ 0 ≤ v ∧ v ≤ 60000) ∨ (z = 0 ∧ ¬ (0 ≤ v ∧ v ≤ 60000))) := ⟨_, rfl, (by first | omega | assumption | (intros; first | rfl | omega | assumption | (and_intros <;> first | rfl | omega | assumption)))⟩
      exact z_zretR C hr rfl hlocks hP9 dX10_isNumber_15
    ·
      refine lv_iconst (v := iI 1) C.1 C.2.1 dX10_isNumber_10 rfl ?_
      refine lv_goto (tgt := 15) C.1 C.2.1 dX10_isNumber_11 (by decide) ?_
      rw [hQ]
      have hP9 : ∃ z : Int, (some (Value.int (iI 1))) = some (.int (iI z)) ∧ ((z = 1 ∧ 0 ≤ v ∧ v ≤ 60000) ∨ (z = 0 ∧ ¬ (0 ≤ v ∧ v ≤ 60000))) := ⟨_, rfl, (by first | omega | assumption | (intros; first | rfl | omega | assumption | (and_intros <;> first | rfl | omega | assumption)))⟩
      exact z_zretR C hr rfl hlocks hP9 dX10_isNumber_15
set_option maxHeartbeats 4000000 in
set_option maxRecDepth 100000 in
/-- Enum.ordinal -/
theorem c_Jx29ce0_ordinal_8abf5 (l : Launch) (G : GG) (i : Nat) (hi : i < 7) : MRc l yJx29ce0_ordinal_8abf5 wsJx29ce0_ordinal_8abf5 0 G [.ref (G.2.2 i)] [] (fun r => ∃ z : Int, r = some (.int (iI z)) ∧ (z = (i : Int))) := by
  refine MRc.start (own := RJx29ce0) (by decide) rfl rfl (Nat.le_of_ble_eq_true rfl) ?_
  intro p9 e9 s9 m9 args below meth c9 A Q C hK hW hA hr hlocks hQ ls hl
  have hl : lv_has ls 1 [(0, .ref (G.2.2 i))] := hl
  refine lv_aload_n C.1 C.2.1 dJx29ce0_ordinal_8abf5_0 rfl (lv_at hl 0 rfl) ?_
  refine z_gete C hK hW (i := i) (by omega) (z := (i : Int)) (List.mem_of_getElem? (i := 0) rfl) (C.2.2.2.2 (.fieldLink RJx29ce0 7 "java/lang/Enum" "ordinal" "I") (List.mem_of_getElem? (i := 1) rfl)) (fun _ h9 => h9) (sOrd_ok _ (by omega)) dJx29ce0_ordinal_8abf5_1 ?_
  rw [hQ]
  have hP9 : ∃ z : Int, (some (Value.int (iI (i : Int)))) = some (.int (iI z)) ∧ (z = (i : Int)) := ⟨_, rfl, (by first | omega | assumption | (intros; first | rfl | omega | assumption | (and_intros <;> first | rfl | omega | assumption)))⟩
  exact z_iretR C hr hlocks hP9 dJx29ce0_ordinal_8abf5_4
set_option maxHeartbeats 4000000 in
set_option maxRecDepth 100000 in
/-- Maker.reach -/
theorem c_X2_reach (l : Launch) (G : GG) (h : Nat) (mk : Nat) (ma : Nat) (ae : Nat) (no : Nat) (f : Int → Int) (e : Int → Int) (g : Int → Int) (k : Int) (hf : BD f) (he : BD e) (hg : BD g) (hk : 1 ≤ k ∧ k < 2000) (hv : VAL g k) : MRc l yX2_reach wsX2_reach 0 G [.ref h, .ref no, .int (iI k)] [(h, .inr (1, [.ref mk, .ref ae])), (mk, .inr (2, [.ref ma])), (ma, .inl (G.2.1 0, 60001, .inl (iA f))), (ae, .inl (G.2.1 0, 1000, .inl (iA e))), (no, .inl (G.2.1 0, 2000, .inl (iA g)))] (fun r => ∃ z : Int, r = some (.int (iI z)) ∧ (DueR 0 g k z) ∧ (-2147483648 ≤ z ∧ z ≤ 2147483647)) := by
  refine MRc.start (own := RX2) (by decide) rfl rfl (Nat.le_of_ble_eq_true rfl) ?_
  intro p9 e9 s9 m9 args below meth c9 A Q C hK hW hA hr hlocks hQ ls hl
  have hl : lv_has ls 6 [(0, .ref h), (1, .ref no), (2, .int (iI k))] := hl
  refine lv_iload_n C.1 C.2.1 dX2_reach_0 rfl (lv_at hl 2 rfl) ?_
  refine lv_iconst (v := iI 2) C.1 C.2.1 dX2_reach_1 rfl ?_
  refine z_icmp_ge (tgt := 8) C dX2_reach_2 (by decide) (by omega) (fun c_2 => ?_) (fun c_2 => ?_)
  ·
    have hv1 := hv (k - 1) (by omega) (by omega)
    have hv2 := hv (k - 2) (by omega) (by omega)
    refine lv_iload_n C.1 C.2.1 dX2_reach_8 rfl (lv_at hl 2 rfl) ?_
    refine lv_aload_n C.1 C.2.1 dX2_reach_9 rfl (lv_at hl 1 rfl) ?_
    refine lv_iload_n C.1 C.2.1 dX2_reach_10 rfl (lv_at hl 2 rfl) ?_
    refine lv_iconst (v := iI 1) C.1 C.2.1 dX2_reach_11 rfl ?_
    refine z_isub C dX2_reach_12 ?_
    refine z_iald C hK hW 4 rfl (by omega) (by omega) dX2_reach_13 ?_
    have hb_13 := hg (k - 1)
    refine z_isub C dX2_reach_14 ?_
    refine lv_istore_n (lv' := [(3, .int (iI (k - (g (k - 1))))), (0, .ref h), (1, .ref no), (2, .int (iI k))]) C.1 C.2.1 dX2_reach_15 rfl hl (by decide) rfl (fun ls hl => ?_)
    refine lv_iload_n C.1 C.2.1 dX2_reach_16 rfl (lv_at hl 3 rfl) ?_
    refine lv_aload_n C.1 C.2.1 dX2_reach_17 rfl (lv_at hl 2 rfl) ?_
    refine lv_iload_n C.1 C.2.1 dX2_reach_18 rfl (lv_at hl 3 rfl) ?_
    refine lv_iconst (v := iI 2) C.1 C.2.1 dX2_reach_19 rfl ?_
    refine z_isub C dX2_reach_20 ?_
    refine z_iald C hK hW 4 rfl (by omega) (by omega) dX2_reach_21 ?_
    have hb_21 := hg (k - 2)
    refine z_isub C dX2_reach_22 ?_
    refine lv_istore (lv' := [(4, .int (iI (k - (g (k - 2))))), (3, .int (iI (k - (g (k - 1))))), (0, .ref h), (1, .ref no), (2, .int (iI k))]) C.1 C.2.1 dX2_reach_23 hl (by decide) rfl (fun ls hl => ?_)
    refine lv_iload_n C.1 C.2.1 dX2_reach_25 rfl (lv_at hl 1 rfl) ?_
    refine z_if_lt (tgt := 49) C dX2_reach_26 (by decide) (by omega) (fun c_26 => ?_) (fun c_26 => ?_)
    ·
      refine lv_iconst (v := iI 0) C.1 C.2.1 dX2_reach_49 rfl ?_
      refine lv_istore (lv' := [(5, .int (iI 0)), (4, .int (iI (k - (g (k - 2))))), (3, .int (iI (k - (g (k - 1))))), (0, .ref h), (1, .ref no), (2, .int (iI k))]) C.1 C.2.1 dX2_reach_50 hl (by decide) rfl (fun ls hl => ?_)
      refine lv_iload C.1 C.2.1 dX2_reach_52 (lv_at hl 0 rfl) ?_
      refine z_if_eq (tgt := 68) C dX2_reach_54 (by decide) (by omega) (fun c_54 => ?_) (fun c_54 => ?_)
      ·
        refine lv_bipush (v := iI (-4)) C.1 C.2.1 dX2_reach_68 (by decide +kernel) ?_
        rw [hQ]
        have hP9 : ∃ z : Int, (some (Value.int (iI (-4)))) = some (.int (iI z)) ∧ (DueR 0 g k z) ∧ (-2147483648 ≤ z ∧ z ≤ 2147483647) := ⟨_, rfl, (by first | exact ⟨fun q9 => Or.inl ⟨⟨by omega, by omega, by omega, by omega, by omega, by omega⟩, rfl⟩, fun q9 => Or.inr ⟨fun q8 => by have := q8.2.2.2.2.2; omega, rfl⟩⟩ | exact ⟨fun q9 => by omega, fun _ => Or.inr ⟨fun q9 => by obtain ⟨b1, b2, b3, b4, b5, b6⟩ := q9; omega, rfl⟩⟩), (by first | omega | assumption | (intros; first | rfl | omega | assumption | (and_intros <;> first | rfl | omega | assumption)))⟩
        exact z_iretR C hr hlocks hP9 dX2_reach_70
      ·
        refine lv_aload_n C.1 C.2.1 dX2_reach_57 rfl (lv_at hl 4 rfl) ?_
        refine lv_iload_n C.1 C.2.1 dX2_reach_58 rfl (lv_at hl 2 rfl) ?_
        refine z_iald C hK hW 4 rfl (by omega) (by omega) dX2_reach_59 ?_
        have hb_59 := hg (k - (g (k - 1)))
        have hv3 := hv (k - g (k - 1)) (by omega) (by omega)
        refine lv_aload_n C.1 C.2.1 dX2_reach_60 rfl (lv_at hl 4 rfl) ?_
        refine lv_iload C.1 C.2.1 dX2_reach_61 (lv_at hl 1 rfl) ?_
        refine z_iald C hK hW 4 rfl (by omega) (by omega) dX2_reach_63 ?_
        have hb_63 := hg (k - (g (k - 2)))
        have hv4 := hv (k - g (k - 2)) (by omega) (by omega)
        refine z_iadd C dX2_reach_64 ?_
        refine lv_goto (tgt := 70) C.1 C.2.1 dX2_reach_65 (by decide) ?_
        rw [hQ]
        have hP9 : ∃ z : Int, (some (Value.int (iI ((g (k - (g (k - 1)))) + (g (k - (g (k - 2)))))))) = some (.int (iI z)) ∧ (DueR 0 g k z) ∧ (-2147483648 ≤ z ∧ z ≤ 2147483647) := ⟨_, rfl, (by first | exact ⟨fun q9 => Or.inl ⟨⟨by omega, by omega, by omega, by omega, by omega, by omega⟩, rfl⟩, fun q9 => Or.inr ⟨fun q8 => by have := q8.2.2.2.2.2; omega, rfl⟩⟩ | exact ⟨fun q9 => by omega, fun _ => Or.inr ⟨fun q9 => by obtain ⟨b1, b2, b3, b4, b5, b6⟩ := q9; omega, rfl⟩⟩), (by first | omega | assumption | (intros; first | rfl | omega | assumption | (and_intros <;> first | rfl | omega | assumption)))⟩
        exact z_iretR C hr hlocks hP9 dX2_reach_70
    ·
      refine lv_iload_n C.1 C.2.1 dX2_reach_29 rfl (lv_at hl 1 rfl) ?_
      refine lv_iload_n C.1 C.2.1 dX2_reach_30 rfl (lv_at hl 4 rfl) ?_
      refine z_icmp_ge (tgt := 49) C dX2_reach_31 (by decide) (by omega) (fun c_31 => ?_) (fun c_31 => ?_)
      ·
        refine lv_iconst (v := iI 0) C.1 C.2.1 dX2_reach_49 rfl ?_
        refine lv_istore (lv' := [(5, .int (iI 0)), (4, .int (iI (k - (g (k - 2))))), (3, .int (iI (k - (g (k - 1))))), (0, .ref h), (1, .ref no), (2, .int (iI k))]) C.1 C.2.1 dX2_reach_50 hl (by decide) rfl (fun ls hl => ?_)
        refine lv_iload C.1 C.2.1 dX2_reach_52 (lv_at hl 0 rfl) ?_
        refine z_if_eq (tgt := 68) C dX2_reach_54 (by decide) (by omega) (fun c_54 => ?_) (fun c_54 => ?_)
        ·
          refine lv_bipush (v := iI (-4)) C.1 C.2.1 dX2_reach_68 (by decide +kernel) ?_
          rw [hQ]
          have hP9 : ∃ z : Int, (some (Value.int (iI (-4)))) = some (.int (iI z)) ∧ (DueR 0 g k z) ∧ (-2147483648 ≤ z ∧ z ≤ 2147483647) := ⟨_, rfl, (by first | exact ⟨fun q9 => Or.inl ⟨⟨by omega, by omega, by omega, by omega, by omega, by omega⟩, rfl⟩, fun q9 => Or.inr ⟨fun q8 => by have := q8.2.2.2.2.2; omega, rfl⟩⟩ | exact ⟨fun q9 => by omega, fun _ => Or.inr ⟨fun q9 => by obtain ⟨b1, b2, b3, b4, b5, b6⟩ := q9; omega, rfl⟩⟩), (by first | omega | assumption | (intros; first | rfl | omega | assumption | (and_intros <;> first | rfl | omega | assumption)))⟩
          exact z_iretR C hr hlocks hP9 dX2_reach_70
        ·
          refine lv_aload_n C.1 C.2.1 dX2_reach_57 rfl (lv_at hl 4 rfl) ?_
          refine lv_iload_n C.1 C.2.1 dX2_reach_58 rfl (lv_at hl 2 rfl) ?_
          refine z_iald C hK hW 4 rfl (by omega) (by omega) dX2_reach_59 ?_
          have hb_59 := hg (k - (g (k - 1)))
          have hv3 := hv (k - g (k - 1)) (by omega) (by omega)
          refine lv_aload_n C.1 C.2.1 dX2_reach_60 rfl (lv_at hl 4 rfl) ?_
          refine lv_iload C.1 C.2.1 dX2_reach_61 (lv_at hl 1 rfl) ?_
          refine z_iald C hK hW 4 rfl (by omega) (by omega) dX2_reach_63 ?_
          have hb_63 := hg (k - (g (k - 2)))
          have hv4 := hv (k - g (k - 2)) (by omega) (by omega)
          refine z_iadd C dX2_reach_64 ?_
          refine lv_goto (tgt := 70) C.1 C.2.1 dX2_reach_65 (by decide) ?_
          rw [hQ]
          have hP9 : ∃ z : Int, (some (Value.int (iI ((g (k - (g (k - 1)))) + (g (k - (g (k - 2)))))))) = some (.int (iI z)) ∧ (DueR 0 g k z) ∧ (-2147483648 ≤ z ∧ z ≤ 2147483647) := ⟨_, rfl, (by first | exact ⟨fun q9 => Or.inl ⟨⟨by omega, by omega, by omega, by omega, by omega, by omega⟩, rfl⟩, fun q9 => Or.inr ⟨fun q8 => by have := q8.2.2.2.2.2; omega, rfl⟩⟩ | exact ⟨fun q9 => by omega, fun _ => Or.inr ⟨fun q9 => by obtain ⟨b1, b2, b3, b4, b5, b6⟩ := q9; omega, rfl⟩⟩), (by first | omega | assumption | (intros; first | rfl | omega | assumption | (and_intros <;> first | rfl | omega | assumption)))⟩
          exact z_iretR C hr hlocks hP9 dX2_reach_70
      ·
        refine lv_iload C.1 C.2.1 dX2_reach_34 (lv_at hl 0 rfl) ?_
        refine z_if_lt (tgt := 49) C dX2_reach_36 (by decide) (by omega) (fun c_36 => ?_) (fun c_36 => ?_)
        ·
          refine lv_iconst (v := iI 0) C.1 C.2.1 dX2_reach_49 rfl ?_
          refine lv_istore (lv' := [(5, .int (iI 0)), (4, .int (iI (k - (g (k - 2))))), (3, .int (iI (k - (g (k - 1))))), (0, .ref h), (1, .ref no), (2, .int (iI k))]) C.1 C.2.1 dX2_reach_50 hl (by decide) rfl (fun ls hl => ?_)
          refine lv_iload C.1 C.2.1 dX2_reach_52 (lv_at hl 0 rfl) ?_
          refine z_if_eq (tgt := 68) C dX2_reach_54 (by decide) (by omega) (fun c_54 => ?_) (fun c_54 => ?_)
          ·
            refine lv_bipush (v := iI (-4)) C.1 C.2.1 dX2_reach_68 (by decide +kernel) ?_
            rw [hQ]
            have hP9 : ∃ z : Int, (some (Value.int (iI (-4)))) = some (.int (iI z)) ∧ (DueR 0 g k z) ∧ (-2147483648 ≤ z ∧ z ≤ 2147483647) := ⟨_, rfl, (by first | exact ⟨fun q9 => Or.inl ⟨⟨by omega, by omega, by omega, by omega, by omega, by omega⟩, rfl⟩, fun q9 => Or.inr ⟨fun q8 => by have := q8.2.2.2.2.2; omega, rfl⟩⟩ | exact ⟨fun q9 => by omega, fun _ => Or.inr ⟨fun q9 => by obtain ⟨b1, b2, b3, b4, b5, b6⟩ := q9; omega, rfl⟩⟩), (by first | omega | assumption | (intros; first | rfl | omega | assumption | (and_intros <;> first | rfl | omega | assumption)))⟩
            exact z_iretR C hr hlocks hP9 dX2_reach_70
          ·
            refine lv_aload_n C.1 C.2.1 dX2_reach_57 rfl (lv_at hl 4 rfl) ?_
            refine lv_iload_n C.1 C.2.1 dX2_reach_58 rfl (lv_at hl 2 rfl) ?_
            refine z_iald C hK hW 4 rfl (by omega) (by omega) dX2_reach_59 ?_
            have hb_59 := hg (k - (g (k - 1)))
            have hv3 := hv (k - g (k - 1)) (by omega) (by omega)
            refine lv_aload_n C.1 C.2.1 dX2_reach_60 rfl (lv_at hl 4 rfl) ?_
            refine lv_iload C.1 C.2.1 dX2_reach_61 (lv_at hl 1 rfl) ?_
            refine z_iald C hK hW 4 rfl (by omega) (by omega) dX2_reach_63 ?_
            have hb_63 := hg (k - (g (k - 2)))
            have hv4 := hv (k - g (k - 2)) (by omega) (by omega)
            refine z_iadd C dX2_reach_64 ?_
            refine lv_goto (tgt := 70) C.1 C.2.1 dX2_reach_65 (by decide) ?_
            rw [hQ]
            have hP9 : ∃ z : Int, (some (Value.int (iI ((g (k - (g (k - 1)))) + (g (k - (g (k - 2)))))))) = some (.int (iI z)) ∧ (DueR 0 g k z) ∧ (-2147483648 ≤ z ∧ z ≤ 2147483647) := ⟨_, rfl, (by first | exact ⟨fun q9 => Or.inl ⟨⟨by omega, by omega, by omega, by omega, by omega, by omega⟩, rfl⟩, fun q9 => Or.inr ⟨fun q8 => by have := q8.2.2.2.2.2; omega, rfl⟩⟩ | exact ⟨fun q9 => by omega, fun _ => Or.inr ⟨fun q9 => by obtain ⟨b1, b2, b3, b4, b5, b6⟩ := q9; omega, rfl⟩⟩), (by first | omega | assumption | (intros; first | rfl | omega | assumption | (and_intros <;> first | rfl | omega | assumption)))⟩
            exact z_iretR C hr hlocks hP9 dX2_reach_70
        ·
          refine lv_iload C.1 C.2.1 dX2_reach_39 (lv_at hl 0 rfl) ?_
          refine lv_iload_n C.1 C.2.1 dX2_reach_41 rfl (lv_at hl 4 rfl) ?_
          refine z_icmp_ge (tgt := 49) C dX2_reach_42 (by decide) (by omega) (fun c_42 => ?_) (fun c_42 => ?_)
          ·
            refine lv_iconst (v := iI 0) C.1 C.2.1 dX2_reach_49 rfl ?_
            refine lv_istore (lv' := [(5, .int (iI 0)), (4, .int (iI (k - (g (k - 2))))), (3, .int (iI (k - (g (k - 1))))), (0, .ref h), (1, .ref no), (2, .int (iI k))]) C.1 C.2.1 dX2_reach_50 hl (by decide) rfl (fun ls hl => ?_)
            refine lv_iload C.1 C.2.1 dX2_reach_52 (lv_at hl 0 rfl) ?_
            refine z_if_eq (tgt := 68) C dX2_reach_54 (by decide) (by omega) (fun c_54 => ?_) (fun c_54 => ?_)
            ·
              refine lv_bipush (v := iI (-4)) C.1 C.2.1 dX2_reach_68 (by decide +kernel) ?_
              rw [hQ]
              have hP9 : ∃ z : Int, (some (Value.int (iI (-4)))) = some (.int (iI z)) ∧ (DueR 0 g k z) ∧ (-2147483648 ≤ z ∧ z ≤ 2147483647) := ⟨_, rfl, (by first | exact ⟨fun q9 => Or.inl ⟨⟨by omega, by omega, by omega, by omega, by omega, by omega⟩, rfl⟩, fun q9 => Or.inr ⟨fun q8 => by have := q8.2.2.2.2.2; omega, rfl⟩⟩ | exact ⟨fun q9 => by omega, fun _ => Or.inr ⟨fun q9 => by obtain ⟨b1, b2, b3, b4, b5, b6⟩ := q9; omega, rfl⟩⟩), (by first | omega | assumption | (intros; first | rfl | omega | assumption | (and_intros <;> first | rfl | omega | assumption)))⟩
              exact z_iretR C hr hlocks hP9 dX2_reach_70
            ·
              refine lv_aload_n C.1 C.2.1 dX2_reach_57 rfl (lv_at hl 4 rfl) ?_
              refine lv_iload_n C.1 C.2.1 dX2_reach_58 rfl (lv_at hl 2 rfl) ?_
              refine z_iald C hK hW 4 rfl (by omega) (by omega) dX2_reach_59 ?_
              have hb_59 := hg (k - (g (k - 1)))
              have hv3 := hv (k - g (k - 1)) (by omega) (by omega)
              refine lv_aload_n C.1 C.2.1 dX2_reach_60 rfl (lv_at hl 4 rfl) ?_
              refine lv_iload C.1 C.2.1 dX2_reach_61 (lv_at hl 1 rfl) ?_
              refine z_iald C hK hW 4 rfl (by omega) (by omega) dX2_reach_63 ?_
              have hb_63 := hg (k - (g (k - 2)))
              have hv4 := hv (k - g (k - 2)) (by omega) (by omega)
              refine z_iadd C dX2_reach_64 ?_
              refine lv_goto (tgt := 70) C.1 C.2.1 dX2_reach_65 (by decide) ?_
              rw [hQ]
              have hP9 : ∃ z : Int, (some (Value.int (iI ((g (k - (g (k - 1)))) + (g (k - (g (k - 2)))))))) = some (.int (iI z)) ∧ (DueR 0 g k z) ∧ (-2147483648 ≤ z ∧ z ≤ 2147483647) := ⟨_, rfl, (by first | exact ⟨fun q9 => Or.inl ⟨⟨by omega, by omega, by omega, by omega, by omega, by omega⟩, rfl⟩, fun q9 => Or.inr ⟨fun q8 => by have := q8.2.2.2.2.2; omega, rfl⟩⟩ | exact ⟨fun q9 => by omega, fun _ => Or.inr ⟨fun q9 => by obtain ⟨b1, b2, b3, b4, b5, b6⟩ := q9; omega, rfl⟩⟩), (by first | omega | assumption | (intros; first | rfl | omega | assumption | (and_intros <;> first | rfl | omega | assumption)))⟩
              exact z_iretR C hr hlocks hP9 dX2_reach_70
          ·
            refine lv_iconst (v := iI 1) C.1 C.2.1 dX2_reach_45 rfl ?_
            refine lv_goto (tgt := 50) C.1 C.2.1 dX2_reach_46 (by decide) ?_
            refine lv_istore (lv' := [(5, .int (iI 1)), (4, .int (iI (k - (g (k - 2))))), (3, .int (iI (k - (g (k - 1))))), (0, .ref h), (1, .ref no), (2, .int (iI k))]) C.1 C.2.1 dX2_reach_50 hl (by decide) rfl (fun ls hl => ?_)
            refine lv_iload C.1 C.2.1 dX2_reach_52 (lv_at hl 0 rfl) ?_
            refine z_if_eq (tgt := 68) C dX2_reach_54 (by decide) (by omega) (fun c_54 => ?_) (fun c_54 => ?_)
            ·
              refine lv_bipush (v := iI (-4)) C.1 C.2.1 dX2_reach_68 (by decide +kernel) ?_
              rw [hQ]
              have hP9 : ∃ z : Int, (some (Value.int (iI (-4)))) = some (.int (iI z)) ∧ (DueR 0 g k z) ∧ (-2147483648 ≤ z ∧ z ≤ 2147483647) := ⟨_, rfl, (by first | exact ⟨fun q9 => Or.inl ⟨⟨by omega, by omega, by omega, by omega, by omega, by omega⟩, rfl⟩, fun q9 => Or.inr ⟨fun q8 => by have := q8.2.2.2.2.2; omega, rfl⟩⟩ | exact ⟨fun q9 => by omega, fun _ => Or.inr ⟨fun q9 => by obtain ⟨b1, b2, b3, b4, b5, b6⟩ := q9; omega, rfl⟩⟩), (by first | omega | assumption | (intros; first | rfl | omega | assumption | (and_intros <;> first | rfl | omega | assumption)))⟩
              exact z_iretR C hr hlocks hP9 dX2_reach_70
            ·
              refine lv_aload_n C.1 C.2.1 dX2_reach_57 rfl (lv_at hl 4 rfl) ?_
              refine lv_iload_n C.1 C.2.1 dX2_reach_58 rfl (lv_at hl 2 rfl) ?_
              refine z_iald C hK hW 4 rfl (by omega) (by omega) dX2_reach_59 ?_
              have hb_59 := hg (k - (g (k - 1)))
              have hv3 := hv (k - g (k - 1)) (by omega) (by omega)
              refine lv_aload_n C.1 C.2.1 dX2_reach_60 rfl (lv_at hl 4 rfl) ?_
              refine lv_iload C.1 C.2.1 dX2_reach_61 (lv_at hl 1 rfl) ?_
              refine z_iald C hK hW 4 rfl (by omega) (by omega) dX2_reach_63 ?_
              have hb_63 := hg (k - (g (k - 2)))
              have hv4 := hv (k - g (k - 2)) (by omega) (by omega)
              refine z_iadd C dX2_reach_64 ?_
              refine lv_goto (tgt := 70) C.1 C.2.1 dX2_reach_65 (by decide) ?_
              rw [hQ]
              have hP9 : ∃ z : Int, (some (Value.int (iI ((g (k - (g (k - 1)))) + (g (k - (g (k - 2)))))))) = some (.int (iI z)) ∧ (DueR 0 g k z) ∧ (-2147483648 ≤ z ∧ z ≤ 2147483647) := ⟨_, rfl, (by first | exact ⟨fun q9 => Or.inl ⟨⟨by omega, by omega, by omega, by omega, by omega, by omega⟩, rfl⟩, fun q9 => Or.inr ⟨fun q8 => by have := q8.2.2.2.2.2; omega, rfl⟩⟩ | exact ⟨fun q9 => by omega, fun _ => Or.inr ⟨fun q9 => by obtain ⟨b1, b2, b3, b4, b5, b6⟩ := q9; omega, rfl⟩⟩), (by first | omega | assumption | (intros; first | rfl | omega | assumption | (and_intros <;> first | rfl | omega | assumption)))⟩
              exact z_iretR C hr hlocks hP9 dX2_reach_70
  ·
    refine lv_bipush (v := iI (-4)) C.1 C.2.1 dX2_reach_5 (by decide +kernel) ?_
    rw [hQ]
    have hP9 : ∃ z : Int, (some (Value.int (iI (-4)))) = some (.int (iI z)) ∧ (DueR 0 g k z) ∧ (-2147483648 ≤ z ∧ z ≤ 2147483647) := ⟨_, rfl, ⟨fun q9 => by omega, fun _ => Or.inr ⟨fun q9 => by have := q9.1; omega, rfl⟩⟩, (by first | omega | assumption | (intros; first | rfl | omega | assumption | (and_intros <;> first | rfl | omega | assumption)))⟩
    exact z_iretR C hr hlocks hP9 dX2_reach_7
set_option maxHeartbeats 4000000 in
set_option maxRecDepth 100000 in
/-- Maker.fold -/
theorem c_X2_fold (l : Launch) (G : GG) (h : Nat) (mk : Nat) (ma : Nat) (ae : Nat) (no : Nat) (f : Int → Int) (e : Int → Int) (g : Int → Int) (k : Int) (hf : BD f) (he : BD e) (hg : BD g) (hk : 1 ≤ k ∧ k < 2000) (hv : VAL g k) : MRc l yX2_fold wsX2_fold 0 G [.ref h, .ref no, .int (iI k)] [(h, .inr (1, [.ref mk, .ref ae])), (mk, .inr (2, [.ref ma])), (ma, .inl (G.2.1 0, 60001, .inl (iA f))), (ae, .inl (G.2.1 0, 1000, .inl (iA e))), (no, .inl (G.2.1 0, 2000, .inl (iA g)))] (fun r => ∃ z : Int, r = some (.int (iI z)) ∧ (DueR 1 g k z) ∧ (-2147483648 ≤ z ∧ z ≤ 2147483647)) := by
  refine MRc.start (own := RX2) (by decide) rfl rfl (Nat.le_of_ble_eq_true rfl) ?_
  intro p9 e9 s9 m9 args below meth c9 A Q C hK hW hA hr hlocks hQ ls hl
  have hl : lv_has ls 4 [(0, .ref h), (1, .ref no), (2, .int (iI k))] := hl
  have hv1 := hv (k - 1) (by omega) (by omega)
  refine lv_aload_n C.1 C.2.1 dX2_fold_0 rfl (lv_at hl 1 rfl) ?_
  refine lv_iload_n C.1 C.2.1 dX2_fold_1 rfl (lv_at hl 2 rfl) ?_
  refine lv_iconst (v := iI 1) C.1 C.2.1 dX2_fold_2 rfl ?_
  refine z_isub C dX2_fold_3 ?_
  refine z_iald C hK hW 4 rfl (by omega) (by omega) dX2_fold_4 ?_
  have hb_4 := hg (k - 1)
  refine lv_istore_n (lv' := [(3, .int (iI (g (k - 1)))), (0, .ref h), (1, .ref no), (2, .int (iI k))]) C.1 C.2.1 dX2_fold_5 rfl hl (by decide) rfl (fun ls hl => ?_)
  refine lv_iload_n C.1 C.2.1 dX2_fold_6 rfl (lv_at hl 0 rfl) ?_
  refine lv_iconst (v := iI 1) C.1 C.2.1 dX2_fold_7 rfl ?_
  refine z_icmp_lt (tgt := 30) C dX2_fold_8 (by decide) (by omega) (fun c_8 => ?_) (fun c_8 => ?_)
  ·
    refine lv_bipush (v := iI (-4)) C.1 C.2.1 dX2_fold_30 (by decide +kernel) ?_
    rw [hQ]
    have hP9 : ∃ z : Int, (some (Value.int (iI (-4)))) = some (.int (iI z)) ∧ (DueR 1 g k z) ∧ (-2147483648 ≤ z ∧ z ≤ 2147483647) := ⟨_, rfl, (by first | exact ⟨fun q9 => Or.inl ⟨⟨by omega, by omega, by omega⟩, rfl⟩, fun q9 => Or.inr ⟨fun q8 => by have := q8.2.2; omega, rfl⟩⟩ | exact ⟨fun q9 => by omega, fun _ => Or.inr ⟨fun q9 => by obtain ⟨b1, b2, b3⟩ := q9; omega, rfl⟩⟩), (by first | omega | assumption | (intros; first | rfl | omega | assumption | (and_intros <;> first | rfl | omega | assumption)))⟩
    exact z_iretR C hr hlocks hP9 dX2_fold_32
  ·
    refine lv_iload_n C.1 C.2.1 dX2_fold_11 rfl (lv_at hl 0 rfl) ?_
    refine lv_iload_n C.1 C.2.1 dX2_fold_12 rfl (lv_at hl 3 rfl) ?_
    refine z_icmp_gt (tgt := 30) C dX2_fold_13 (by decide) (by omega) (fun c_13 => ?_) (fun c_13 => ?_)
    ·
      refine lv_bipush (v := iI (-4)) C.1 C.2.1 dX2_fold_30 (by decide +kernel) ?_
      rw [hQ]
      have hP9 : ∃ z : Int, (some (Value.int (iI (-4)))) = some (.int (iI z)) ∧ (DueR 1 g k z) ∧ (-2147483648 ≤ z ∧ z ≤ 2147483647) := ⟨_, rfl, (by first | exact ⟨fun q9 => Or.inl ⟨⟨by omega, by omega, by omega⟩, rfl⟩, fun q9 => Or.inr ⟨fun q8 => by have := q8.2.2; omega, rfl⟩⟩ | exact ⟨fun q9 => by omega, fun _ => Or.inr ⟨fun q9 => by obtain ⟨b1, b2, b3⟩ := q9; omega, rfl⟩⟩), (by first | omega | assumption | (intros; first | rfl | omega | assumption | (and_intros <;> first | rfl | omega | assumption)))⟩
      exact z_iretR C hr hlocks hP9 dX2_fold_32
    ·
      refine lv_aload_n C.1 C.2.1 dX2_fold_16 rfl (lv_at hl 2 rfl) ?_
      refine lv_iload_n C.1 C.2.1 dX2_fold_17 rfl (lv_at hl 0 rfl) ?_
      refine lv_iconst (v := iI 1) C.1 C.2.1 dX2_fold_18 rfl ?_
      refine z_isub C dX2_fold_19 ?_
      refine z_iald C hK hW 4 rfl (by omega) (by omega) dX2_fold_20 ?_
      have hb_20 := hg ((g (k - 1)) - 1)
      have hv3 := hv (g (k - 1) - 1) (by omega) (by omega)
      refine lv_aload_n C.1 C.2.1 dX2_fold_21 rfl (lv_at hl 2 rfl) ?_
      refine lv_iload_n C.1 C.2.1 dX2_fold_22 rfl (lv_at hl 3 rfl) ?_
      refine lv_iload_n C.1 C.2.1 dX2_fold_23 rfl (lv_at hl 0 rfl) ?_
      refine z_isub C dX2_fold_24 ?_
      refine z_iald C hK hW 4 rfl (by omega) (by omega) dX2_fold_25 ?_
      have hb_25 := hg (k - (g (k - 1)))
      have hv4 := hv (k - g (k - 1)) (by omega) (by omega)
      refine z_iadd C dX2_fold_26 ?_
      refine lv_goto (tgt := 32) C.1 C.2.1 dX2_fold_27 (by decide) ?_
      rw [hQ]
      have hP9 : ∃ z : Int, (some (Value.int (iI ((g ((g (k - 1)) - 1)) + (g (k - (g (k - 1)))))))) = some (.int (iI z)) ∧ (DueR 1 g k z) ∧ (-2147483648 ≤ z ∧ z ≤ 2147483647) := ⟨_, rfl, (by first | exact ⟨fun q9 => Or.inl ⟨⟨by omega, by omega, by omega⟩, rfl⟩, fun q9 => Or.inr ⟨fun q8 => by have := q8.2.2; omega, rfl⟩⟩ | exact ⟨fun q9 => by omega, fun _ => Or.inr ⟨fun q9 => by obtain ⟨b1, b2, b3⟩ := q9; omega, rfl⟩⟩), (by first | omega | assumption | (intros; first | rfl | omega | assumption | (and_intros <;> first | rfl | omega | assumption)))⟩
      exact z_iretR C hr hlocks hP9 dX2_fold_32
set_option maxHeartbeats 4000000 in
set_option maxRecDepth 100000 in
/-- Maker.back -/
theorem c_X2_back (l : Launch) (G : GG) (h : Nat) (mk : Nat) (ma : Nat) (ae : Nat) (no : Nat) (f : Int → Int) (e : Int → Int) (g : Int → Int) (x : Int) (k : Int) (hf : BD f) (he : BD e) (hg : BD g) (hk : 1 ≤ k ∧ k < 2000) (hv : VAL g k) (hx : x = g (k - 1)) (hm : ∀ v, 0 ≤ v → v ≤ 60000 → f v = lo g v (k - 1)) : MQc l yX2_back wsX2_back 1 G [.ref h, .int (iI x), .int (iI k)] [(h, .inr (1, [.ref mk, .ref ae])), (mk, .inr (2, [.ref ma])), (ma, .inl (G.2.1 0, 60001, .inl (iA f))), (ae, .inl (G.2.1 0, 1000, .inl (iA e))), (no, .inl (G.2.1 0, 2000, .inl (iA g)))] (fun r (u : (Int → Int)) => ∃ z : Int, r = some (.int (iI z)) ∧ (DueR 2 g k z) ∧ (-2147483648 ≤ z ∧ z ≤ 2147483647) ∧ (∀ v, 0 ≤ v → v ≤ 60000 → u v = lo g v k) ∧ (BD u)) (fun u => [(h, .inr (1, [.ref mk, .ref ae])), (mk, .inr (2, [.ref ma])), (ma, .inl (G.2.1 0, 60001, .inl (iA u))), (ae, .inl (G.2.1 0, 1000, .inl (iA e))), (no, .inl (G.2.1 0, 2000, .inl (iA g)))]) := by
  refine MQc.start (own := RX2) (by decide) rfl rfl (Nat.le_of_ble_eq_true rfl) ?_
  intro p9 e9 s9 m9 args below meth c9 A Q C hK hW hA hr hlocks hQ ls hl
  have hl : lv_has ls 4 [(0, .ref h), (1, .int (iI x)), (2, .int (iI k))] := hl
  have hin2 : ∀ w ∈ wsX20, w ∈ wsX2_back := by decide +kernel
  have hin3 : ∀ w ∈ wsX30, w ∈ wsX2_back := by decide +kernel
  have hv1 := hv (k - 1) (by omega) (by omega)
  have hlb := lo_b (g := g) (v := x) (m := k - 1) (by omega)
  refine lv_aload_n C.1 C.2.1 dX2_back_0 rfl (lv_at hl 0 rfl) ?_
  refine z_get C hK hW hin2 (v := .ref mk) 0 rfl rfl 0 (by decide) (C.2.2.2.2 (.fieldLink RX2 15 "TellingRows$Maker" "marks" "LTellingRows$Marks;") (List.mem_of_getElem? (i := 1) rfl)) (fun _ h9 => h9) rfl dX2_back_1 ?_
  refine lv_iload_n C.1 C.2.1 dX2_back_4 rfl (lv_at hl 1 rfl) ?_
  refine z_callR (va_runV (As := [.int (iI x)]) (rest := []) C (c_X3_of l G mk ma f x hf (by first | omega | assumption | (intros; first | rfl | omega | assumption | (and_intros <;> first | rfl | omega | assumption))) s9.heap.size) (cwV 1 C.2.2.2.2 gX2_back_X3_of rfl rfl rfl (by decide +kernel) ⟨Nat.le_of_ble_eq_true rfl, Nat.le_of_ble_eq_true rfl⟩) (z_preV hK hW hA [1, 2] rfl (by decide) (ci := 2) (q0 := 1) rfl rfl) rfl rfl hl.1 rfl (lv_room (Nat.le_of_ble_eq_true rfl)) dX2_back_5 ⟨Nat.zero_le _, Nat.zero_le _⟩) (fun r hp => ?_)
  have hp : ∃ z : Int, r = some (.int (iI z)) ∧ ((0 ≤ x ∧ x ≤ 60000 → z = f x)) ∧ ((¬ (0 ≤ x ∧ x ≤ 60000) → z = 0)) ∧ (-2147483648 ≤ z ∧ z ≤ 2147483647) := hp
  obtain ⟨z_5, rfl, hz_5_0, hz_5_1, hz_5_2⟩ := hp
  have h5 : z_5 = lo g x (k - 1) := by rw [hz_5_0 (by omega)]; exact hm x (by omega) (by omega)
  refine lv_istore_n (lv' := [(3, .int (iI z_5)), (0, .ref h), (1, .int (iI x)), (2, .int (iI k))]) C.1 C.2.1 dX2_back_8 rfl hl (by decide) rfl (fun ls hl => ?_)
  refine lv_aload_n C.1 C.2.1 dX2_back_9 rfl (lv_at hl 1 rfl) ?_
  refine z_get C hK hW hin2 (v := .ref mk) 0 rfl rfl 0 (by decide) (C.2.2.2.2 (.fieldLink RX2 15 "TellingRows$Maker" "marks" "LTellingRows$Marks;") (List.mem_of_getElem? (i := 1) rfl)) (fun _ h9 => h9) rfl dX2_back_10 ?_
  refine lv_iload_n C.1 C.2.1 dX2_back_13 rfl (lv_at hl 2 rfl) ?_
  refine lv_iload_n C.1 C.2.1 dX2_back_14 rfl (lv_at hl 3 rfl) ?_
  refine z_call (va_runV (As := [.int (iI x), .int (iI k)]) (rest := []) C (c_X3_put l G mk ma f x k hf (by first | omega | assumption | (intros; first | rfl | omega | assumption | (and_intros <;> first | rfl | omega | assumption))) (by first | omega | assumption | (intros; first | rfl | omega | assumption | (and_intros <;> first | rfl | omega | assumption))) s9.heap.size) (cwV 2 C.2.2.2.2 gX2_back_X3_put rfl rfl rfl (by decide +kernel) ⟨Nat.le_of_ble_eq_true rfl, Nat.le_of_ble_eq_true rfl⟩) (z_preV hK hW hA [1, 2] rfl (by decide) (ci := 2) (q0 := 1) rfl rfl) rfl rfl hl.1 rfl (lv_room (Nat.le_of_ble_eq_true rfl)) dX2_back_15 ⟨Nat.zero_le _, Nat.zero_le _⟩) hW hA [1, 2] rfl (by decide) (fun _ => rfl) (fun r u H locs hp hW => ?_)
  obtain ⟨g2_15, rfl⟩ : ∃ q9, q9 = u := ⟨_, rfl⟩
  have hp : r = none ∧ ((0 ≤ x ∧ x ≤ 60000 → g2_15 = up f x k)) ∧ ((¬ (0 ≤ x ∧ x ≤ 60000) → g2_15 = f)) ∧ (BD g2_15) := hp
  obtain ⟨rfl, hz_15_0, hz_15_1, hz_15_2⟩ := hp
  have hW : Wd G A s9.heap [(h, .inr (1, [.ref mk, .ref ae])), (mk, .inr (2, [.ref ma])), (ma, .inl (G.2.1 0, 60001, .inl (iA g2_15))), (ae, .inl (G.2.1 0, 1000, .inl (iA e))), (no, .inl (G.2.1 0, 2000, .inl (iA g)))] H locs := hW
  have h15 := hz_15_0 (by omega)
  refine lv_iload_n C.1 C.2.1 dX2_back_18 rfl (lv_at hl 0 rfl) ?_
  refine z_if_ne (tgt := 26) C dX2_back_19 (by decide) (by omega) (fun c_19 => ?_) (fun c_19 => ?_)
  ·
    refine lv_iload_n C.1 C.2.1 dX2_back_26 rfl (lv_at hl 3 rfl) ?_
    refine lv_iload_n C.1 C.2.1 dX2_back_27 rfl (lv_at hl 0 rfl) ?_
    refine z_isub C dX2_back_28 ?_
    rw [hQ]
    have hP9 : ∃ z : Int, (some (Value.int (iI (k - z_5)))) = some (.int (iI z)) ∧ (DueR 2 g k z) ∧ (-2147483648 ≤ z ∧ z ≤ 2147483647) ∧ (∀ v, 0 ≤ v → v ≤ 60000 → g2_15 v = lo g v k) ∧ (BD g2_15) := ⟨_, rfl, (by have hn : Nx2 g k (if z_5 = 0 then 0 else k - z_5) := by { unfold Nx2; rw [← hx, h5] }; first | (rw [if_pos c_19] at hn; exact ⟨fun _ => hn, fun q9 => by omega⟩) | (rw [if_neg c_19] at hn; exact ⟨fun _ => hn, fun q9 => by omega⟩)), (by first | omega | assumption | (intros; first | rfl | omega | assumption | (and_intros <;> first | rfl | omega | assumption))), (fun v v0 v1 => by rw [h15, show k = (k - 1) + 1 by omega, lo_s (by omega), ← hx]; exact if q9 : v = x then (by subst q9; rw [up_s, if_pos rfl]) else (by rw [up_n _ _ q9, if_neg (fun q8 => q9 q8.symm)]; exact hm v v0 v1)), hz_15_2⟩
    exact z_iret C hr hlocks hW g2_15 rfl hP9 dX2_back_29
  ·
    refine lv_iconst (v := iI 0) C.1 C.2.1 dX2_back_22 rfl ?_
    refine lv_goto (tgt := 29) C.1 C.2.1 dX2_back_23 (by decide) ?_
    rw [hQ]
    have hP9 : ∃ z : Int, (some (Value.int (iI 0))) = some (.int (iI z)) ∧ (DueR 2 g k z) ∧ (-2147483648 ≤ z ∧ z ≤ 2147483647) ∧ (∀ v, 0 ≤ v → v ≤ 60000 → g2_15 v = lo g v k) ∧ (BD g2_15) := ⟨_, rfl, (by have hn : Nx2 g k (if z_5 = 0 then 0 else k - z_5) := by { unfold Nx2; rw [← hx, h5] }; first | (rw [if_pos c_19] at hn; exact ⟨fun _ => hn, fun q9 => by omega⟩) | (rw [if_neg c_19] at hn; exact ⟨fun _ => hn, fun q9 => by omega⟩)), (by first | omega | assumption | (intros; first | rfl | omega | assumption | (and_intros <;> first | rfl | omega | assumption))), (fun v v0 v1 => by rw [h15, show k = (k - 1) + 1 by omega, lo_s (by omega), ← hx]; exact if q9 : v = x then (by subst q9; rw [up_s, if_pos rfl]) else (by rw [up_n _ _ q9, if_neg (fun q8 => q9 q8.symm)]; exact hm v v0 v1)), hz_15_2⟩
    exact z_iret C hr hlocks hW g2_15 rfl hP9 dX2_back_29
set_option maxHeartbeats 4000000 in
set_option maxRecDepth 100000 in
/-- Maker.soFar -/
theorem c_X2_soFar (l : Launch) (G : GG) (h : Nat) (mk : Nat) (ma : Nat) (ae : Nat) (no : Nat) (f : Int → Int) (e : Int → Int) (g : Int → Int) (x : Int) (k : Int) (hf : BD f) (he : BD e) (hg : BD g) (hk : 1 ≤ k ∧ k < 2000) (hv : VAL g k) (hx : x = g (k - 1)) (hm : ∀ v, 0 ≤ v → v ≤ 60000 → f v = oc g v (k - 1)) : MQc l yX2_soFar wsX2_soFar 1 G [.ref h, .int (iI x)] [(h, .inr (1, [.ref mk, .ref ae])), (mk, .inr (2, [.ref ma])), (ma, .inl (G.2.1 0, 60001, .inl (iA f))), (ae, .inl (G.2.1 0, 1000, .inl (iA e))), (no, .inl (G.2.1 0, 2000, .inl (iA g)))] (fun r (u : (Int → Int)) => ∃ z : Int, r = some (.int (iI z)) ∧ (DueR 5 g k z) ∧ (-2147483648 ≤ z ∧ z ≤ 2147483647) ∧ (∀ v, 0 ≤ v → v ≤ 60000 → u v = oc g v k) ∧ (BD u)) (fun u => [(h, .inr (1, [.ref mk, .ref ae])), (mk, .inr (2, [.ref ma])), (ma, .inl (G.2.1 0, 60001, .inl (iA u))), (ae, .inl (G.2.1 0, 1000, .inl (iA e))), (no, .inl (G.2.1 0, 2000, .inl (iA g)))]) := by
  refine MQc.start (own := RX2) (by decide) rfl rfl (Nat.le_of_ble_eq_true rfl) ?_
  intro p9 e9 s9 m9 args below meth c9 A Q C hK hW hA hr hlocks hQ ls hl
  have hl : lv_has ls 2 [(0, .ref h), (1, .int (iI x))] := hl
  have hin2 : ∀ w ∈ wsX20, w ∈ wsX2_soFar := by decide +kernel
  have hin3 : ∀ w ∈ wsX30, w ∈ wsX2_soFar := by decide +kernel
  have hv1 := hv (k - 1) (by omega) (by omega)
  have hob := oc_b (g := g) (v := x) (n := k - 1) (by omega)
  have hfx := hm x (by omega) (by omega)
  refine lv_aload_n C.1 C.2.1 dX2_soFar_0 rfl (lv_at hl 0 rfl) ?_
  refine z_get C hK hW hin2 (v := .ref mk) 0 rfl rfl 0 (by decide) (C.2.2.2.2 (.fieldLink RX2 15 "TellingRows$Maker" "marks" "LTellingRows$Marks;") (List.mem_of_getElem? (i := 1) rfl)) (fun _ h9 => h9) rfl dX2_soFar_1 ?_
  refine lv_iload_n C.1 C.2.1 dX2_soFar_4 rfl (lv_at hl 1 rfl) ?_
  refine z_call (va_runV (As := [.int (iI x)]) (rest := []) C (c_X3_raise l G mk ma f x hf (by first | omega | assumption | (intros; first | rfl | omega | assumption | (and_intros <;> first | rfl | omega | assumption))) (by first | omega | assumption | (intros; first | rfl | omega | assumption | (and_intros <;> first | rfl | omega | assumption))) s9.heap.size) (cwV 1 C.2.2.2.2 gX2_soFar_X3_raise rfl rfl rfl (by decide +kernel) ⟨Nat.le_of_ble_eq_true rfl, Nat.le_of_ble_eq_true rfl⟩) (z_preV hK hW hA [1, 2] rfl (by decide) (ci := 2) (q0 := 1) rfl rfl) rfl rfl hl.1 rfl (lv_room (Nat.le_of_ble_eq_true rfl)) dX2_soFar_5 ⟨Nat.zero_le _, Nat.zero_le _⟩) hW hA [1, 2] rfl (by decide) (fun _ => rfl) (fun r u H locs hp hW => ?_)
  obtain ⟨g2_5, rfl⟩ : ∃ q9, q9 = u := ⟨_, rfl⟩
  have hp : r = none ∧ ((0 ≤ x ∧ x ≤ 60000 → g2_5 = up f x (f x + 1))) ∧ ((¬ (0 ≤ x ∧ x ≤ 60000) → g2_5 = f)) ∧ (BD g2_5) := hp
  obtain ⟨rfl, hz_5_0, hz_5_1, hz_5_2⟩ := hp
  have hW : Wd G A s9.heap [(h, .inr (1, [.ref mk, .ref ae])), (mk, .inr (2, [.ref ma])), (ma, .inl (G.2.1 0, 60001, .inl (iA g2_5))), (ae, .inl (G.2.1 0, 1000, .inl (iA e))), (no, .inl (G.2.1 0, 2000, .inl (iA g)))] H locs := hW
  have h5 := hz_5_0 (by omega)
  have hm2 : ∀ v, 0 ≤ v → v ≤ 60000 → g2_5 v = oc g v k := fun v v0 v1 => by rw [h5, show k = (k - 1) + 1 by omega, oc_s (by omega), ← hx]; exact if q9 : v = x then (by subst q9; rw [up_s, if_pos rfl, hfx]) else (by rw [up_n _ _ q9, if_neg (fun q8 => q9 q8.symm), Int.add_zero]; exact hm v v0 v1)
  have hob2 := oc_b (g := g) (v := x) (n := k) (by omega)
  refine lv_aload_n C.1 C.2.1 dX2_soFar_8 rfl (lv_at hl 0 rfl) ?_
  refine z_get C hK hW hin2 (v := .ref mk) 0 rfl rfl 0 (by decide) (C.2.2.2.2 (.fieldLink RX2 15 "TellingRows$Maker" "marks" "LTellingRows$Marks;") (List.mem_of_getElem? (i := 1) rfl)) (fun _ h9 => h9) rfl dX2_soFar_9 ?_
  refine lv_iload_n C.1 C.2.1 dX2_soFar_12 rfl (lv_at hl 1 rfl) ?_
  refine z_callR (va_runV (As := [.int (iI x)]) (rest := []) C (c_X3_of l G mk ma g2_5 x hz_5_2 (by first | omega | assumption | (intros; first | rfl | omega | assumption | (and_intros <;> first | rfl | omega | assumption))) H.size) (cwV 1 C.2.2.2.2 gX2_soFar_X3_of rfl rfl rfl (by decide +kernel) ⟨Nat.le_of_ble_eq_true rfl, Nat.le_of_ble_eq_true rfl⟩) (z_preV hK hW hA [1, 2] rfl (by decide) (ci := 2) (q0 := 1) rfl rfl) rfl rfl hl.1 rfl (lv_room (Nat.le_of_ble_eq_true rfl)) dX2_soFar_13 ⟨Nat.zero_le _, Nat.zero_le _⟩) (fun r hp => ?_)
  have hp : ∃ z : Int, r = some (.int (iI z)) ∧ ((0 ≤ x ∧ x ≤ 60000 → z = g2_5 x)) ∧ ((¬ (0 ≤ x ∧ x ≤ 60000) → z = 0)) ∧ (-2147483648 ≤ z ∧ z ≤ 2147483647) := hp
  obtain ⟨z_13, rfl, hz_13_0, hz_13_1, hz_13_2⟩ := hp
  have h13 : z_13 = oc g x k := by rw [hz_13_0 (by omega)]; exact hm2 x (by omega) (by omega)
  rw [hQ]
  have hP9 : ∃ z : Int, (some (Value.int (iI z_13))) = some (.int (iI z)) ∧ (DueR 5 g k z) ∧ (-2147483648 ≤ z ∧ z ≤ 2147483647) ∧ (∀ v, 0 ≤ v → v ≤ 60000 → g2_5 v = oc g v k) ∧ (BD g2_5) := ⟨_, rfl, ⟨fun _ => by show Nx5 g k z_13; unfold Nx5; rw [h13, hx], fun q9 => by omega⟩, hz_13_2, hm2, hz_5_2⟩
  exact z_iret C hr hlocks hW g2_5 rfl hP9 dX2_soFar_16
set_option maxHeartbeats 4000000 in
set_option maxRecDepth 100000 in
/-- Maker.sum -/
theorem c_X2_sum (l : Launch) (G : GG) (h : Nat) (mk : Nat) (ma : Nat) (ae : Nat) (no : Nat) (f : Int → Int) (e : Int → Int) (g : Int → Int) (k : Int) (hf : BD f) (he : BD e) (hg : BD g) (hk : 1 ≤ k ∧ k < 2000) (hv : VAL g k) (hm : ∀ v, 0 ≤ v → v ≤ 60000 → f v = pc g v (k - 1)) : MQc l yX2_sum wsX2_sum 1 G [.ref h, .ref no, .int (iI k)] [(h, .inr (1, [.ref mk, .ref ae])), (mk, .inr (2, [.ref ma])), (ma, .inl (G.2.1 0, 60001, .inl (iA f))), (ae, .inl (G.2.1 0, 1000, .inl (iA e))), (no, .inl (G.2.1 0, 2000, .inl (iA g)))] (fun r (u : (Int → Int)) => ∃ z : Int, r = some (.int (iI z)) ∧ (DueR 4 g k z) ∧ (-2147483648 ≤ z ∧ z ≤ 2147483647) ∧ (∀ v, 0 ≤ v → v ≤ 60000 → u v = pc g v k) ∧ (BD u)) (fun u => [(h, .inr (1, [.ref mk, .ref ae])), (mk, .inr (2, [.ref ma])), (ma, .inl (G.2.1 0, 60001, .inl (iA u))), (ae, .inl (G.2.1 0, 1000, .inl (iA e))), (no, .inl (G.2.1 0, 2000, .inl (iA g)))]) := by
  refine MQc.start (own := RX2) (by decide) rfl rfl (Nat.le_of_ble_eq_true rfl) ?_
  intro p9 e9 s9 m9 args below meth c9 A Q C hK hW hA hr hlocks hQ ls hl
  have hl : lv_has ls 5 [(0, .ref h), (1, .ref no), (2, .int (iI k))] := hl
  have hin2 : ∀ w ∈ wsX20, w ∈ wsX2_sum := by decide +kernel
  have hin3 : ∀ w ∈ wsX30, w ∈ wsX2_sum := by decide +kernel
  have hv1 := hv (k - 1) (by omega) (by omega)
  refine lv_aload_n C.1 C.2.1 dX2_sum_0 rfl (lv_at hl 1 rfl) ?_
  refine lv_iload_n C.1 C.2.1 dX2_sum_1 rfl (lv_at hl 2 rfl) ?_
  refine lv_iconst (v := iI 1) C.1 C.2.1 dX2_sum_2 rfl ?_
  refine z_isub C dX2_sum_3 ?_
  refine z_iald C hK hW 4 rfl (by omega) (by omega) dX2_sum_4 ?_
  have hb_4 := hg (k - 1)
  refine lv_istore_n (lv' := [(3, .int (iI (g (k - 1)))), (0, .ref h), (1, .ref no), (2, .int (iI k))]) C.1 C.2.1 dX2_sum_5 rfl hl (by decide) rfl (fun ls hl => ?_)
  refine lv_iconst (v := iI 0) C.1 C.2.1 dX2_sum_6 rfl ?_
  refine lv_istore (lv' := [(4, .int (iI 0)), (3, .int (iI (g (k - 1)))), (0, .ref h), (1, .ref no), (2, .int (iI k))]) C.1 C.2.1 dX2_sum_7 hl (by decide) rfl (fun ls hl => ?_)
  have cut_9 : ∀ (n9 : Nat) (i : Int) (f1 : Int → Int), (0 ≤ i ∧ i ≤ k - 1) → (BD f1) → (∀ v, 0 ≤ v → v ≤ 60000 → f1 v = pc g v (k - 1) + oc g (v - g (k - 1)) i) → (k - i < (n9 : Int)) → ∀ (H : Heap) (locs : List Loc) (ls : Array Slot), Wd G A s9.heap [(h, .inr (1, [.ref mk, .ref ae])), (mk, .inr (2, [.ref ma])), (ma, .inl (G.2.1 0, 60001, .inl (iA f1))), (ae, .inl (G.2.1 0, 1000, .inl (iA e))), (no, .inl (G.2.1 0, 2000, .inl (iA g)))] H locs → lv_has ls 5 [(4, .int (iI i)), (3, .int (iI (g (k - 1)))), (0, .ref h), (1, .ref no), (2, .int (iI k))] → W p9 l e9 (rmL 1) s9 m9 args below meth c9 H locs 0 0 Q (F0 m9 9 ls []) := by
    intro n9
    induction n9 with
    | zero => intro i f1 hi hf1 hm1 hmu; intros; exfalso; omega
    | succ n9 ih_9 =>
      intro i f1 hi hf1 hm1 hmu H locs ls hW hl
      refine lv_iload C.1 C.2.1 dX2_sum_9 (lv_at hl 0 rfl) ?_
      refine lv_iload_n C.1 C.2.1 dX2_sum_11 rfl (lv_at hl 4 rfl) ?_
      refine lv_iconst (v := iI 1) C.1 C.2.1 dX2_sum_12 rfl ?_
      refine z_isub C dX2_sum_13 ?_
      refine z_icmp_ge (tgt := 36) C dX2_sum_14 (by decide) (by omega) (fun c_14 => ?_) (fun c_14 => ?_)
      ·
        have hm2 : ∀ v, 0 ≤ v → v ≤ 60000 → f1 v = pc g v k := fun v v0 v1 => by rw [hm1 v v0 v1, show i = k - 1 by omega, ← pc_s (by omega), show k - 1 + 1 = k by omega]
        refine lv_iload_n C.1 C.2.1 dX2_sum_36 rfl (lv_at hl 1 rfl) ?_
        refine lv_iconst (v := iI 1) C.1 C.2.1 dX2_sum_37 rfl ?_
        refine z_iadd C dX2_sum_38 ?_
        refine lv_istore (lv' := [(4, .int (iI ((g (k - 1)) + 1))), (3, .int (iI (g (k - 1)))), (0, .ref h), (1, .ref no), (2, .int (iI k))]) C.1 C.2.1 dX2_sum_39 hl (by decide) rfl (fun ls hl => ?_)
        have cut_41 : ∀ (n9 : Nat) (w : Int), (g (k - 1) < w ∧ w ≤ 60001) → (∀ x, g (k - 1) < x → x < w → pc g x k ≠ 1) → (60001 - w < (n9 : Int)) → ∀ (H : Heap) (locs : List Loc) (ls : Array Slot), Wd G A s9.heap [(h, .inr (1, [.ref mk, .ref ae])), (mk, .inr (2, [.ref ma])), (ma, .inl (G.2.1 0, 60001, .inl (iA f1))), (ae, .inl (G.2.1 0, 1000, .inl (iA e))), (no, .inl (G.2.1 0, 2000, .inl (iA g)))] H locs → lv_has ls 5 [(4, .int (iI w)), (3, .int (iI (g (k - 1)))), (0, .ref h), (1, .ref no), (2, .int (iI k))] → W p9 l e9 (rmL 1) s9 m9 args below meth c9 H locs 0 0 Q (F0 m9 41 ls []) := by
          intro n9
          induction n9 with
          | zero => intro w hw hno hmu; intros; exfalso; omega
          | succ n9 ih_41 =>
            intro w hw hno hmu H locs ls hW hl
            refine lv_iload C.1 C.2.1 dX2_sum_41 (lv_at hl 0 rfl) ?_
            refine z_ldc (z := 60000) C (C.2.2.2.2 (.constant RX2 118 (60000)) (List.mem_of_getElem? (i := 2) rfl)) (by decide +kernel) dX2_sum_43 ?_
            refine z_icmp_gt (tgt := 70) C dX2_sum_45 (by decide) (by omega) (fun c_45 => ?_) (fun c_45 => ?_)
            ·
              refine lv_bipush (v := iI (-4)) C.1 C.2.1 dX2_sum_70 (by decide +kernel) ?_
              rw [hQ]
              have hP9 : ∃ z : Int, (some (Value.int (iI (-4)))) = some (.int (iI z)) ∧ (DueR 4 g k z) ∧ (-2147483648 ≤ z ∧ z ≤ 2147483647) ∧ (∀ v, 0 ≤ v → v ≤ 60000 → f1 v = pc g v k) ∧ (BD f1) := ⟨_, rfl, ⟨fun q9 => by omega, fun _ => Or.inr ⟨rfl, fun x x0 x1 => hno x x0 (by omega)⟩⟩, (by first | omega | assumption | (intros; first | rfl | omega | assumption | (and_intros <;> first | rfl | omega | assumption))), hm2, hf1⟩
              exact z_iret C hr hlocks hW f1 rfl hP9 dX2_sum_72
            ·
              refine lv_aload_n C.1 C.2.1 dX2_sum_48 rfl (lv_at hl 2 rfl) ?_
              refine z_get C hK hW hin2 (v := .ref mk) 0 rfl rfl 0 (by decide) (C.2.2.2.2 (.fieldLink RX2 15 "TellingRows$Maker" "marks" "LTellingRows$Marks;") (List.mem_of_getElem? (i := 1) rfl)) (fun _ h9 => h9) rfl dX2_sum_49 ?_
              refine lv_iload C.1 C.2.1 dX2_sum_52 (lv_at hl 0 rfl) ?_
              refine z_callR (va_runV (As := [.int (iI w)]) (rest := []) C (c_X3_of l G mk ma f1 w hf1 (by first | omega | assumption | (intros; first | rfl | omega | assumption | (and_intros <;> first | rfl | omega | assumption))) H.size) (cwV 1 C.2.2.2.2 gX2_sum_X3_of rfl rfl rfl (by decide +kernel) ⟨Nat.le_of_ble_eq_true rfl, Nat.le_of_ble_eq_true rfl⟩) (z_preV hK hW hA [1, 2] rfl (by decide) (ci := 2) (q0 := 1) rfl rfl) rfl rfl hl.1 rfl (lv_room (Nat.le_of_ble_eq_true rfl)) dX2_sum_54 ⟨Nat.zero_le _, Nat.zero_le _⟩) (fun r hp => ?_)
              have hp : ∃ z : Int, r = some (.int (iI z)) ∧ ((0 ≤ w ∧ w ≤ 60000 → z = f1 w)) ∧ ((¬ (0 ≤ w ∧ w ≤ 60000) → z = 0)) ∧ (-2147483648 ≤ z ∧ z ≤ 2147483647) := hp
              obtain ⟨z_54, rfl, hz_54_0, hz_54_1, hz_54_2⟩ := hp
              refine lv_iconst (v := iI 1) C.1 C.2.1 dX2_sum_57 rfl ?_
              refine z_icmp_ne (tgt := 64) C dX2_sum_58 (by decide) (by omega) (fun c_58 => ?_) (fun c_58 => ?_)
              ·
                refine lv_iinc (v := iI (w + 1)) (lv' := [(4, .int (iI (w + 1))), (3, .int (iI (g (k - 1)))), (0, .ref h), (1, .ref no), (2, .int (iI k))]) C.1 C.2.1 dX2_sum_64 hl (k := 0) rfl (iI_add _ _) (by decide) rfl (fun ls hl => ?_)
                refine lv_goto (tgt := 41) C.1 C.2.1 dX2_sum_67 (by decide) ?_
                exact ih_41 (w + 1) (by first | omega | assumption | (intros; first | rfl | omega | assumption | (and_intros <;> first | rfl | omega | assumption))) (fun x x0 x1 => (Int.lt_or_le x w).elim (fun q => hno x x0 q) (fun q => by rw [show x = w by omega, ← hm2 w (by omega) (by omega), ← hz_54_0 (by omega)]; exact c_58)) (by omega) _ _ _ hW (lv_sub hl [0, 1, 2, 3, 4] rfl)
              ·
                refine lv_iload C.1 C.2.1 dX2_sum_61 (lv_at hl 0 rfl) ?_
                rw [hQ]
                have hP9 : ∃ z : Int, (some (Value.int (iI w))) = some (.int (iI z)) ∧ (DueR 4 g k z) ∧ (-2147483648 ≤ z ∧ z ≤ 2147483647) ∧ (∀ v, 0 ≤ v → v ≤ 60000 → f1 v = pc g v k) ∧ (BD f1) := ⟨_, rfl, ⟨fun _ => Or.inl ⟨by omega, by omega, by rw [← hm2 w (by omega) (by omega), ← hz_54_0 (by omega)]; exact c_58, hno⟩, fun q9 => by omega⟩, (by first | omega | assumption | (intros; first | rfl | omega | assumption | (and_intros <;> first | rfl | omega | assumption))), hm2, hf1⟩
                exact z_iret C hr hlocks hW f1 rfl hP9 dX2_sum_63
        exact cut_41 (((60001 - ((g (k - 1)) + 1)) + 1 : Int)).toNat ((g (k - 1)) + 1) (by first | omega | assumption | (intros; first | rfl | omega | assumption | (and_intros <;> first | rfl | omega | assumption))) (fun x x0 x1 => by omega) (by omega) _ _ _ hW (lv_sub hl [0, 1, 2, 3, 4] rfl)
      ·
        refine lv_aload_n C.1 C.2.1 dX2_sum_17 rfl (lv_at hl 2 rfl) ?_
        refine z_get C hK hW hin2 (v := .ref mk) 0 rfl rfl 0 (by decide) (C.2.2.2.2 (.fieldLink RX2 15 "TellingRows$Maker" "marks" "LTellingRows$Marks;") (List.mem_of_getElem? (i := 1) rfl)) (fun _ h9 => h9) rfl dX2_sum_18 ?_
        refine lv_iload_n C.1 C.2.1 dX2_sum_21 rfl (lv_at hl 1 rfl) ?_
        refine lv_aload_n C.1 C.2.1 dX2_sum_22 rfl (lv_at hl 3 rfl) ?_
        refine lv_iload C.1 C.2.1 dX2_sum_23 (lv_at hl 0 rfl) ?_
        refine z_iald C hK hW 4 rfl (by omega) (by omega) dX2_sum_25 ?_
        have hb_25 := hg i
        have hv2 := hv i (by omega) (by omega)
        have hob := oc_b (g := g) (v := g (k - 1) + g i - g (k - 1)) (n := i) (by omega)
        have hpb := pc_b (g := g) (v := g (k - 1) + g i) (m := k - 1) (by omega) (by omega)
        refine z_iadd C dX2_sum_26 ?_
        refine z_call (va_runV (As := [.int (iI ((g (k - 1)) + (g i)))]) (rest := []) C (c_X3_raise l G mk ma f1 ((g (k - 1)) + (g i)) hf1 (by first | omega | assumption | (intros; first | rfl | omega | assumption | (and_intros <;> first | rfl | omega | assumption))) (fun v0 v1 => by rw [hm1 _ v0 v1]; omega) H.size) (cwV 1 C.2.2.2.2 gX2_sum_X3_raise rfl rfl rfl (by decide +kernel) ⟨Nat.le_of_ble_eq_true rfl, Nat.le_of_ble_eq_true rfl⟩) (z_preV hK hW hA [1, 2] rfl (by decide) (ci := 2) (q0 := 1) rfl rfl) rfl rfl hl.1 rfl (lv_room (Nat.le_of_ble_eq_true rfl)) dX2_sum_27 ⟨Nat.zero_le _, Nat.zero_le _⟩) hW hA [1, 2] rfl (by decide) (fun _ => rfl) (fun r u H locs hp hW => ?_)
        obtain ⟨g2_27, rfl⟩ : ∃ q9, q9 = u := ⟨_, rfl⟩
        have hp : r = none ∧ ((0 ≤ ((g (k - 1)) + (g i)) ∧ ((g (k - 1)) + (g i)) ≤ 60000 → g2_27 = up f1 ((g (k - 1)) + (g i)) (f1 ((g (k - 1)) + (g i)) + 1))) ∧ ((¬ (0 ≤ ((g (k - 1)) + (g i)) ∧ ((g (k - 1)) + (g i)) ≤ 60000) → g2_27 = f1)) ∧ (BD g2_27) := hp
        obtain ⟨rfl, hz_27_0, hz_27_1, hz_27_2⟩ := hp
        have hW : Wd G A s9.heap [(h, .inr (1, [.ref mk, .ref ae])), (mk, .inr (2, [.ref ma])), (ma, .inl (G.2.1 0, 60001, .inl (iA g2_27))), (ae, .inl (G.2.1 0, 1000, .inl (iA e))), (no, .inl (G.2.1 0, 2000, .inl (iA g)))] H locs := hW
        have h27a : g (k - 1) + g i ≤ 60000 → g2_27 = up f1 (g (k - 1) + g i) (f1 (g (k - 1) + g i) + 1) := fun q9 => hz_27_0 ⟨by omega, q9⟩
        refine lv_iinc (v := iI (i + 1)) (lv' := [(4, .int (iI (i + 1))), (3, .int (iI (g (k - 1)))), (0, .ref h), (1, .ref no), (2, .int (iI k))]) C.1 C.2.1 dX2_sum_30 hl (k := 0) rfl (iI_add _ _) (by decide) rfl (fun ls hl => ?_)
        refine lv_goto (tgt := 9) C.1 C.2.1 dX2_sum_33 (by decide) ?_
        exact ih_9 (i + 1) g2_27 (by first | omega | assumption | (intros; first | rfl | omega | assumption | (and_intros <;> first | rfl | omega | assumption))) hz_27_2 (fun v v0 v1 => by rw [oc_s hi.1]; exact if q7 : g (k - 1) + g i ≤ 60000 then (by rw [h27a q7]; exact if q9 : v = g (k - 1) + g i then (by subst q9; rw [up_s, if_pos (by omega), hm1 _ v0 v1]; omega) else (by rw [up_n _ _ q9, if_neg (by omega), hm1 v v0 v1]; omega)) else (by rw [hz_27_1 (by omega), if_neg (by omega), hm1 v v0 v1]; omega)) (by omega) _ _ _ hW (lv_sub hl [0, 1, 2, 3, 4] rfl)
  exact cut_9 (((k - 0) + 1 : Int)).toNat 0 f (by first | omega | assumption | (intros; first | rfl | omega | assumption | (and_intros <;> first | rfl | omega | assumption))) hf (fun v v0 v1 => by rw [oc_0 (by omega), hm v v0 v1]; omega) (by omega) _ _ _ hW (lv_sub hl [0, 1, 2, 3, 4] rfl)
set_option maxHeartbeats 4000000 in
set_option maxRecDepth 100000 in
/-- Maker.free -/
theorem c_X2_free (l : Launch) (G : GG) (h : Nat) (mk : Nat) (ma : Nat) (ae : Nat) (no : Nat) (f : Int → Int) (e : Int → Int) (g : Int → Int) (k : Int) (hf : BD f) (he : BD e) (hg : BD g) (hk : 1 ≤ k ∧ k < 2000) (hv : VAL g k) (hm : ∀ v, 0 ≤ v → v ≤ 60000 → 0 ≤ f v ∧ f v < k) : MQc l yX2_free wsX2_free 1 G [.ref h, .ref no, .int (iI k)] [(h, .inr (1, [.ref mk, .ref ae])), (mk, .inr (2, [.ref ma])), (ma, .inl (G.2.1 0, 60001, .inl (iA f))), (ae, .inl (G.2.1 0, 1000, .inl (iA e))), (no, .inl (G.2.1 0, 2000, .inl (iA g)))] (fun r (u : (Int → Int)) => ∃ z : Int, r = some (.int (iI z)) ∧ (DueR 6 g k z) ∧ (-2147483648 ≤ z ∧ z ≤ 2147483647) ∧ (∀ v, 0 ≤ v → v ≤ 60000 → 0 ≤ u v ∧ u v < k + 1) ∧ (BD u)) (fun u => [(h, .inr (1, [.ref mk, .ref ae])), (mk, .inr (2, [.ref ma])), (ma, .inl (G.2.1 0, 60001, .inl (iA u))), (ae, .inl (G.2.1 0, 1000, .inl (iA e))), (no, .inl (G.2.1 0, 2000, .inl (iA g)))]) := by
  refine MQc.start (own := RX2) (by decide) rfl rfl (Nat.le_of_ble_eq_true rfl) ?_
  intro p9 e9 s9 m9 args below meth c9 A Q C hK hW hA hr hlocks hQ ls hl
  have hl : lv_has ls 4 [(0, .ref h), (1, .ref no), (2, .int (iI k))] := hl
  have hin2 : ∀ w ∈ wsX20, w ∈ wsX2_free := by decide +kernel
  have hin3 : ∀ w ∈ wsX30, w ∈ wsX2_free := by decide +kernel
  refine lv_iconst (v := iI 1) C.1 C.2.1 dX2_free_0 rfl ?_
  refine lv_istore_n (lv' := [(3, .int (iI 1)), (0, .ref h), (1, .ref no), (2, .int (iI k))]) C.1 C.2.1 dX2_free_1 rfl hl (by decide) rfl (fun ls hl => ?_)
  have cut_2 : ∀ (n9 : Nat) (d : Int) (f1 : Int → Int), (1 ≤ d ∧ 2 * d ≤ k + 2) → (BD f1) → (∀ v, 0 ≤ v → v ≤ 60000 → (f1 v = k ↔ ∃ x, 1 ≤ x ∧ x < d ∧ 2 * g (k - x) - g (k - 2 * x) = v) ∧ 0 ≤ f1 v ∧ f1 v ≤ k) → (k + 2 - 2 * d < (n9 : Int)) → ∀ (H : Heap) (locs : List Loc) (ls : Array Slot), Wd G A s9.heap [(h, .inr (1, [.ref mk, .ref ae])), (mk, .inr (2, [.ref ma])), (ma, .inl (G.2.1 0, 60001, .inl (iA f1))), (ae, .inl (G.2.1 0, 1000, .inl (iA e))), (no, .inl (G.2.1 0, 2000, .inl (iA g)))] H locs → lv_has ls 4 [(3, .int (iI d)), (0, .ref h), (1, .ref no), (2, .int (iI k))] → W p9 l e9 (rmL 1) s9 m9 args below meth c9 H locs 0 0 Q (F0 m9 2 ls []) := by
    intro n9
    induction n9 with
    | zero => intro d f1 hd hf1 hm1 hmu; intros; exfalso; omega
    | succ n9 ih_2 =>
      intro d f1 hd hf1 hm1 hmu H locs ls hW hl
      refine lv_iconst (v := iI 2) C.1 C.2.1 dX2_free_2 rfl ?_
      refine lv_iload_n C.1 C.2.1 dX2_free_3 rfl (lv_at hl 0 rfl) ?_
      refine z_imul C dX2_free_4 ?_
      refine lv_iload_n C.1 C.2.1 dX2_free_5 rfl (lv_at hl 3 rfl) ?_
      refine z_icmp_gt (tgt := 38) C dX2_free_6 (by decide) (by omega) (fun c_6 => ?_) (fun c_6 => ?_)
      ·
        have hF : ∀ v, 0 ≤ v → v ≤ 60000 → (f1 v = k ↔ ¬ FreeAt g k v) := fun v v0 v1 => by rw [(hm1 v v0 v1).1]; exact ⟨fun ⟨x, x1, x2, x3⟩ q9 => q9 x x1 (by omega) x3, fun q9 => Classical.byContradiction (fun q8 => q9 (fun x x1 x2 x3 => q8 ⟨x, x1, by omega, x3⟩))⟩
        refine lv_iconst (v := iI 0) C.1 C.2.1 dX2_free_38 rfl ?_
        refine lv_istore_n (lv' := [(3, .int (iI 0)), (0, .ref h), (1, .ref no), (2, .int (iI k))]) C.1 C.2.1 dX2_free_39 rfl hl (by decide) rfl (fun ls hl => ?_)
        have cut_40 : ∀ (n9 : Nat) (w : Int), (0 ≤ w ∧ w ≤ k + 1) → (∀ x, 0 ≤ x → x < w → f1 x = k) → (k + 1 - w < (n9 : Int)) → ∀ (H : Heap) (locs : List Loc) (ls : Array Slot), Wd G A s9.heap [(h, .inr (1, [.ref mk, .ref ae])), (mk, .inr (2, [.ref ma])), (ma, .inl (G.2.1 0, 60001, .inl (iA f1))), (ae, .inl (G.2.1 0, 1000, .inl (iA e))), (no, .inl (G.2.1 0, 2000, .inl (iA g)))] H locs → lv_has ls 4 [(3, .int (iI w)), (0, .ref h), (1, .ref no), (2, .int (iI k))] → W p9 l e9 (rmL 1) s9 m9 args below meth c9 H locs 0 0 Q (F0 m9 40 ls []) := by
          intro n9
          induction n9 with
          | zero => intro w hw hno hmu; intros; exfalso; omega
          | succ n9 ih_40 =>
            intro w hw hno hmu H locs ls hW hl
            refine lv_iload_n C.1 C.2.1 dX2_free_40 rfl (lv_at hl 0 rfl) ?_
            refine lv_iload_n C.1 C.2.1 dX2_free_41 rfl (lv_at hl 3 rfl) ?_
            refine z_icmp_gt (tgt := 65) C dX2_free_42 (by decide) (by omega) (fun c_42 => ?_) (fun c_42 => ?_)
            ·
              refine lv_bipush (v := iI (-4)) C.1 C.2.1 dX2_free_65 (by decide +kernel) ?_
              rw [hQ]
              have hP9 : ∃ z : Int, (some (Value.int (iI (-4)))) = some (.int (iI z)) ∧ (DueR 6 g k z) ∧ (-2147483648 ≤ z ∧ z ≤ 2147483647) ∧ (∀ v, 0 ≤ v → v ≤ 60000 → 0 ≤ f1 v ∧ f1 v < k + 1) ∧ (BD f1) := ⟨_, rfl, (by exfalso; have hp := pigeon (h := fun x => 2 * g (k - x) - g (k - 2 * x)) (D := (d - 1).toNat) (m := k + 1) (by omega) (fun v v0 v1 => by obtain ⟨x, x1, x2, x3⟩ := (hm1 v v0 (by omega)).1.mp (hno v v0 (by omega)); exact ⟨x.toNat, by omega, by omega, by rw [Int.toNat_of_nonneg (by omega)]; exact x3⟩); omega), (by first | omega | assumption | (intros; first | rfl | omega | assumption | (and_intros <;> first | rfl | omega | assumption))), (fun v v0 v1 => by have := (hm1 v v0 v1).2; omega), hf1⟩
              exact z_iret C hr hlocks hW f1 rfl hP9 dX2_free_67
            ·
              refine lv_aload_n C.1 C.2.1 dX2_free_45 rfl (lv_at hl 1 rfl) ?_
              refine z_get C hK hW hin2 (v := .ref mk) 0 rfl rfl 0 (by decide) (C.2.2.2.2 (.fieldLink RX2 15 "TellingRows$Maker" "marks" "LTellingRows$Marks;") (List.mem_of_getElem? (i := 1) rfl)) (fun _ h9 => h9) rfl dX2_free_46 ?_
              refine lv_iload_n C.1 C.2.1 dX2_free_49 rfl (lv_at hl 0 rfl) ?_
              refine z_callR (va_runV (As := [.int (iI w)]) (rest := []) C (c_X3_of l G mk ma f1 w hf1 (by first | omega | assumption | (intros; first | rfl | omega | assumption | (and_intros <;> first | rfl | omega | assumption))) H.size) (cwV 1 C.2.2.2.2 gX2_free_X3_of rfl rfl rfl (by decide +kernel) ⟨Nat.le_of_ble_eq_true rfl, Nat.le_of_ble_eq_true rfl⟩) (z_preV hK hW hA [1, 2] rfl (by decide) (ci := 2) (q0 := 1) rfl rfl) rfl rfl hl.1 rfl (lv_room (Nat.le_of_ble_eq_true rfl)) dX2_free_50 ⟨Nat.zero_le _, Nat.zero_le _⟩) (fun r hp => ?_)
              have hp : ∃ z : Int, r = some (.int (iI z)) ∧ ((0 ≤ w ∧ w ≤ 60000 → z = f1 w)) ∧ ((¬ (0 ≤ w ∧ w ≤ 60000) → z = 0)) ∧ (-2147483648 ≤ z ∧ z ≤ 2147483647) := hp
              obtain ⟨z_50, rfl, hz_50_0, hz_50_1, hz_50_2⟩ := hp
              refine lv_iload_n C.1 C.2.1 dX2_free_53 rfl (lv_at hl 3 rfl) ?_
              refine z_icmp_eq (tgt := 59) C dX2_free_54 (by decide) (by omega) (fun c_54 => ?_) (fun c_54 => ?_)
              ·
                refine lv_iinc (v := iI (w + 1)) (lv' := [(3, .int (iI (w + 1))), (0, .ref h), (1, .ref no), (2, .int (iI k))]) C.1 C.2.1 dX2_free_59 hl (k := 0) rfl (iI_add _ _) (by decide) rfl (fun ls hl => ?_)
                refine lv_goto (tgt := 40) C.1 C.2.1 dX2_free_62 (by decide) ?_
                exact ih_40 (w + 1) (by first | omega | assumption | (intros; first | rfl | omega | assumption | (and_intros <;> first | rfl | omega | assumption))) (fun x x0 x1 => (Int.lt_or_le x w).elim (fun q => hno x x0 q) (fun q => by rw [show x = w by omega, ← hz_50_0 (by omega)]; exact c_54)) (by omega) _ _ _ hW (lv_sub hl [0, 1, 2, 3] rfl)
              ·
                refine lv_iload_n C.1 C.2.1 dX2_free_57 rfl (lv_at hl 0 rfl) ?_
                rw [hQ]
                have hP9 : ∃ z : Int, (some (Value.int (iI w))) = some (.int (iI z)) ∧ (DueR 6 g k z) ∧ (-2147483648 ≤ z ∧ z ≤ 2147483647) ∧ (∀ v, 0 ≤ v → v ≤ 60000 → 0 ≤ f1 v ∧ f1 v < k + 1) ∧ (BD f1) := ⟨_, rfl, ⟨fun _ => ⟨by omega, by omega, Classical.byContradiction (fun q9 => c_54 (by rw [hz_50_0 (by omega)]; exact (hF w (by omega) (by omega)).mpr q9)), fun x x0 x1 => (hF x x0 (by omega)).mp (hno x x0 x1)⟩, fun q9 => by omega⟩, (by first | omega | assumption | (intros; first | rfl | omega | assumption | (and_intros <;> first | rfl | omega | assumption))), (fun v v0 v1 => by have := (hm1 v v0 v1).2; omega), hf1⟩
                exact z_iret C hr hlocks hW f1 rfl hP9 dX2_free_58
        exact cut_40 (((k + 1 - 0) + 1 : Int)).toNat 0 (by first | omega | assumption | (intros; first | rfl | omega | assumption | (and_intros <;> first | rfl | omega | assumption))) (fun x x0 x1 => by omega) (by omega) _ _ _ hW (lv_sub hl [0, 1, 2, 3] rfl)
      ·
        refine lv_aload_n C.1 C.2.1 dX2_free_9 rfl (lv_at hl 1 rfl) ?_
        refine z_get C hK hW hin2 (v := .ref mk) 0 rfl rfl 0 (by decide) (C.2.2.2.2 (.fieldLink RX2 15 "TellingRows$Maker" "marks" "LTellingRows$Marks;") (List.mem_of_getElem? (i := 1) rfl)) (fun _ h9 => h9) rfl dX2_free_10 ?_
        refine lv_iconst (v := iI 2) C.1 C.2.1 dX2_free_13 rfl ?_
        refine lv_aload_n C.1 C.2.1 dX2_free_14 rfl (lv_at hl 2 rfl) ?_
        refine lv_iload_n C.1 C.2.1 dX2_free_15 rfl (lv_at hl 3 rfl) ?_
        refine lv_iload_n C.1 C.2.1 dX2_free_16 rfl (lv_at hl 0 rfl) ?_
        refine z_isub C dX2_free_17 ?_
        refine z_iald C hK hW 4 rfl (by omega) (by omega) dX2_free_18 ?_
        have hb_18 := hg (k - d)
        have hv2 := hv (k - d) (by omega) (by omega)
        refine z_imul C dX2_free_19 ?_
        refine lv_aload_n C.1 C.2.1 dX2_free_20 rfl (lv_at hl 2 rfl) ?_
        refine lv_iload_n C.1 C.2.1 dX2_free_21 rfl (lv_at hl 3 rfl) ?_
        refine lv_iconst (v := iI 2) C.1 C.2.1 dX2_free_22 rfl ?_
        refine lv_iload_n C.1 C.2.1 dX2_free_23 rfl (lv_at hl 0 rfl) ?_
        refine z_imul C dX2_free_24 ?_
        refine z_isub C dX2_free_25 ?_
        refine z_iald C hK hW 4 rfl (by omega) (by omega) dX2_free_26 ?_
        have hb_26 := hg (k - (2 * d))
        have hv3 := hv (k - 2 * d) (by omega) (by omega)
        refine z_isub C dX2_free_27 ?_
        refine lv_iload_n C.1 C.2.1 dX2_free_28 rfl (lv_at hl 3 rfl) ?_
        refine z_call (va_runV (As := [.int (iI ((2 * (g (k - d))) - (g (k - (2 * d))))), .int (iI k)]) (rest := []) C (c_X3_put l G mk ma f1 ((2 * (g (k - d))) - (g (k - (2 * d)))) k hf1 (by first | omega | assumption | (intros; first | rfl | omega | assumption | (and_intros <;> first | rfl | omega | assumption))) (by first | omega | assumption | (intros; first | rfl | omega | assumption | (and_intros <;> first | rfl | omega | assumption))) H.size) (cwV 2 C.2.2.2.2 gX2_free_X3_put rfl rfl rfl (by decide +kernel) ⟨Nat.le_of_ble_eq_true rfl, Nat.le_of_ble_eq_true rfl⟩) (z_preV hK hW hA [1, 2] rfl (by decide) (ci := 2) (q0 := 1) rfl rfl) rfl rfl hl.1 rfl (lv_room (Nat.le_of_ble_eq_true rfl)) dX2_free_29 ⟨Nat.zero_le _, Nat.zero_le _⟩) hW hA [1, 2] rfl (by decide) (fun _ => rfl) (fun r u H locs hp hW => ?_)
        obtain ⟨g2_29, rfl⟩ : ∃ q9, q9 = u := ⟨_, rfl⟩
        have hp : r = none ∧ ((0 ≤ ((2 * (g (k - d))) - (g (k - (2 * d)))) ∧ ((2 * (g (k - d))) - (g (k - (2 * d)))) ≤ 60000 → g2_29 = up f1 ((2 * (g (k - d))) - (g (k - (2 * d)))) k)) ∧ ((¬ (0 ≤ ((2 * (g (k - d))) - (g (k - (2 * d)))) ∧ ((2 * (g (k - d))) - (g (k - (2 * d)))) ≤ 60000) → g2_29 = f1)) ∧ (BD g2_29) := hp
        obtain ⟨rfl, hz_29_0, hz_29_1, hz_29_2⟩ := hp
        have hW : Wd G A s9.heap [(h, .inr (1, [.ref mk, .ref ae])), (mk, .inr (2, [.ref ma])), (ma, .inl (G.2.1 0, 60001, .inl (iA g2_29))), (ae, .inl (G.2.1 0, 1000, .inl (iA e))), (no, .inl (G.2.1 0, 2000, .inl (iA g)))] H locs := hW
        refine lv_iinc (v := iI (d + 1)) (lv' := [(3, .int (iI (d + 1))), (0, .ref h), (1, .ref no), (2, .int (iI k))]) C.1 C.2.1 dX2_free_32 hl (k := 0) rfl (iI_add _ _) (by decide) rfl (fun ls hl => ?_)
        refine lv_goto (tgt := 2) C.1 C.2.1 dX2_free_35 (by decide) ?_
        exact ih_2 (d + 1) g2_29 (by first | omega | assumption | (intros; first | rfl | omega | assumption | (and_intros <;> first | rfl | omega | assumption))) hz_29_2 (fun v v0 v1 => by have h1 := hm1 v v0 v1; exact if q7 : v = 2 * g (k - d) - g (k - 2 * d) then (by have e9 := hz_29_0 (by omega); rw [e9, q7, up_s]; exact ⟨⟨fun _ => ⟨d, by omega, by omega, rfl⟩, fun _ => rfl⟩, by omega, by omega⟩) else (by have e9 : g2_29 v = f1 v := (if q6 : 0 ≤ 2 * g (k - d) - g (k - 2 * d) ∧ 2 * g (k - d) - g (k - 2 * d) ≤ 60000 then (by rw [hz_29_0 q6, up_n _ _ q7]) else (by rw [hz_29_1 q6])); rw [e9]; exact ⟨⟨fun q5 => by obtain ⟨x, x1, x2, x3⟩ := h1.1.mp q5; exact ⟨x, x1, by omega, x3⟩, fun ⟨x, x1, x2, x3⟩ => h1.1.mpr ⟨x, x1, (Int.lt_or_le x d).elim id (fun q4 => absurd (show v = 2 * g (k - d) - g (k - 2 * d) by rw [← x3, show x = d by omega]) q7), x3⟩⟩, h1.2.1, h1.2.2⟩)) (by omega) _ _ _ hW (lv_sub hl [0, 1, 2, 3] rfl)
  exact cut_2 (((k + 2 - 2 * 1) + 1 : Int)).toNat 1 f (by first | omega | assumption | (intros; first | rfl | omega | assumption | (and_intros <;> first | rfl | omega | assumption))) hf (fun v v0 v1 => by have := hm v v0 v1; exact ⟨⟨fun q9 => by omega, fun ⟨x, x1, x2, _⟩ => by omega⟩, by omega, by omega⟩) (by omega) _ _ _ hW (lv_sub hl [0, 1, 2, 3] rfl)
set_option maxHeartbeats 4000000 in
set_option maxRecDepth 100000 in
/-- Maker.again -/
theorem c_X2_again (l : Launch) (G : GG) (h : Nat) (mk : Nat) (ma : Nat) (ae : Nat) (no : Nat) (f : Int → Int) (e : Int → Int) (g : Int → Int) (k : Int) (hf : BD f) (he : BD e) (hg : BD g) (hk : 1 ≤ k ∧ k < 2000) (hv : VAL g k) (hm : ∀ s, 1 ≤ s → s ≤ 999 → e s = al g s (k - 1)) : MQc l yX2_again wsX2_again 1 G [.ref h, .ref no, .int (iI k)] [(h, .inr (1, [.ref mk, .ref ae])), (mk, .inr (2, [.ref ma])), (ma, .inl (G.2.1 0, 60001, .inl (iA f))), (ae, .inl (G.2.1 0, 1000, .inl (iA e))), (no, .inl (G.2.1 0, 2000, .inl (iA g)))] (fun r (u : (Int → Int)) => ∃ z : Int, r = some (.int (iI z)) ∧ (DueR 3 g k z) ∧ (-2147483648 ≤ z ∧ z ≤ 2147483647) ∧ (∀ s, 1 ≤ s → s ≤ 999 → u s = al g s k) ∧ (BD u)) (fun u => [(h, .inr (1, [.ref mk, .ref ae])), (mk, .inr (2, [.ref ma])), (ma, .inl (G.2.1 0, 60001, .inl (iA f))), (ae, .inl (G.2.1 0, 1000, .inl (iA u))), (no, .inl (G.2.1 0, 2000, .inl (iA g)))]) := by
  refine MQc.start (own := RX2) (by decide) rfl rfl (Nat.le_of_ble_eq_true rfl) ?_
  intro p9 e9 s9 m9 args below meth c9 A Q C hK hW hA hr hlocks hQ ls hl
  have hl : lv_has ls 5 [(0, .ref h), (1, .ref no), (2, .int (iI k))] := hl
  have hin2 : ∀ w ∈ wsX20, w ∈ wsX2_again := by decide +kernel
  refine lv_iconst (v := iI 1) C.1 C.2.1 dX2_again_0 rfl ?_
  refine lv_istore_n (lv' := [(3, .int (iI 1)), (0, .ref h), (1, .ref no), (2, .int (iI k))]) C.1 C.2.1 dX2_again_1 rfl hl (by decide) rfl (fun ls hl => ?_)
  refine lv_iconst (v := iI 1) C.1 C.2.1 dX2_again_2 rfl ?_
  refine lv_istore (lv' := [(4, .int (iI 1)), (3, .int (iI 1)), (0, .ref h), (1, .ref no), (2, .int (iI k))]) C.1 C.2.1 dX2_again_3 hl (by decide) rfl (fun ls hl => ?_)
  have cut_5 : ∀ (n9 : Nat) (mo : Int) (bl : Int) (e1 : Int → Int), (1 ≤ bl ∧ bl ≤ k ∧ bl ≤ 1000) → (BD e1) → (∀ s, 1 ≤ s → s ≤ 999 → e1 s = if s < bl then al g s k else al g s (k - 1)) → (mo = ag g k (bl - 1)) → (1000 - bl < (n9 : Int)) → ∀ (H : Heap) (locs : List Loc) (ls : Array Slot), Wd G A s9.heap [(h, .inr (1, [.ref mk, .ref ae])), (mk, .inr (2, [.ref ma])), (ma, .inl (G.2.1 0, 60001, .inl (iA f))), (ae, .inl (G.2.1 0, 1000, .inl (iA e1))), (no, .inl (G.2.1 0, 2000, .inl (iA g)))] H locs → lv_has ls 5 [(4, .int (iI bl)), (3, .int (iI mo)), (0, .ref h), (1, .ref no), (2, .int (iI k))] → W p9 l e9 (rmL 1) s9 m9 args below meth c9 H locs 0 0 Q (F0 m9 5 ls []) := by
    intro n9
    induction n9 with
    | zero => intro mo bl e1 hb he1 hm1 hmo hmu; intros; exfalso; omega
    | succ n9 ih_5 =>
      intro mo bl e1 hb he1 hm1 hmo hmu H locs ls hW hl
      have hg1 := ag_1 (g := g) (k := k) (m := bl - 1) (by omega)
      have hg2 := ag_le (g := g) (k := k) (m := bl - 1) (by omega) (by omega)
      refine lv_iload C.1 C.2.1 dX2_again_5 (lv_at hl 0 rfl) ?_
      refine lv_iload_n C.1 C.2.1 dX2_again_7 rfl (lv_at hl 4 rfl) ?_
      refine z_icmp_ge (tgt := 92) C dX2_again_8 (by decide) (by omega) (fun c_8 => ?_) (fun c_8 => ?_)
      ·
        refine lv_iload_n C.1 C.2.1 dX2_again_92 rfl (lv_at hl 1 rfl) ?_
        rw [hQ]
        have hP9 : ∃ z : Int, (some (Value.int (iI mo))) = some (.int (iI z)) ∧ (DueR 3 g k z) ∧ (-2147483648 ≤ z ∧ z ≤ 2147483647) ∧ (∀ s, 1 ≤ s → s ≤ 999 → e1 s = al g s k) ∧ (BD e1) := ⟨_, rfl, ⟨fun _ => by show Nx3 g k mo; unfold Nx3; rw [hmo]; exact (ag_stab (by omega) (by omega) (fun s s0 s1 => by have := al_b (g := g) (s := s) (m := k) (by omega) (by omega); omega) (by omega)).symm, fun q9 => by omega⟩, (by first | omega | assumption | (intros; first | rfl | omega | assumption | (and_intros <;> first | rfl | omega | assumption))), (fun s s0 s1 => by rw [hm1 s s0 s1]; exact if q5 : s < bl then (by rw [if_pos q5]) else (by rw [if_neg q5]; have h1 := al_b (g := g) (s := s) (m := k) (by omega) (by omega); have h2 := al_b (g := g) (s := s) (m := k - 1) (by omega) (by omega); omega)), he1⟩
        exact z_iret C hr hlocks hW e1 rfl hP9 dX2_again_93
      ·
        refine lv_iload C.1 C.2.1 dX2_again_11 (lv_at hl 0 rfl) ?_
        refine lv_aload_n C.1 C.2.1 dX2_again_13 rfl (lv_at hl 2 rfl) ?_
        refine z_get C hK hW hin2 (v := .ref ae) 0 rfl rfl 1 (by decide) (C.2.2.2.2 (.fieldLink RX2 9 "TellingRows$Maker" "alike" "[I") (List.mem_of_getElem? (i := 1) rfl)) (fun _ h9 => h9) rfl dX2_again_14 ?_
        refine z_alen C hK hW 3 0 rfl rfl dX2_again_17 ?_
        refine z_icmp_ge (tgt := 92) C dX2_again_18 (by decide) (by omega) (fun c_18 => ?_) (fun c_18 => ?_)
        ·
          refine lv_iload_n C.1 C.2.1 dX2_again_92 rfl (lv_at hl 1 rfl) ?_
          rw [hQ]
          have hP9 : ∃ z : Int, (some (Value.int (iI mo))) = some (.int (iI z)) ∧ (DueR 3 g k z) ∧ (-2147483648 ≤ z ∧ z ≤ 2147483647) ∧ (∀ s, 1 ≤ s → s ≤ 999 → e1 s = al g s k) ∧ (BD e1) := ⟨_, rfl, ⟨fun _ => by show Nx3 g k mo; unfold Nx3; rw [hmo]; exact (ag_stab (by omega) (by omega) (fun s s0 s1 => by have := al_b (g := g) (s := s) (m := k) (by omega) (by omega); omega) (by omega)).symm, fun q9 => by omega⟩, (by first | omega | assumption | (intros; first | rfl | omega | assumption | (and_intros <;> first | rfl | omega | assumption))), (fun s s0 s1 => by rw [hm1 s s0 s1]; exact if q5 : s < bl then (by rw [if_pos q5]) else (by rw [if_neg q5]; have h1 := al_b (g := g) (s := s) (m := k) (by omega) (by omega); have h2 := al_b (g := g) (s := s) (m := k - 1) (by omega) (by omega); omega)), he1⟩
          exact z_iret C hr hlocks hW e1 rfl hP9 dX2_again_93
        ·
          have cut_57 : ∀ (e2 : Int → Int), (BD e2) → (∀ s, 1 ≤ s → s ≤ 999 → e2 s = if s < bl + 1 then al g s k else al g s (k - 1)) → ∀ (H : Heap) (locs : List Loc) (ls : Array Slot), Wd G A s9.heap [(h, .inr (1, [.ref mk, .ref ae])), (mk, .inr (2, [.ref ma])), (ma, .inl (G.2.1 0, 60001, .inl (iA f))), (ae, .inl (G.2.1 0, 1000, .inl (iA e2))), (no, .inl (G.2.1 0, 2000, .inl (iA g)))] H locs → lv_has ls 5 [(4, .int (iI bl)), (3, .int (iI mo)), (0, .ref h), (1, .ref no), (2, .int (iI k))] → W p9 l e9 (rmL 1) s9 m9 args below meth c9 H locs 0 0 Q (F0 m9 57 ls []) := by
            intro e2 he2b he2 H locs ls hW hl
            have hab : e2 bl = al g bl k := by rw [he2 bl (by omega) (by omega), if_pos (by omega)]
            have hal := al_b (g := g) (s := bl) (m := k) (by omega) (by omega)
            have hdv1 : 0 ≤ e2 bl / bl := Int.ediv_nonneg (by omega) (by omega)
            have hdv2 : e2 bl / bl ≤ e2 bl := Int.ediv_le_self _ (by omega)
            refine lv_aload_n C.1 C.2.1 dX2_again_57 rfl (lv_at hl 2 rfl) ?_
            refine z_get C hK hW hin2 (v := .ref ae) 0 rfl rfl 1 (by decide) (C.2.2.2.2 (.fieldLink RX2 9 "TellingRows$Maker" "alike" "[I") (List.mem_of_getElem? (i := 1) rfl)) (fun _ h9 => h9) rfl dX2_again_58 ?_
            refine lv_iload C.1 C.2.1 dX2_again_61 (lv_at hl 0 rfl) ?_
            refine z_iald C hK hW 3 rfl (by omega) (by omega) dX2_again_63 ?_
            have hb_63 := he2b bl
            refine lv_iload C.1 C.2.1 dX2_again_64 (lv_at hl 0 rfl) ?_
            refine z_icmp_lt (tgt := 86) C dX2_again_66 (by decide) (by omega) (fun c_66 => ?_) (fun c_66 => ?_)
            ·
              refine lv_iinc (v := iI (bl + 1)) (lv' := [(4, .int (iI (bl + 1))), (3, .int (iI mo)), (0, .ref h), (1, .ref no), (2, .int (iI k))]) C.1 C.2.1 dX2_again_86 hl (k := 0) rfl (iI_add _ _) (by decide) rfl (fun ls hl => ?_)
              refine lv_goto (tgt := 5) C.1 C.2.1 dX2_again_89 (by decide) ?_
              exact ih_5 mo (bl + 1) e2 (by first | omega | assumption | (intros; first | rfl | omega | assumption | (and_intros <;> first | rfl | omega | assumption))) he2b (fun s s0 s1 => he2 s s0 s1) (by first | (rw [show bl + 1 - 1 = (bl - 1) + 1 by omega, ag_s (by omega), show bl - 1 + 1 = bl by omega, ← hmo, ← hab]; done) | (rw [show bl + 1 - 1 = (bl - 1) + 1 by omega, ag_s (by omega), show bl - 1 + 1 = bl by omega, ← hmo, ← hab]; have hz9 := Int.ediv_eq_zero_of_lt (a := e2 bl) (b := bl) (by omega) (by omega); omega)) (by omega) _ _ _ hW (lv_sub hl [0, 1, 2, 3, 4] rfl)
            ·
              refine lv_iload_n C.1 C.2.1 dX2_again_69 rfl (lv_at hl 1 rfl) ?_
              refine lv_aload_n C.1 C.2.1 dX2_again_70 rfl (lv_at hl 2 rfl) ?_
              refine z_get C hK hW hin2 (v := .ref ae) 0 rfl rfl 1 (by decide) (C.2.2.2.2 (.fieldLink RX2 9 "TellingRows$Maker" "alike" "[I") (List.mem_of_getElem? (i := 1) rfl)) (fun _ h9 => h9) rfl dX2_again_71 ?_
              refine lv_iload C.1 C.2.1 dX2_again_74 (lv_at hl 0 rfl) ?_
              refine z_iald C hK hW 3 rfl (by omega) (by omega) dX2_again_76 ?_
              have hb_76 := he2b bl
              refine lv_iload C.1 C.2.1 dX2_again_77 (lv_at hl 0 rfl) ?_
              refine z_idiv C dX2_again_79 (by omega) ?_
              refine lv_iconst (v := iI 1) C.1 C.2.1 dX2_again_80 rfl ?_
              refine z_iadd C dX2_again_81 ?_
              refine z_mmax C hl.1 (C.2.2.2.2 (.methodLink RX2 109 Lib.Math.max.name) (List.mem_of_getElem? (i := 2) rfl)) (C.2.2.2.2 (.static Lib.Math.max.name) (List.mem_of_getElem? (i := 3) rfl)) (C.2.2.2.2 (.initialized "java/lang/Math") (List.mem_of_getElem? (i := 4) rfl)) (C.2.2.2.2 (.code Lib.Math.max.name Lib.Math.max.code 2 (some .int)) (List.mem_of_getElem? (i := 5) rfl)) (Nat.le_of_ble_eq_true rfl) (Nat.le_of_ble_eq_true rfl) (Nat.zero_le _) (Nat.zero_le _) (by omega) dX2_again_82 ?_
              refine lv_istore_n (lv' := [(3, .int (iI (max mo (((e2 bl) / bl) + 1)))), (4, .int (iI bl)), (0, .ref h), (1, .ref no), (2, .int (iI k))]) C.1 C.2.1 dX2_again_85 rfl hl (by decide) rfl (fun ls hl => ?_)
              refine lv_iinc (v := iI (bl + 1)) (lv' := [(4, .int (iI (bl + 1))), (3, .int (iI (max mo (((e2 bl) / bl) + 1)))), (0, .ref h), (1, .ref no), (2, .int (iI k))]) C.1 C.2.1 dX2_again_86 hl (k := 1) rfl (iI_add _ _) (by decide) rfl (fun ls hl => ?_)
              refine lv_goto (tgt := 5) C.1 C.2.1 dX2_again_89 (by decide) ?_
              exact ih_5 (max mo (((e2 bl) / bl) + 1)) (bl + 1) e2 (by first | omega | assumption | (intros; first | rfl | omega | assumption | (and_intros <;> first | rfl | omega | assumption))) he2b (fun s s0 s1 => he2 s s0 s1) (by first | (rw [show bl + 1 - 1 = (bl - 1) + 1 by omega, ag_s (by omega), show bl - 1 + 1 = bl by omega, ← hmo, ← hab]; done) | (rw [show bl + 1 - 1 = (bl - 1) + 1 by omega, ag_s (by omega), show bl - 1 + 1 = bl by omega, ← hmo, ← hab]; have hz9 := Int.ediv_eq_zero_of_lt (a := e2 bl) (b := bl) (by omega) (by omega); omega)) (by omega) _ _ _ hW (lv_sub hl [0, 1, 2, 3, 4] rfl)
          have hal1 := al_b (g := g) (s := bl) (m := k - 1) (by omega) (by omega)
          have hs1 := hm1 bl (by omega) (by omega)
          rw [if_neg (by omega)] at hs1
          refine lv_aload_n C.1 C.2.1 dX2_again_21 rfl (lv_at hl 2 rfl) ?_
          refine z_get C hK hW hin2 (v := .ref ae) 0 rfl rfl 1 (by decide) (C.2.2.2.2 (.fieldLink RX2 9 "TellingRows$Maker" "alike" "[I") (List.mem_of_getElem? (i := 1) rfl)) (fun _ h9 => h9) rfl dX2_again_22 ?_
          refine lv_iload C.1 C.2.1 dX2_again_25 (lv_at hl 0 rfl) ?_
          refine lv_aload_n C.1 C.2.1 dX2_again_27 rfl (lv_at hl 3 rfl) ?_
          refine lv_iload_n C.1 C.2.1 dX2_again_28 rfl (lv_at hl 4 rfl) ?_
          refine lv_iconst (v := iI 1) C.1 C.2.1 dX2_again_29 rfl ?_
          refine z_isub C dX2_again_30 ?_
          refine z_iald C hK hW 4 rfl (by omega) (by omega) dX2_again_31 ?_
          have hb_31 := hg (k - 1)
          refine lv_aload_n C.1 C.2.1 dX2_again_32 rfl (lv_at hl 3 rfl) ?_
          refine lv_iload_n C.1 C.2.1 dX2_again_33 rfl (lv_at hl 4 rfl) ?_
          refine lv_iconst (v := iI 1) C.1 C.2.1 dX2_again_34 rfl ?_
          refine z_isub C dX2_again_35 ?_
          refine lv_iload C.1 C.2.1 dX2_again_36 (lv_at hl 0 rfl) ?_
          refine z_isub C dX2_again_38 ?_
          refine z_iald C hK hW 4 rfl (by omega) (by omega) dX2_again_39 ?_
          have hb_39 := hg ((k - 1) - bl)
          refine z_icmp_ne (tgt := 55) C dX2_again_40 (by decide) (by omega) (fun c_40 => ?_) (fun c_40 => ?_)
          ·
            refine lv_iconst (v := iI 0) C.1 C.2.1 dX2_again_55 rfl ?_
            refine z_iast C hK hW 3 rfl (by omega) (by omega) dX2_again_56 (fun H locs hW => ?_)
            have hbd_56 : BD (up e1 bl 0) := BD.up he1 (by omega)
            have hW : Wd G A s9.heap [(h, .inr (1, [.ref mk, .ref ae])), (mk, .inr (2, [.ref ma])), (ma, .inl (G.2.1 0, 60001, .inl (iA f))), (ae, .inl (G.2.1 0, 1000, .inl (iA (up e1 bl 0)))), (no, .inl (G.2.1 0, 2000, .inl (iA g)))] H locs := hW
            exact cut_57 (up e1 bl 0) hbd_56 (fun s s0 s1 => by have hs9 := hm1 s s0 s1; have ha9 := al_s (g := g) (s := bl) (m := k - 1) (by omega); rw [show k - 1 + 1 = k by omega] at ha9; exact if q7 : s = bl then (by subst q7; rw [up_s, if_pos (by omega), ha9]; rw [if_neg (by omega)] at hs9; first | (rw [if_neg (by intro q6; omega)]) | (rw [if_pos ⟨by omega, by omega⟩, hs9])) else (by rw [up_n _ _ q7, hs9]; exact if q5 : s < bl then (by rw [if_pos q5, if_pos (by omega)]) else (by rw [if_neg q5, if_neg (by omega)]))) _ _ _ hW (lv_sub hl [0, 1, 2, 3, 4] rfl)
          ·
            refine lv_aload_n C.1 C.2.1 dX2_again_43 rfl (lv_at hl 2 rfl) ?_
            refine z_get C hK hW hin2 (v := .ref ae) 0 rfl rfl 1 (by decide) (C.2.2.2.2 (.fieldLink RX2 9 "TellingRows$Maker" "alike" "[I") (List.mem_of_getElem? (i := 1) rfl)) (fun _ h9 => h9) rfl dX2_again_44 ?_
            refine lv_iload C.1 C.2.1 dX2_again_47 (lv_at hl 0 rfl) ?_
            refine z_iald C hK hW 3 rfl (by omega) (by omega) dX2_again_49 ?_
            have hb_49 := he1 bl
            refine lv_iconst (v := iI 1) C.1 C.2.1 dX2_again_50 rfl ?_
            refine z_iadd C dX2_again_51 ?_
            refine lv_goto (tgt := 56) C.1 C.2.1 dX2_again_52 (by decide) ?_
            refine z_iast C hK hW 3 rfl (by omega) (by omega) dX2_again_56 (fun H locs hW => ?_)
            have hbd_56 : BD (up e1 bl ((e1 bl) + 1)) := BD.up he1 (by omega)
            have hW : Wd G A s9.heap [(h, .inr (1, [.ref mk, .ref ae])), (mk, .inr (2, [.ref ma])), (ma, .inl (G.2.1 0, 60001, .inl (iA f))), (ae, .inl (G.2.1 0, 1000, .inl (iA (up e1 bl ((e1 bl) + 1))))), (no, .inl (G.2.1 0, 2000, .inl (iA g)))] H locs := hW
            exact cut_57 (up e1 bl ((e1 bl) + 1)) hbd_56 (fun s s0 s1 => by have hs9 := hm1 s s0 s1; have ha9 := al_s (g := g) (s := bl) (m := k - 1) (by omega); rw [show k - 1 + 1 = k by omega] at ha9; exact if q7 : s = bl then (by subst q7; rw [up_s, if_pos (by omega), ha9]; rw [if_neg (by omega)] at hs9; first | (rw [if_neg (by intro q6; omega)]) | (rw [if_pos ⟨by omega, by omega⟩, hs9])) else (by rw [up_n _ _ q7, hs9]; exact if q5 : s < bl then (by rw [if_pos q5, if_pos (by omega)]) else (by rw [if_neg q5, if_neg (by omega)]))) _ _ _ hW (lv_sub hl [0, 1, 2, 3, 4] rfl)
  exact cut_5 (((1000 - 1) + 1 : Int)).toNat 1 1 e (by first | omega | assumption | (intros; first | rfl | omega | assumption | (and_intros <;> first | rfl | omega | assumption))) he (fun s s0 s1 => by rw [if_neg (by omega)]; exact hm s s0 s1) rfl (by omega) _ _ _ hW (lv_sub hl [0, 1, 2, 3, 4] rfl)
