set_option maxHeartbeats 4000000 in
set_option maxRecDepth 100000 in
/-- Maker.due -/
theorem c_X2_due_0 (l : Launch) (G : GG) (h : Nat) (mk : Nat) (ma : Nat) (ae : Nat) (no : Nat) (f : Int → Int) (e : Int → Int) (g : Int → Int) (k : Int) (hf : BD f) (he : BD e) (hg : BD g) (hk : 1 ≤ k ∧ k < 2000) (hv : VAL g k) (hm : MkB 0 g k f e) : MQc l yX2_due wsX2_due 2 G [.ref h, .ref (G.2.2 0), .ref no, .int (iI k)] [(h, .inr (1, [.ref mk, .ref ae])), (mk, .inr (2, [.ref ma])), (ma, .inl (G.2.1 0, 60001, .inl (iA f))), (ae, .inl (G.2.1 0, 1000, .inl (iA e))), (no, .inl (G.2.1 0, 2000, .inl (iA g)))] (fun r (u : (Int → Int) × (Int → Int)) => ∃ z : Int, r = some (.int (iI z)) ∧ (DueR 0 g k z) ∧ (-2147483648 ≤ z ∧ z ≤ 2147483647) ∧ (MkB 0 g (k + 1) u.1 u.2) ∧ (BD u.1) ∧ (BD u.2)) (fun u => [(h, .inr (1, [.ref mk, .ref ae])), (mk, .inr (2, [.ref ma])), (ma, .inl (G.2.1 0, 60001, .inl (iA u.1))), (ae, .inl (G.2.1 0, 1000, .inl (iA u.2))), (no, .inl (G.2.1 0, 2000, .inl (iA g)))]) := by
  refine MQc.start (own := RX2) (by decide) rfl rfl (Nat.le_of_ble_eq_true rfl) ?_
  intro p9 e9 s9 m9 args below meth c9 A Q C hK hW hA hr hlocks hQ ls hl
  have hl : lv_has ls 4 [(0, .ref h), (1, .ref (G.2.2 0)), (2, .ref no), (3, .int (iI k))] := hl
  have hin2 : ∀ w ∈ wsX20, w ∈ wsX2_due := by decide +kernel
  have hin3 : ∀ w ∈ wsX30, w ∈ wsX2_due := by decide +kernel
  refine z_swmap C hK hW (C.2.2.2.2 (.fieldLink RX2 69 "TellingRows$1" "$SwitchMap$TellingRows$Sort" "[I") (List.mem_of_getElem? (i := 1) rfl)) (fun _ h9 => h9) dX2_due_0 ?_
  refine lv_aload_n C.1 C.2.1 dX2_due_3 rfl (lv_at hl 1 rfl) ?_
  refine z_callR (va_runU (As := []) (rest := [.ref (G.2.2 8)]) C (c_Jx29ce0_ordinal_8abf5 l G 0 (by decide) s9.heap.size) (va_cwU 0 C.2.2.2.2 gX2_due_Jx29ce0_ordinal_8abf5_u74X7 rfl rfl rfl rfl (by decide +kernel) ⟨Nat.le_of_ble_eq_true rfl, Nat.le_of_ble_eq_true rfl⟩) (z_preE hK hW hA [] rfl (by decide) (by omega)) rfl rfl hl.1 rfl (lv_room (Nat.le_of_ble_eq_true rfl)) dX2_due_4 ⟨Nat.zero_le _, Nat.zero_le _⟩) (fun r hp => ?_)
  have hp : ∃ z : Int, r = some (.int (iI z)) ∧ (z = (0 : Int)) := hp
  obtain ⟨z_4, rfl, hz_4_0⟩ := hp
  refine z_swAt C hK hW (by omega) dX2_due_7 ?_
  rw [show z_4 + 1 = 1 by omega]
  refine z_tabIn (tgt := 52) C dX2_due_8 (by omega) (by omega) (by omega) (off := 44) (by rfl) (by decide) ?_
  refine lv_aload_n C.1 C.2.1 dX2_due_52 rfl (lv_at hl 0 rfl) ?_
  refine lv_aload_n C.1 C.2.1 dX2_due_53 rfl (lv_at hl 2 rfl) ?_
  refine lv_iload_n C.1 C.2.1 dX2_due_54 rfl (lv_at hl 3 rfl) ?_
  refine z_callR (va_runV (As := [.ref no, .int (iI k)]) (rest := []) C (c_X2_reach l G h mk ma ae no f e g k hf he hg hk hv s9.heap.size) (cwV 2 C.2.2.2.2 gX2_due_X2_reach rfl rfl rfl (by decide +kernel) ⟨Nat.le_of_ble_eq_true rfl, Nat.le_of_ble_eq_true rfl⟩) (z_preV hK hW hA [0, 1, 2, 3, 4] rfl (by decide) (ci := 1) (q0 := 0) rfl rfl) rfl rfl hl.1 rfl (lv_room (Nat.le_of_ble_eq_true rfl)) dX2_due_55 ⟨Nat.zero_le _, Nat.zero_le _⟩) (fun r hp => ?_)
  have hp : ∃ z : Int, r = some (.int (iI z)) ∧ (DueR 0 g k z) ∧ (-2147483648 ≤ z ∧ z ≤ 2147483647) := hp
  obtain ⟨z_55, rfl, hz_55_0, hz_55_1⟩ := hp
  rw [hQ]
  have hP9 : ∃ z : Int, (some (Value.int (iI z_55))) = some (.int (iI z)) ∧ (DueR 0 g k z) ∧ (-2147483648 ≤ z ∧ z ≤ 2147483647) ∧ (MkB 0 g (k + 1) f e) ∧ (BD f) ∧ (BD e) := ⟨_, rfl, hz_55_0, hz_55_1, trivial, hf, he⟩
  exact z_iret C hr hlocks hW (f, e) rfl hP9 dX2_due_58
set_option maxHeartbeats 4000000 in
set_option maxRecDepth 100000 in
/-- Maker.due -/
theorem c_X2_due_1 (l : Launch) (G : GG) (h : Nat) (mk : Nat) (ma : Nat) (ae : Nat) (no : Nat) (f : Int → Int) (e : Int → Int) (g : Int → Int) (k : Int) (hf : BD f) (he : BD e) (hg : BD g) (hk : 1 ≤ k ∧ k < 2000) (hv : VAL g k) (hm : MkB 1 g k f e) : MQc l yX2_due wsX2_due 2 G [.ref h, .ref (G.2.2 1), .ref no, .int (iI k)] [(h, .inr (1, [.ref mk, .ref ae])), (mk, .inr (2, [.ref ma])), (ma, .inl (G.2.1 0, 60001, .inl (iA f))), (ae, .inl (G.2.1 0, 1000, .inl (iA e))), (no, .inl (G.2.1 0, 2000, .inl (iA g)))] (fun r (u : (Int → Int) × (Int → Int)) => ∃ z : Int, r = some (.int (iI z)) ∧ (DueR 1 g k z) ∧ (-2147483648 ≤ z ∧ z ≤ 2147483647) ∧ (MkB 1 g (k + 1) u.1 u.2) ∧ (BD u.1) ∧ (BD u.2)) (fun u => [(h, .inr (1, [.ref mk, .ref ae])), (mk, .inr (2, [.ref ma])), (ma, .inl (G.2.1 0, 60001, .inl (iA u.1))), (ae, .inl (G.2.1 0, 1000, .inl (iA u.2))), (no, .inl (G.2.1 0, 2000, .inl (iA g)))]) := by
  refine MQc.start (own := RX2) (by decide) rfl rfl (Nat.le_of_ble_eq_true rfl) ?_
  intro p9 e9 s9 m9 args below meth c9 A Q C hK hW hA hr hlocks hQ ls hl
  have hl : lv_has ls 4 [(0, .ref h), (1, .ref (G.2.2 1)), (2, .ref no), (3, .int (iI k))] := hl
  have hin2 : ∀ w ∈ wsX20, w ∈ wsX2_due := by decide +kernel
  have hin3 : ∀ w ∈ wsX30, w ∈ wsX2_due := by decide +kernel
  refine z_swmap C hK hW (C.2.2.2.2 (.fieldLink RX2 69 "TellingRows$1" "$SwitchMap$TellingRows$Sort" "[I") (List.mem_of_getElem? (i := 1) rfl)) (fun _ h9 => h9) dX2_due_0 ?_
  refine lv_aload_n C.1 C.2.1 dX2_due_3 rfl (lv_at hl 1 rfl) ?_
  refine z_callR (va_runU (As := []) (rest := [.ref (G.2.2 8)]) C (c_Jx29ce0_ordinal_8abf5 l G 1 (by decide) s9.heap.size) (va_cwU 0 C.2.2.2.2 gX2_due_Jx29ce0_ordinal_8abf5_u74X7 rfl rfl rfl rfl (by decide +kernel) ⟨Nat.le_of_ble_eq_true rfl, Nat.le_of_ble_eq_true rfl⟩) (z_preE hK hW hA [] rfl (by decide) (by omega)) rfl rfl hl.1 rfl (lv_room (Nat.le_of_ble_eq_true rfl)) dX2_due_4 ⟨Nat.zero_le _, Nat.zero_le _⟩) (fun r hp => ?_)
  have hp : ∃ z : Int, r = some (.int (iI z)) ∧ (z = (1 : Int)) := hp
  obtain ⟨z_4, rfl, hz_4_0⟩ := hp
  refine z_swAt C hK hW (by omega) dX2_due_7 ?_
  rw [show z_4 + 1 = 2 by omega]
  refine z_tabIn (tgt := 59) C dX2_due_8 (by omega) (by omega) (by omega) (off := 51) (by rfl) (by decide) ?_
  refine lv_aload_n C.1 C.2.1 dX2_due_59 rfl (lv_at hl 0 rfl) ?_
  refine lv_aload_n C.1 C.2.1 dX2_due_60 rfl (lv_at hl 2 rfl) ?_
  refine lv_iload_n C.1 C.2.1 dX2_due_61 rfl (lv_at hl 3 rfl) ?_
  refine z_callR (va_runV (As := [.ref no, .int (iI k)]) (rest := []) C (c_X2_fold l G h mk ma ae no f e g k hf he hg hk hv s9.heap.size) (cwV 2 C.2.2.2.2 gX2_due_X2_fold rfl rfl rfl (by decide +kernel) ⟨Nat.le_of_ble_eq_true rfl, Nat.le_of_ble_eq_true rfl⟩) (z_preV hK hW hA [0, 1, 2, 3, 4] rfl (by decide) (ci := 1) (q0 := 0) rfl rfl) rfl rfl hl.1 rfl (lv_room (Nat.le_of_ble_eq_true rfl)) dX2_due_62 ⟨Nat.zero_le _, Nat.zero_le _⟩) (fun r hp => ?_)
  have hp : ∃ z : Int, r = some (.int (iI z)) ∧ (DueR 1 g k z) ∧ (-2147483648 ≤ z ∧ z ≤ 2147483647) := hp
  obtain ⟨z_62, rfl, hz_62_0, hz_62_1⟩ := hp
  rw [hQ]
  have hP9 : ∃ z : Int, (some (Value.int (iI z_62))) = some (.int (iI z)) ∧ (DueR 1 g k z) ∧ (-2147483648 ≤ z ∧ z ≤ 2147483647) ∧ (MkB 1 g (k + 1) f e) ∧ (BD f) ∧ (BD e) := ⟨_, rfl, hz_62_0, hz_62_1, trivial, hf, he⟩
  exact z_iret C hr hlocks hW (f, e) rfl hP9 dX2_due_65
set_option maxHeartbeats 4000000 in
set_option maxRecDepth 100000 in
/-- Maker.due -/
theorem c_X2_due_2 (l : Launch) (G : GG) (h : Nat) (mk : Nat) (ma : Nat) (ae : Nat) (no : Nat) (f : Int → Int) (e : Int → Int) (g : Int → Int) (k : Int) (hf : BD f) (he : BD e) (hg : BD g) (hk : 1 ≤ k ∧ k < 2000) (hv : VAL g k) (hm : MkB 2 g k f e) : MQc l yX2_due wsX2_due 2 G [.ref h, .ref (G.2.2 2), .ref no, .int (iI k)] [(h, .inr (1, [.ref mk, .ref ae])), (mk, .inr (2, [.ref ma])), (ma, .inl (G.2.1 0, 60001, .inl (iA f))), (ae, .inl (G.2.1 0, 1000, .inl (iA e))), (no, .inl (G.2.1 0, 2000, .inl (iA g)))] (fun r (u : (Int → Int) × (Int → Int)) => ∃ z : Int, r = some (.int (iI z)) ∧ (DueR 2 g k z) ∧ (-2147483648 ≤ z ∧ z ≤ 2147483647) ∧ (MkB 2 g (k + 1) u.1 u.2) ∧ (BD u.1) ∧ (BD u.2)) (fun u => [(h, .inr (1, [.ref mk, .ref ae])), (mk, .inr (2, [.ref ma])), (ma, .inl (G.2.1 0, 60001, .inl (iA u.1))), (ae, .inl (G.2.1 0, 1000, .inl (iA u.2))), (no, .inl (G.2.1 0, 2000, .inl (iA g)))]) := by
  refine MQc.start (own := RX2) (by decide) rfl rfl (Nat.le_of_ble_eq_true rfl) ?_
  intro p9 e9 s9 m9 args below meth c9 A Q C hK hW hA hr hlocks hQ ls hl
  have hl : lv_has ls 4 [(0, .ref h), (1, .ref (G.2.2 2)), (2, .ref no), (3, .int (iI k))] := hl
  have hin2 : ∀ w ∈ wsX20, w ∈ wsX2_due := by decide +kernel
  have hin3 : ∀ w ∈ wsX30, w ∈ wsX2_due := by decide +kernel
  refine z_swmap C hK hW (C.2.2.2.2 (.fieldLink RX2 69 "TellingRows$1" "$SwitchMap$TellingRows$Sort" "[I") (List.mem_of_getElem? (i := 1) rfl)) (fun _ h9 => h9) dX2_due_0 ?_
  refine lv_aload_n C.1 C.2.1 dX2_due_3 rfl (lv_at hl 1 rfl) ?_
  refine z_callR (va_runU (As := []) (rest := [.ref (G.2.2 8)]) C (c_Jx29ce0_ordinal_8abf5 l G 2 (by decide) s9.heap.size) (va_cwU 0 C.2.2.2.2 gX2_due_Jx29ce0_ordinal_8abf5_u74X7 rfl rfl rfl rfl (by decide +kernel) ⟨Nat.le_of_ble_eq_true rfl, Nat.le_of_ble_eq_true rfl⟩) (z_preE hK hW hA [] rfl (by decide) (by omega)) rfl rfl hl.1 rfl (lv_room (Nat.le_of_ble_eq_true rfl)) dX2_due_4 ⟨Nat.zero_le _, Nat.zero_le _⟩) (fun r hp => ?_)
  have hp : ∃ z : Int, r = some (.int (iI z)) ∧ (z = (2 : Int)) := hp
  obtain ⟨z_4, rfl, hz_4_0⟩ := hp
  refine z_swAt C hK hW (by omega) dX2_due_7 ?_
  rw [show z_4 + 1 = 3 by omega]
  refine z_tabIn (tgt := 66) C dX2_due_8 (by omega) (by omega) (by omega) (off := 58) (by rfl) (by decide) ?_
  have hv1 := hv (k - 1) (by omega) (by omega)
  refine lv_aload_n C.1 C.2.1 dX2_due_66 rfl (lv_at hl 0 rfl) ?_
  refine lv_aload_n C.1 C.2.1 dX2_due_67 rfl (lv_at hl 2 rfl) ?_
  refine lv_iload_n C.1 C.2.1 dX2_due_68 rfl (lv_at hl 3 rfl) ?_
  refine lv_iconst (v := iI 1) C.1 C.2.1 dX2_due_69 rfl ?_
  refine z_isub C dX2_due_70 ?_
  refine z_iald C hK hW 4 rfl (by omega) (by omega) dX2_due_71 ?_
  have hb_71 := hg (k - 1)
  refine lv_iload_n C.1 C.2.1 dX2_due_72 rfl (lv_at hl 3 rfl) ?_
  refine z_call (va_runV (As := [.int (iI (g (k - 1))), .int (iI k)]) (rest := []) C (c_X2_back l G h mk ma ae no f e g (g (k - 1)) k hf he hg hk hv rfl hm s9.heap.size) (cwV 2 C.2.2.2.2 gX2_due_X2_back rfl rfl rfl (by decide +kernel) ⟨Nat.le_of_ble_eq_true rfl, Nat.le_of_ble_eq_true rfl⟩) (z_preV hK hW hA [0, 1, 2, 3, 4] rfl (by decide) (ci := 1) (q0 := 0) rfl rfl) rfl rfl hl.1 rfl (lv_room (Nat.le_of_ble_eq_true rfl)) dX2_due_73 ⟨Nat.zero_le _, Nat.zero_le _⟩) hW hA [0, 1, 2, 3, 4] rfl (by decide) (fun _ => rfl) (fun r u H locs hp hW => ?_)
  obtain ⟨f2_73, rfl⟩ : ∃ q9, q9 = u := ⟨_, rfl⟩
  have hp : ∃ z : Int, r = some (.int (iI z)) ∧ (DueR 2 g k z) ∧ (-2147483648 ≤ z ∧ z ≤ 2147483647) ∧ (∀ v, 0 ≤ v → v ≤ 60000 → f2_73 v = lo g v k) ∧ (BD f2_73) := hp
  obtain ⟨z_73, rfl, hz_73_0, hz_73_1, hz_73_2, hz_73_3⟩ := hp
  have hW : Wd G A s9.heap [(h, .inr (1, [.ref mk, .ref ae])), (mk, .inr (2, [.ref ma])), (ma, .inl (G.2.1 0, 60001, .inl (iA f2_73))), (ae, .inl (G.2.1 0, 1000, .inl (iA e))), (no, .inl (G.2.1 0, 2000, .inl (iA g)))] H locs := hW
  rw [hQ]
  have hP9 : ∃ z : Int, (some (Value.int (iI z_73))) = some (.int (iI z)) ∧ (DueR 2 g k z) ∧ (-2147483648 ≤ z ∧ z ≤ 2147483647) ∧ (MkB 2 g (k + 1) f2_73 e) ∧ (BD f2_73) ∧ (BD e) := ⟨_, rfl, hz_73_0, hz_73_1, (fun v v0 v1 => by rw [show k + 1 - 1 = k by omega]; exact hz_73_2 v v0 v1), hz_73_3, he⟩
  exact z_iret C hr hlocks hW (f2_73, e) rfl hP9 dX2_due_76
set_option maxHeartbeats 4000000 in
set_option maxRecDepth 100000 in
/-- Maker.due -/
theorem c_X2_due_3 (l : Launch) (G : GG) (h : Nat) (mk : Nat) (ma : Nat) (ae : Nat) (no : Nat) (f : Int → Int) (e : Int → Int) (g : Int → Int) (k : Int) (hf : BD f) (he : BD e) (hg : BD g) (hk : 1 ≤ k ∧ k < 2000) (hv : VAL g k) (hm : MkB 3 g k f e) : MQc l yX2_due wsX2_due 2 G [.ref h, .ref (G.2.2 3), .ref no, .int (iI k)] [(h, .inr (1, [.ref mk, .ref ae])), (mk, .inr (2, [.ref ma])), (ma, .inl (G.2.1 0, 60001, .inl (iA f))), (ae, .inl (G.2.1 0, 1000, .inl (iA e))), (no, .inl (G.2.1 0, 2000, .inl (iA g)))] (fun r (u : (Int → Int) × (Int → Int)) => ∃ z : Int, r = some (.int (iI z)) ∧ (DueR 3 g k z) ∧ (-2147483648 ≤ z ∧ z ≤ 2147483647) ∧ (MkB 3 g (k + 1) u.1 u.2) ∧ (BD u.1) ∧ (BD u.2)) (fun u => [(h, .inr (1, [.ref mk, .ref ae])), (mk, .inr (2, [.ref ma])), (ma, .inl (G.2.1 0, 60001, .inl (iA u.1))), (ae, .inl (G.2.1 0, 1000, .inl (iA u.2))), (no, .inl (G.2.1 0, 2000, .inl (iA g)))]) := by
  refine MQc.start (own := RX2) (by decide) rfl rfl (Nat.le_of_ble_eq_true rfl) ?_
  intro p9 e9 s9 m9 args below meth c9 A Q C hK hW hA hr hlocks hQ ls hl
  have hl : lv_has ls 4 [(0, .ref h), (1, .ref (G.2.2 3)), (2, .ref no), (3, .int (iI k))] := hl
  have hin2 : ∀ w ∈ wsX20, w ∈ wsX2_due := by decide +kernel
  have hin3 : ∀ w ∈ wsX30, w ∈ wsX2_due := by decide +kernel
  refine z_swmap C hK hW (C.2.2.2.2 (.fieldLink RX2 69 "TellingRows$1" "$SwitchMap$TellingRows$Sort" "[I") (List.mem_of_getElem? (i := 1) rfl)) (fun _ h9 => h9) dX2_due_0 ?_
  refine lv_aload_n C.1 C.2.1 dX2_due_3 rfl (lv_at hl 1 rfl) ?_
  refine z_callR (va_runU (As := []) (rest := [.ref (G.2.2 8)]) C (c_Jx29ce0_ordinal_8abf5 l G 3 (by decide) s9.heap.size) (va_cwU 0 C.2.2.2.2 gX2_due_Jx29ce0_ordinal_8abf5_u74X7 rfl rfl rfl rfl (by decide +kernel) ⟨Nat.le_of_ble_eq_true rfl, Nat.le_of_ble_eq_true rfl⟩) (z_preE hK hW hA [] rfl (by decide) (by omega)) rfl rfl hl.1 rfl (lv_room (Nat.le_of_ble_eq_true rfl)) dX2_due_4 ⟨Nat.zero_le _, Nat.zero_le _⟩) (fun r hp => ?_)
  have hp : ∃ z : Int, r = some (.int (iI z)) ∧ (z = (3 : Int)) := hp
  obtain ⟨z_4, rfl, hz_4_0⟩ := hp
  refine z_swAt C hK hW (by omega) dX2_due_7 ?_
  rw [show z_4 + 1 = 4 by omega]
  refine z_tabIn (tgt := 77) C dX2_due_8 (by omega) (by omega) (by omega) (off := 69) (by rfl) (by decide) ?_
  refine lv_aload_n C.1 C.2.1 dX2_due_77 rfl (lv_at hl 0 rfl) ?_
  refine lv_aload_n C.1 C.2.1 dX2_due_78 rfl (lv_at hl 2 rfl) ?_
  refine lv_iload_n C.1 C.2.1 dX2_due_79 rfl (lv_at hl 3 rfl) ?_
  refine z_call (va_runV (As := [.ref no, .int (iI k)]) (rest := []) C (c_X2_again l G h mk ma ae no f e g k hf he hg hk hv hm s9.heap.size) (cwV 2 C.2.2.2.2 gX2_due_X2_again rfl rfl rfl (by decide +kernel) ⟨Nat.le_of_ble_eq_true rfl, Nat.le_of_ble_eq_true rfl⟩) (z_preV hK hW hA [0, 1, 2, 3, 4] rfl (by decide) (ci := 1) (q0 := 0) rfl rfl) rfl rfl hl.1 rfl (lv_room (Nat.le_of_ble_eq_true rfl)) dX2_due_80 ⟨Nat.zero_le _, Nat.zero_le _⟩) hW hA [0, 1, 2, 3, 4] rfl (by decide) (fun _ => rfl) (fun r u H locs hp hW => ?_)
  obtain ⟨e2_80, rfl⟩ : ∃ q9, q9 = u := ⟨_, rfl⟩
  have hp : ∃ z : Int, r = some (.int (iI z)) ∧ (DueR 3 g k z) ∧ (-2147483648 ≤ z ∧ z ≤ 2147483647) ∧ (∀ s, 1 ≤ s → s ≤ 999 → e2_80 s = al g s k) ∧ (BD e2_80) := hp
  obtain ⟨z_80, rfl, hz_80_0, hz_80_1, hz_80_2, hz_80_3⟩ := hp
  have hW : Wd G A s9.heap [(h, .inr (1, [.ref mk, .ref ae])), (mk, .inr (2, [.ref ma])), (ma, .inl (G.2.1 0, 60001, .inl (iA f))), (ae, .inl (G.2.1 0, 1000, .inl (iA e2_80))), (no, .inl (G.2.1 0, 2000, .inl (iA g)))] H locs := hW
  rw [hQ]
  have hP9 : ∃ z : Int, (some (Value.int (iI z_80))) = some (.int (iI z)) ∧ (DueR 3 g k z) ∧ (-2147483648 ≤ z ∧ z ≤ 2147483647) ∧ (MkB 3 g (k + 1) f e2_80) ∧ (BD f) ∧ (BD e2_80) := ⟨_, rfl, hz_80_0, hz_80_1, (fun v v0 v1 => by rw [show k + 1 - 1 = k by omega]; exact hz_80_2 v v0 v1), hf, hz_80_3⟩
  exact z_iret C hr hlocks hW (f, e2_80) rfl hP9 dX2_due_83
set_option maxHeartbeats 4000000 in
set_option maxRecDepth 100000 in
/-- Maker.due -/
theorem c_X2_due_4 (l : Launch) (G : GG) (h : Nat) (mk : Nat) (ma : Nat) (ae : Nat) (no : Nat) (f : Int → Int) (e : Int → Int) (g : Int → Int) (k : Int) (hf : BD f) (he : BD e) (hg : BD g) (hk : 1 ≤ k ∧ k < 2000) (hv : VAL g k) (hm : MkB 4 g k f e) : MQc l yX2_due wsX2_due 2 G [.ref h, .ref (G.2.2 4), .ref no, .int (iI k)] [(h, .inr (1, [.ref mk, .ref ae])), (mk, .inr (2, [.ref ma])), (ma, .inl (G.2.1 0, 60001, .inl (iA f))), (ae, .inl (G.2.1 0, 1000, .inl (iA e))), (no, .inl (G.2.1 0, 2000, .inl (iA g)))] (fun r (u : (Int → Int) × (Int → Int)) => ∃ z : Int, r = some (.int (iI z)) ∧ (DueR 4 g k z) ∧ (-2147483648 ≤ z ∧ z ≤ 2147483647) ∧ (MkB 4 g (k + 1) u.1 u.2) ∧ (BD u.1) ∧ (BD u.2)) (fun u => [(h, .inr (1, [.ref mk, .ref ae])), (mk, .inr (2, [.ref ma])), (ma, .inl (G.2.1 0, 60001, .inl (iA u.1))), (ae, .inl (G.2.1 0, 1000, .inl (iA u.2))), (no, .inl (G.2.1 0, 2000, .inl (iA g)))]) := by
  refine MQc.start (own := RX2) (by decide) rfl rfl (Nat.le_of_ble_eq_true rfl) ?_
  intro p9 e9 s9 m9 args below meth c9 A Q C hK hW hA hr hlocks hQ ls hl
  have hl : lv_has ls 4 [(0, .ref h), (1, .ref (G.2.2 4)), (2, .ref no), (3, .int (iI k))] := hl
  have hin2 : ∀ w ∈ wsX20, w ∈ wsX2_due := by decide +kernel
  have hin3 : ∀ w ∈ wsX30, w ∈ wsX2_due := by decide +kernel
  refine z_swmap C hK hW (C.2.2.2.2 (.fieldLink RX2 69 "TellingRows$1" "$SwitchMap$TellingRows$Sort" "[I") (List.mem_of_getElem? (i := 1) rfl)) (fun _ h9 => h9) dX2_due_0 ?_
  refine lv_aload_n C.1 C.2.1 dX2_due_3 rfl (lv_at hl 1 rfl) ?_
  refine z_callR (va_runU (As := []) (rest := [.ref (G.2.2 8)]) C (c_Jx29ce0_ordinal_8abf5 l G 4 (by decide) s9.heap.size) (va_cwU 0 C.2.2.2.2 gX2_due_Jx29ce0_ordinal_8abf5_u74X7 rfl rfl rfl rfl (by decide +kernel) ⟨Nat.le_of_ble_eq_true rfl, Nat.le_of_ble_eq_true rfl⟩) (z_preE hK hW hA [] rfl (by decide) (by omega)) rfl rfl hl.1 rfl (lv_room (Nat.le_of_ble_eq_true rfl)) dX2_due_4 ⟨Nat.zero_le _, Nat.zero_le _⟩) (fun r hp => ?_)
  have hp : ∃ z : Int, r = some (.int (iI z)) ∧ (z = (4 : Int)) := hp
  obtain ⟨z_4, rfl, hz_4_0⟩ := hp
  refine z_swAt C hK hW (by omega) dX2_due_7 ?_
  rw [show z_4 + 1 = 5 by omega]
  refine z_tabIn (tgt := 84) C dX2_due_8 (by omega) (by omega) (by omega) (off := 76) (by rfl) (by decide) ?_
  refine lv_aload_n C.1 C.2.1 dX2_due_84 rfl (lv_at hl 0 rfl) ?_
  refine lv_aload_n C.1 C.2.1 dX2_due_85 rfl (lv_at hl 2 rfl) ?_
  refine lv_iload_n C.1 C.2.1 dX2_due_86 rfl (lv_at hl 3 rfl) ?_
  refine z_call (va_runV (As := [.ref no, .int (iI k)]) (rest := []) C (c_X2_sum l G h mk ma ae no f e g k hf he hg hk hv hm s9.heap.size) (cwV 2 C.2.2.2.2 gX2_due_X2_sum rfl rfl rfl (by decide +kernel) ⟨Nat.le_of_ble_eq_true rfl, Nat.le_of_ble_eq_true rfl⟩) (z_preV hK hW hA [0, 1, 2, 3, 4] rfl (by decide) (ci := 1) (q0 := 0) rfl rfl) rfl rfl hl.1 rfl (lv_room (Nat.le_of_ble_eq_true rfl)) dX2_due_87 ⟨Nat.zero_le _, Nat.zero_le _⟩) hW hA [0, 1, 2, 3, 4] rfl (by decide) (fun _ => rfl) (fun r u H locs hp hW => ?_)
  obtain ⟨f2_87, rfl⟩ : ∃ q9, q9 = u := ⟨_, rfl⟩
  have hp : ∃ z : Int, r = some (.int (iI z)) ∧ (DueR 4 g k z) ∧ (-2147483648 ≤ z ∧ z ≤ 2147483647) ∧ (∀ v, 0 ≤ v → v ≤ 60000 → f2_87 v = pc g v k) ∧ (BD f2_87) := hp
  obtain ⟨z_87, rfl, hz_87_0, hz_87_1, hz_87_2, hz_87_3⟩ := hp
  have hW : Wd G A s9.heap [(h, .inr (1, [.ref mk, .ref ae])), (mk, .inr (2, [.ref ma])), (ma, .inl (G.2.1 0, 60001, .inl (iA f2_87))), (ae, .inl (G.2.1 0, 1000, .inl (iA e))), (no, .inl (G.2.1 0, 2000, .inl (iA g)))] H locs := hW
  rw [hQ]
  have hP9 : ∃ z : Int, (some (Value.int (iI z_87))) = some (.int (iI z)) ∧ (DueR 4 g k z) ∧ (-2147483648 ≤ z ∧ z ≤ 2147483647) ∧ (MkB 4 g (k + 1) f2_87 e) ∧ (BD f2_87) ∧ (BD e) := ⟨_, rfl, hz_87_0, hz_87_1, (fun v v0 v1 => by rw [show k + 1 - 1 = k by omega]; exact hz_87_2 v v0 v1), hz_87_3, he⟩
  exact z_iret C hr hlocks hW (f2_87, e) rfl hP9 dX2_due_90
set_option maxHeartbeats 4000000 in
set_option maxRecDepth 100000 in
/-- Maker.due -/
theorem c_X2_due_5 (l : Launch) (G : GG) (h : Nat) (mk : Nat) (ma : Nat) (ae : Nat) (no : Nat) (f : Int → Int) (e : Int → Int) (g : Int → Int) (k : Int) (hf : BD f) (he : BD e) (hg : BD g) (hk : 1 ≤ k ∧ k < 2000) (hv : VAL g k) (hm : MkB 5 g k f e) : MQc l yX2_due wsX2_due 2 G [.ref h, .ref (G.2.2 5), .ref no, .int (iI k)] [(h, .inr (1, [.ref mk, .ref ae])), (mk, .inr (2, [.ref ma])), (ma, .inl (G.2.1 0, 60001, .inl (iA f))), (ae, .inl (G.2.1 0, 1000, .inl (iA e))), (no, .inl (G.2.1 0, 2000, .inl (iA g)))] (fun r (u : (Int → Int) × (Int → Int)) => ∃ z : Int, r = some (.int (iI z)) ∧ (DueR 5 g k z) ∧ (-2147483648 ≤ z ∧ z ≤ 2147483647) ∧ (MkB 5 g (k + 1) u.1 u.2) ∧ (BD u.1) ∧ (BD u.2)) (fun u => [(h, .inr (1, [.ref mk, .ref ae])), (mk, .inr (2, [.ref ma])), (ma, .inl (G.2.1 0, 60001, .inl (iA u.1))), (ae, .inl (G.2.1 0, 1000, .inl (iA u.2))), (no, .inl (G.2.1 0, 2000, .inl (iA g)))]) := by
  refine MQc.start (own := RX2) (by decide) rfl rfl (Nat.le_of_ble_eq_true rfl) ?_
  intro p9 e9 s9 m9 args below meth c9 A Q C hK hW hA hr hlocks hQ ls hl
  have hl : lv_has ls 4 [(0, .ref h), (1, .ref (G.2.2 5)), (2, .ref no), (3, .int (iI k))] := hl
  have hin2 : ∀ w ∈ wsX20, w ∈ wsX2_due := by decide +kernel
  have hin3 : ∀ w ∈ wsX30, w ∈ wsX2_due := by decide +kernel
  refine z_swmap C hK hW (C.2.2.2.2 (.fieldLink RX2 69 "TellingRows$1" "$SwitchMap$TellingRows$Sort" "[I") (List.mem_of_getElem? (i := 1) rfl)) (fun _ h9 => h9) dX2_due_0 ?_
  refine lv_aload_n C.1 C.2.1 dX2_due_3 rfl (lv_at hl 1 rfl) ?_
  refine z_callR (va_runU (As := []) (rest := [.ref (G.2.2 8)]) C (c_Jx29ce0_ordinal_8abf5 l G 5 (by decide) s9.heap.size) (va_cwU 0 C.2.2.2.2 gX2_due_Jx29ce0_ordinal_8abf5_u74X7 rfl rfl rfl rfl (by decide +kernel) ⟨Nat.le_of_ble_eq_true rfl, Nat.le_of_ble_eq_true rfl⟩) (z_preE hK hW hA [] rfl (by decide) (by omega)) rfl rfl hl.1 rfl (lv_room (Nat.le_of_ble_eq_true rfl)) dX2_due_4 ⟨Nat.zero_le _, Nat.zero_le _⟩) (fun r hp => ?_)
  have hp : ∃ z : Int, r = some (.int (iI z)) ∧ (z = (5 : Int)) := hp
  obtain ⟨z_4, rfl, hz_4_0⟩ := hp
  refine z_swAt C hK hW (by omega) dX2_due_7 ?_
  rw [show z_4 + 1 = 6 by omega]
  refine z_tabIn (tgt := 91) C dX2_due_8 (by omega) (by omega) (by omega) (off := 83) (by rfl) (by decide) ?_
  have hv1 := hv (k - 1) (by omega) (by omega)
  refine lv_aload_n C.1 C.2.1 dX2_due_91 rfl (lv_at hl 0 rfl) ?_
  refine lv_aload_n C.1 C.2.1 dX2_due_92 rfl (lv_at hl 2 rfl) ?_
  refine lv_iload_n C.1 C.2.1 dX2_due_93 rfl (lv_at hl 3 rfl) ?_
  refine lv_iconst (v := iI 1) C.1 C.2.1 dX2_due_94 rfl ?_
  refine z_isub C dX2_due_95 ?_
  refine z_iald C hK hW 4 rfl (by omega) (by omega) dX2_due_96 ?_
  have hb_96 := hg (k - 1)
  refine z_call (va_runV (As := [.int (iI (g (k - 1)))]) (rest := []) C (c_X2_soFar l G h mk ma ae no f e g (g (k - 1)) k hf he hg hk hv rfl hm s9.heap.size) (cwV 1 C.2.2.2.2 gX2_due_X2_soFar rfl rfl rfl (by decide +kernel) ⟨Nat.le_of_ble_eq_true rfl, Nat.le_of_ble_eq_true rfl⟩) (z_preV hK hW hA [0, 1, 2, 3, 4] rfl (by decide) (ci := 1) (q0 := 0) rfl rfl) rfl rfl hl.1 rfl (lv_room (Nat.le_of_ble_eq_true rfl)) dX2_due_97 ⟨Nat.zero_le _, Nat.zero_le _⟩) hW hA [0, 1, 2, 3, 4] rfl (by decide) (fun _ => rfl) (fun r u H locs hp hW => ?_)
  obtain ⟨f2_97, rfl⟩ : ∃ q9, q9 = u := ⟨_, rfl⟩
  have hp : ∃ z : Int, r = some (.int (iI z)) ∧ (DueR 5 g k z) ∧ (-2147483648 ≤ z ∧ z ≤ 2147483647) ∧ (∀ v, 0 ≤ v → v ≤ 60000 → f2_97 v = oc g v k) ∧ (BD f2_97) := hp
  obtain ⟨z_97, rfl, hz_97_0, hz_97_1, hz_97_2, hz_97_3⟩ := hp
  have hW : Wd G A s9.heap [(h, .inr (1, [.ref mk, .ref ae])), (mk, .inr (2, [.ref ma])), (ma, .inl (G.2.1 0, 60001, .inl (iA f2_97))), (ae, .inl (G.2.1 0, 1000, .inl (iA e))), (no, .inl (G.2.1 0, 2000, .inl (iA g)))] H locs := hW
  rw [hQ]
  have hP9 : ∃ z : Int, (some (Value.int (iI z_97))) = some (.int (iI z)) ∧ (DueR 5 g k z) ∧ (-2147483648 ≤ z ∧ z ≤ 2147483647) ∧ (MkB 5 g (k + 1) f2_97 e) ∧ (BD f2_97) ∧ (BD e) := ⟨_, rfl, hz_97_0, hz_97_1, (fun v v0 v1 => by rw [show k + 1 - 1 = k by omega]; exact hz_97_2 v v0 v1), hz_97_3, he⟩
  exact z_iret C hr hlocks hW (f2_97, e) rfl hP9 dX2_due_100
set_option maxHeartbeats 4000000 in
set_option maxRecDepth 100000 in
/-- Maker.due -/
theorem c_X2_due_6 (l : Launch) (G : GG) (h : Nat) (mk : Nat) (ma : Nat) (ae : Nat) (no : Nat) (f : Int → Int) (e : Int → Int) (g : Int → Int) (k : Int) (hf : BD f) (he : BD e) (hg : BD g) (hk : 1 ≤ k ∧ k < 2000) (hv : VAL g k) (hm : MkB 6 g k f e) : MQc l yX2_due wsX2_due 2 G [.ref h, .ref (G.2.2 6), .ref no, .int (iI k)] [(h, .inr (1, [.ref mk, .ref ae])), (mk, .inr (2, [.ref ma])), (ma, .inl (G.2.1 0, 60001, .inl (iA f))), (ae, .inl (G.2.1 0, 1000, .inl (iA e))), (no, .inl (G.2.1 0, 2000, .inl (iA g)))] (fun r (u : (Int → Int) × (Int → Int)) => ∃ z : Int, r = some (.int (iI z)) ∧ (DueR 6 g k z) ∧ (-2147483648 ≤ z ∧ z ≤ 2147483647) ∧ (MkB 6 g (k + 1) u.1 u.2) ∧ (BD u.1) ∧ (BD u.2)) (fun u => [(h, .inr (1, [.ref mk, .ref ae])), (mk, .inr (2, [.ref ma])), (ma, .inl (G.2.1 0, 60001, .inl (iA u.1))), (ae, .inl (G.2.1 0, 1000, .inl (iA u.2))), (no, .inl (G.2.1 0, 2000, .inl (iA g)))]) := by
  refine MQc.start (own := RX2) (by decide) rfl rfl (Nat.le_of_ble_eq_true rfl) ?_
  intro p9 e9 s9 m9 args below meth c9 A Q C hK hW hA hr hlocks hQ ls hl
  have hl : lv_has ls 4 [(0, .ref h), (1, .ref (G.2.2 6)), (2, .ref no), (3, .int (iI k))] := hl
  have hin2 : ∀ w ∈ wsX20, w ∈ wsX2_due := by decide +kernel
  have hin3 : ∀ w ∈ wsX30, w ∈ wsX2_due := by decide +kernel
  refine z_swmap C hK hW (C.2.2.2.2 (.fieldLink RX2 69 "TellingRows$1" "$SwitchMap$TellingRows$Sort" "[I") (List.mem_of_getElem? (i := 1) rfl)) (fun _ h9 => h9) dX2_due_0 ?_
  refine lv_aload_n C.1 C.2.1 dX2_due_3 rfl (lv_at hl 1 rfl) ?_
  refine z_callR (va_runU (As := []) (rest := [.ref (G.2.2 8)]) C (c_Jx29ce0_ordinal_8abf5 l G 6 (by decide) s9.heap.size) (va_cwU 0 C.2.2.2.2 gX2_due_Jx29ce0_ordinal_8abf5_u74X7 rfl rfl rfl rfl (by decide +kernel) ⟨Nat.le_of_ble_eq_true rfl, Nat.le_of_ble_eq_true rfl⟩) (z_preE hK hW hA [] rfl (by decide) (by omega)) rfl rfl hl.1 rfl (lv_room (Nat.le_of_ble_eq_true rfl)) dX2_due_4 ⟨Nat.zero_le _, Nat.zero_le _⟩) (fun r hp => ?_)
  have hp : ∃ z : Int, r = some (.int (iI z)) ∧ (z = (6 : Int)) := hp
  obtain ⟨z_4, rfl, hz_4_0⟩ := hp
  refine z_swAt C hK hW (by omega) dX2_due_7 ?_
  rw [show z_4 + 1 = 7 by omega]
  refine z_tabIn (tgt := 101) C dX2_due_8 (by omega) (by omega) (by omega) (off := 93) (by rfl) (by decide) ?_
  refine lv_aload_n C.1 C.2.1 dX2_due_101 rfl (lv_at hl 0 rfl) ?_
  refine lv_aload_n C.1 C.2.1 dX2_due_102 rfl (lv_at hl 2 rfl) ?_
  refine lv_iload_n C.1 C.2.1 dX2_due_103 rfl (lv_at hl 3 rfl) ?_
  refine z_call (va_runV (As := [.ref no, .int (iI k)]) (rest := []) C (c_X2_free l G h mk ma ae no f e g k hf he hg hk hv hm s9.heap.size) (cwV 2 C.2.2.2.2 gX2_due_X2_free rfl rfl rfl (by decide +kernel) ⟨Nat.le_of_ble_eq_true rfl, Nat.le_of_ble_eq_true rfl⟩) (z_preV hK hW hA [0, 1, 2, 3, 4] rfl (by decide) (ci := 1) (q0 := 0) rfl rfl) rfl rfl hl.1 rfl (lv_room (Nat.le_of_ble_eq_true rfl)) dX2_due_104 ⟨Nat.zero_le _, Nat.zero_le _⟩) hW hA [0, 1, 2, 3, 4] rfl (by decide) (fun _ => rfl) (fun r u H locs hp hW => ?_)
  obtain ⟨f2_104, rfl⟩ : ∃ q9, q9 = u := ⟨_, rfl⟩
  have hp : ∃ z : Int, r = some (.int (iI z)) ∧ (DueR 6 g k z) ∧ (-2147483648 ≤ z ∧ z ≤ 2147483647) ∧ (∀ v, 0 ≤ v → v ≤ 60000 → 0 ≤ f2_104 v ∧ f2_104 v < k + 1) ∧ (BD f2_104) := hp
  obtain ⟨z_104, rfl, hz_104_0, hz_104_1, hz_104_2, hz_104_3⟩ := hp
  have hW : Wd G A s9.heap [(h, .inr (1, [.ref mk, .ref ae])), (mk, .inr (2, [.ref ma])), (ma, .inl (G.2.1 0, 60001, .inl (iA f2_104))), (ae, .inl (G.2.1 0, 1000, .inl (iA e))), (no, .inl (G.2.1 0, 2000, .inl (iA g)))] H locs := hW
  rw [hQ]
  have hP9 : ∃ z : Int, (some (Value.int (iI z_104))) = some (.int (iI z)) ∧ (DueR 6 g k z) ∧ (-2147483648 ≤ z ∧ z ≤ 2147483647) ∧ (MkB 6 g (k + 1) f2_104 e) ∧ (BD f2_104) ∧ (BD e) := ⟨_, rfl, hz_104_0, hz_104_1, hz_104_2, hz_104_3, he⟩
  exact z_iret C hr hlocks hW (f2_104, e) rfl hP9 dX2_due_107
theorem c_X2_due (l : Launch) (G : GG) (h : Nat) (mk : Nat) (ma : Nat) (ae : Nat) (no : Nat) (f : Int → Int) (e : Int → Int) (g : Int → Int) (k : Int) (S : Nat) (hf : BD f) (he : BD e) (hg : BD g) (hk : 1 ≤ k ∧ k < 2000) (hv : VAL g k) (hS : S < 7) (hm : MkB S g k f e) : MQc l yX2_due wsX2_due 2 G [.ref h, .ref (G.2.2 S), .ref no, .int (iI k)] [(h, .inr (1, [.ref mk, .ref ae])), (mk, .inr (2, [.ref ma])), (ma, .inl (G.2.1 0, 60001, .inl (iA f))), (ae, .inl (G.2.1 0, 1000, .inl (iA e))), (no, .inl (G.2.1 0, 2000, .inl (iA g)))] (fun r (u : (Int → Int) × (Int → Int)) => ∃ z : Int, r = some (.int (iI z)) ∧ (DueR S g k z) ∧ (-2147483648 ≤ z ∧ z ≤ 2147483647) ∧ (MkB S g (k + 1) u.1 u.2) ∧ (BD u.1) ∧ (BD u.2)) (fun u => [(h, .inr (1, [.ref mk, .ref ae])), (mk, .inr (2, [.ref ma])), (ma, .inl (G.2.1 0, 60001, .inl (iA u.1))), (ae, .inl (G.2.1 0, 1000, .inl (iA u.2))), (no, .inl (G.2.1 0, 2000, .inl (iA g)))]) := by
  rcases (show S = 0 ∨ S = 1 ∨ S = 2 ∨ S = 3 ∨ S = 4 ∨ S = 5 ∨ S = 6 by omega) with rfl | rfl | rfl | rfl | rfl | rfl | rfl
  · exact c_X2_due_0 l G h mk ma ae no f e g k hf he hg hk hv hm
  · exact c_X2_due_1 l G h mk ma ae no f e g k hf he hg hk hv hm
  · exact c_X2_due_2 l G h mk ma ae no f e g k hf he hg hk hv hm
  · exact c_X2_due_3 l G h mk ma ae no f e g k hf he hg hk hv hm
  · exact c_X2_due_4 l G h mk ma ae no f e g k hf he hg hk hv hm
  · exact c_X2_due_5 l G h mk ma ae no f e g k hf he hg hk hv hm
  · exact c_X2_due_6 l G h mk ma ae no f e g k hf he hg hk hv hm
set_option maxHeartbeats 4000000 in
set_option maxRecDepth 100000 in
/-- Maker.make -/
theorem c_X2_make (l : Launch) (G : GG) (h : Nat) (mk : Nat) (ma : Nat) (ae : Nat) (rh : Nat) (bo : Nat) (bi : Nat) (no : Nat) (S : Nat) (f : Int → Int) (e : Int → Int) (M : Int) (L : Int) (n : Int) (B : Int → Int) (g : Int → Int) (hS : S < 7) (hVB : AllowsR S n B) (hf : BD f) (he : BD e) (hg : BD g) (hB : BD B) : MQc l yX2_make wsX2_make 3 G [.ref h, .ref rh] [(h, .inr (1, [.ref mk, .ref ae])), (mk, .inr (2, [.ref ma])), (ma, .inl (G.2.1 0, 60001, .inl (iA f))), (ae, .inl (G.2.1 0, 1000, .inl (iA e))), (rh, .inr (4, [.ref bo, .ref no, .ref (G.2.2 S), .int (iI M), .int (iI L)])), (bo, .inr (5, [.ref bi, .int (iI n)])), (bi, .inl (G.2.1 0, 6, .inl (iA B))), (no, .inl (G.2.1 0, 2000, .inl (iA g)))] (fun r (u : (Int → Int) × (Int → Int) × Int × (Int → Int)) => r = none ∧ (RowR S n B u.2.2.1 u.2.2.2) ∧ (BD u.1) ∧ (BD u.2.1) ∧ (BD u.2.2.2)) (fun u => [(h, .inr (1, [.ref mk, .ref ae])), (mk, .inr (2, [.ref ma])), (ma, .inl (G.2.1 0, 60001, .inl (iA u.1))), (ae, .inl (G.2.1 0, 1000, .inl (iA u.2.1))), (rh, .inr (4, [.ref bo, .ref no, .ref (G.2.2 S), .int (iI 1), .int (iI u.2.2.1)])), (bo, .inr (5, [.ref bi, .int (iI n)])), (bi, .inl (G.2.1 0, 6, .inl (iA B))), (no, .inl (G.2.1 0, 2000, .inl (iA u.2.2.2)))]) := by
  refine MQc.start (own := RX2) (by decide) rfl rfl (Nat.le_of_ble_eq_true rfl) ?_
  intro p9 e9 s9 m9 args below meth c9 A Q C hK hW hA hr hlocks hQ ls hl
  have hl : lv_has ls 6 [(0, .ref h), (1, .ref rh)] := hl
  have hin2 : ∀ w ∈ wsX20, w ∈ wsX2_make := by decide +kernel
  have hin3 : ∀ w ∈ wsX30, w ∈ wsX2_make := by decide +kernel
  have hin5 : ∀ w ∈ wsX50, w ∈ wsX2_make := by decide +kernel
  have hin6 : ∀ w ∈ wsX60, w ∈ wsX2_make := by decide +kernel
  have hsn := sort_n hS hVB
  refine lv_aload_n C.1 C.2.1 dX2_make_0 rfl (lv_at hl 0 rfl) ?_
  refine z_get C hK hW hin2 (v := .ref mk) 0 rfl rfl 0 (by decide) (C.2.2.2.2 (.fieldLink RX2 15 "TellingRows$Maker" "marks" "LTellingRows$Marks;") (List.mem_of_getElem? (i := 1) rfl)) (fun _ h9 => h9) rfl dX2_make_1 ?_
  refine z_call (va_runV (As := []) (rest := []) C (c_X3_clear l G mk ma f hf s9.heap.size) (cwV 0 C.2.2.2.2 gX2_make_X3_clear rfl rfl rfl (by decide +kernel) ⟨Nat.le_of_ble_eq_true rfl, Nat.le_of_ble_eq_true rfl⟩) (z_preV hK hW hA [1, 2] rfl (by decide) (ci := 2) (q0 := 1) rfl rfl) rfl rfl hl.1 rfl (lv_room (Nat.le_of_ble_eq_true rfl)) dX2_make_4 ⟨Nat.zero_le _, Nat.zero_le _⟩) hW hA [1, 2] rfl (by decide) (fun _ => rfl) (fun r u H locs hp hW => ?_)
  obtain ⟨g2_4, rfl⟩ : ∃ q9, q9 = u := ⟨_, rfl⟩
  have hp : r = none ∧ ((∀ j, 0 ≤ j → j ≤ 60000 → g2_4 j = 0)) ∧ (BD g2_4) := hp
  obtain ⟨rfl, hz_4_0, hz_4_1⟩ := hp
  have hW : Wd G A s9.heap [(h, .inr (1, [.ref mk, .ref ae])), (mk, .inr (2, [.ref ma])), (ma, .inl (G.2.1 0, 60001, .inl (iA g2_4))), (ae, .inl (G.2.1 0, 1000, .inl (iA e))), (rh, .inr (4, [.ref bo, .ref no, .ref (G.2.2 S), .int (iI M), .int (iI L)])), (bo, .inr (5, [.ref bi, .int (iI n)])), (bi, .inl (G.2.1 0, 6, .inl (iA B))), (no, .inl (G.2.1 0, 2000, .inl (iA g)))] H locs := hW
  refine lv_aload_n C.1 C.2.1 dX2_make_7 rfl (lv_at hl 0 rfl) ?_
  refine z_get C hK hW hin2 (v := .ref ae) 0 rfl rfl 1 (by decide) (C.2.2.2.2 (.fieldLink RX2 9 "TellingRows$Maker" "alike" "[I") (List.mem_of_getElem? (i := 2) rfl)) (fun _ h9 => h9) rfl dX2_make_8 ?_
  refine lv_iconst (v := iI 0) C.1 C.2.1 dX2_make_11 rfl ?_
  refine z_call (va_runS (As := [.ref ae, .int (iI 0)]) (rest := []) C (c_J7_fill_53178 l G ae 1000 e 0 (by first | omega | assumption | (intros; first | rfl | omega | assumption | (and_intros <;> first | rfl | omega | assumption))) he (by first | omega | assumption | (intros; first | rfl | omega | assumption | (and_intros <;> first | rfl | omega | assumption))) H.size) (va_cwS 2 C.2.2.2.2 gX2_make_J7_fill_53178 rfl rfl rfl (by decide +kernel) ⟨Nat.le_of_ble_eq_true rfl, Nat.le_of_ble_eq_true rfl⟩) (z_preS hK hW hA [3] rfl (by decide)) rfl rfl hl.1 rfl (lv_room (Nat.le_of_ble_eq_true rfl)) dX2_make_12 ⟨Nat.zero_le _, Nat.zero_le _⟩) hW hA [3] rfl (by decide) (fun _ => rfl) (fun r u H locs hp hW => ?_)
  obtain ⟨f2_12, rfl⟩ : ∃ q9, q9 = u := ⟨_, rfl⟩
  have hp : r = none ∧ ((∀ j, 0 ≤ j → j < (1000 : Int) → f2_12 j = 0)) ∧ (BD f2_12) := hp
  obtain ⟨rfl, hz_12_0, hz_12_1⟩ := hp
  have hW : Wd G A s9.heap [(h, .inr (1, [.ref mk, .ref ae])), (mk, .inr (2, [.ref ma])), (ma, .inl (G.2.1 0, 60001, .inl (iA g2_4))), (ae, .inl (G.2.1 0, 1000, .inl (iA f2_12))), (rh, .inr (4, [.ref bo, .ref no, .ref (G.2.2 S), .int (iI M), .int (iI L)])), (bo, .inr (5, [.ref bi, .int (iI n)])), (bi, .inl (G.2.1 0, 6, .inl (iA B))), (no, .inl (G.2.1 0, 2000, .inl (iA g)))] H locs := hW
  refine lv_aload_n C.1 C.2.1 dX2_make_15 rfl (lv_at hl 1 rfl) ?_
  refine z_getN C hK hW hin5 (v := .ref no) 4 rfl rfl 1 (by decide) (nw_f_RX2_30 hK.2.1) (fun _ h9 => h9) rfl dX2_make_16 ?_
  refine lv_astore_n (lv' := [(2, .ref no), (0, .ref h), (1, .ref rh)]) C.1 C.2.1 dX2_make_19 rfl hl (by decide) rfl (fun ls hl => ?_)
  refine lv_iconst (v := iI 0) C.1 C.2.1 dX2_make_20 rfl ?_
  refine lv_istore_n (lv' := [(3, .int (iI 0)), (2, .ref no), (0, .ref h), (1, .ref rh)]) C.1 C.2.1 dX2_make_21 rfl hl (by decide) rfl (fun ls hl => ?_)
  have cut_22 : ∀ (n9 : Nat) (i : Int) (f1 : Int → Int) (e1 : Int → Int) (g1 : Int → Int), (0 ≤ i ∧ i ≤ 2000) → (BD f1) → (BD e1) → (BD g1) → (VAL g1 i) → (∀ j, 0 ≤ j → j < i → j < n → g1 j = B j) → (∀ j, n ≤ j → j < i → NextR S g1 j (g1 j)) → (MkB S g1 (max i 1) f1 e1) → (2000 - i < (n9 : Int)) → ∀ (H : Heap) (locs : List Loc) (ls : Array Slot), Wd G A s9.heap [(h, .inr (1, [.ref mk, .ref ae])), (mk, .inr (2, [.ref ma])), (ma, .inl (G.2.1 0, 60001, .inl (iA f1))), (ae, .inl (G.2.1 0, 1000, .inl (iA e1))), (rh, .inr (4, [.ref bo, .ref no, .ref (G.2.2 S), .int (iI M), .int (iI L)])), (bo, .inr (5, [.ref bi, .int (iI n)])), (bi, .inl (G.2.1 0, 6, .inl (iA B))), (no, .inl (G.2.1 0, 2000, .inl (iA g1)))] H locs → lv_has ls 6 [(3, .int (iI i)), (2, .ref no), (0, .ref h), (1, .ref rh)] → W p9 l e9 (rmL 3) s9 m9 args below meth c9 H locs 0 0 Q (F0 m9 22 ls []) := by
    intro n9
    induction n9 with
    | zero => intro i f1 e1 g1 hi hf1 he1 hg1 hV hB1 hN hM hmu; intros; exfalso; omega
    | succ n9 ih_22 =>
      intro i f1 e1 g1 hi hf1 he1 hg1 hV hB1 hN hM hmu H locs ls hW hl
      refine lv_iload_n C.1 C.2.1 dX2_make_22 rfl (lv_at hl 0 rfl) ?_
      refine lv_sipush (v := iI 2000) C.1 C.2.1 dX2_make_23 (by decide +kernel) ?_
      refine z_icmp_ge (tgt := 103) C dX2_make_26 (by decide) (by omega) (fun c_26 => ?_) (fun c_26 => ?_)
      ·
        refine lv_aload_n C.1 C.2.1 dX2_make_103 rfl (lv_at hl 3 rfl) ?_
        refine lv_iload_n C.1 C.2.1 dX2_make_104 rfl (lv_at hl 0 rfl) ?_
        refine z_putN C hK hW hin5 tyX5 tyX5_ok nmX5 4 rfl rfl 4 (by decide) (nw_f_RX2_61 hK.2.1) (fun _ h9 => h9) rfl rfl rfl (Nat.le_of_ble_eq_true rfl) dX2_make_105 (fun H locs hW => ?_)
        have hW : Wd G A s9.heap [(h, .inr (1, [.ref mk, .ref ae])), (mk, .inr (2, [.ref ma])), (ma, .inl (G.2.1 0, 60001, .inl (iA f1))), (ae, .inl (G.2.1 0, 1000, .inl (iA e1))), (rh, .inr (4, [.ref bo, .ref no, .ref (G.2.2 S), .int (iI M), .int (iI i)])), (bo, .inr (5, [.ref bi, .int (iI n)])), (bi, .inl (G.2.1 0, 6, .inl (iA B))), (no, .inl (G.2.1 0, 2000, .inl (iA g1)))] H locs := hW
        refine lv_aload_n C.1 C.2.1 dX2_make_108 rfl (lv_at hl 3 rfl) ?_
        refine lv_iconst (v := iI 1) C.1 C.2.1 dX2_make_109 rfl ?_
        refine z_putN C hK hW hin5 tyX5 tyX5_ok nmX5 4 rfl rfl 3 (by decide) (nw_f_RX2_65 hK.2.1) (fun _ h9 => h9) rfl rfl rfl (Nat.le_of_ble_eq_true rfl) dX2_make_110 (fun H locs hW => ?_)
        have hW : Wd G A s9.heap [(h, .inr (1, [.ref mk, .ref ae])), (mk, .inr (2, [.ref ma])), (ma, .inl (G.2.1 0, 60001, .inl (iA f1))), (ae, .inl (G.2.1 0, 1000, .inl (iA e1))), (rh, .inr (4, [.ref bo, .ref no, .ref (G.2.2 S), .int (iI 1), .int (iI i)])), (bo, .inr (5, [.ref bi, .int (iI n)])), (bi, .inl (G.2.1 0, 6, .inl (iA B))), (no, .inl (G.2.1 0, 2000, .inl (iA g1)))] H locs := hW
        rw [hQ]
        have hP9 : (none : Option Value) = none ∧ (RowR S n B i g1) ∧ (BD f1) ∧ (BD e1) ∧ (BD g1) := ⟨rfl, ⟨by omega, by omega, by omega, hV, fun j j0 j1 => hB1 j j0 (by omega) j1, hN, fun q9 => by first | omega | (have hq : nx = du := hnx.2 (by omega); rw [hq] at hz83n; exact (hdu.2 (by omega)).2 hz83n)⟩, hf1, he1, hg1⟩
        exact z_vret C hr hlocks hW (f1, e1, i, g1) rfl hP9 dX2_make_113
      ·
        refine lv_iload_n C.1 C.2.1 dX2_make_29 rfl (lv_at hl 0 rfl) ?_
        refine lv_aload_n C.1 C.2.1 dX2_make_30 rfl (lv_at hl 1 rfl) ?_
        refine z_alen C hK hW 7 0 rfl rfl dX2_make_31 ?_
        refine z_icmp_ge (tgt := 103) C dX2_make_32 (by decide) (by omega) (fun c_32 => ?_) (fun c_32 => ?_)
        ·
          exfalso; omega
        ·
          have cut_53 : ∀ (du : Int) (f3 : Int → Int) (e3 : Int → Int), ((i = 0 → du = 0) ∧ (1 ≤ i → DueR S g1 i du)) → (-2147483648 ≤ du ∧ du ≤ 2147483647) → (BD f3) → (BD e3) → (MkB S g1 (i + 1) f3 e3) → ∀ (H : Heap) (locs : List Loc) (ls : Array Slot), Wd G A s9.heap [(h, .inr (1, [.ref mk, .ref ae])), (mk, .inr (2, [.ref ma])), (ma, .inl (G.2.1 0, 60001, .inl (iA f3))), (ae, .inl (G.2.1 0, 1000, .inl (iA e3))), (rh, .inr (4, [.ref bo, .ref no, .ref (G.2.2 S), .int (iI M), .int (iI L)])), (bo, .inr (5, [.ref bi, .int (iI n)])), (bi, .inl (G.2.1 0, 6, .inl (iA B))), (no, .inl (G.2.1 0, 2000, .inl (iA g1)))] H locs → lv_has ls 6 [(3, .int (iI i)), (2, .ref no), (0, .ref h), (1, .ref rh)] → W p9 l e9 (rmL 3) s9 m9 args below meth c9 H locs 0 0 Q (F0 m9 53 ls [.int (iI du)]) := by
            intro du f3 e3 hdu hdr hf3 he3 hM2 H locs ls hW hl
            refine lv_istore (lv' := [(4, .int (iI du)), (3, .int (iI i)), (2, .ref no), (0, .ref h), (1, .ref rh)]) C.1 C.2.1 dX2_make_53 hl (by decide) rfl (fun ls hl => ?_)
            have cut_79 : ∀ (nx : Int), ((i < n → nx = B i) ∧ (n ≤ i → nx = du)) → (-2147483648 ≤ nx ∧ nx ≤ 2147483647) → ∀ (H : Heap) (locs : List Loc) (ls : Array Slot), Wd G A s9.heap [(h, .inr (1, [.ref mk, .ref ae])), (mk, .inr (2, [.ref ma])), (ma, .inl (G.2.1 0, 60001, .inl (iA f3))), (ae, .inl (G.2.1 0, 1000, .inl (iA e3))), (rh, .inr (4, [.ref bo, .ref no, .ref (G.2.2 S), .int (iI M), .int (iI L)])), (bo, .inr (5, [.ref bi, .int (iI n)])), (bi, .inl (G.2.1 0, 6, .inl (iA B))), (no, .inl (G.2.1 0, 2000, .inl (iA g1)))] H locs → lv_has ls 6 [(4, .int (iI du)), (3, .int (iI i)), (2, .ref no), (0, .ref h), (1, .ref rh)] → W p9 l e9 (rmL 3) s9 m9 args below meth c9 H locs 0 0 Q (F0 m9 79 ls [.int (iI nx)]) := by
              intro nx hnx hnr H locs ls hW hl
              refine lv_istore (lv' := [(5, .int (iI nx)), (4, .int (iI du)), (3, .int (iI i)), (2, .ref no), (0, .ref h), (1, .ref rh)]) C.1 C.2.1 dX2_make_79 hl (by decide) rfl (fun ls hl => ?_)
              refine lv_iload C.1 C.2.1 dX2_make_81 (lv_at hl 0 rfl) ?_
              refine z_callR (va_runSN (As := [.int (iI nx)]) (rest := []) C (c_X10_isNumber l G nx hnr H.size) ⟨va_cnB 1 C.2.2.2.2 gX2_make_X10_isNumber_n57 rfl rfl rfl (nw_m_RX2_57 hK.2.1) (C.2.2.2.2 (.initialized RX10) (List.mem_of_getElem? (i := 84) rfl)) (by decide +kernel) ⟨Nat.le_of_ble_eq_true rfl, Nat.le_of_ble_eq_true rfl⟩, (C.2.2.2.2 (.static yX10_isNumber) (List.mem_of_getElem? (i := 83) rfl)), trivial⟩ (z_preS hK hW hA [] rfl (by decide)) rfl rfl hl.1 rfl (lv_room (Nat.le_of_ble_eq_true rfl)) dX2_make_83 ⟨Nat.zero_le _, Nat.zero_le _⟩) (fun r hp => ?_)
              have hp : ∃ z : Int, r = some (.int (iI z)) ∧ ((z = 1 ∧ 0 ≤ nx ∧ nx ≤ 60000) ∨ (z = 0 ∧ ¬ (0 ≤ nx ∧ nx ≤ 60000))) := hp
              obtain ⟨z_83, rfl, hz_83_0⟩ := hp
              refine z_if_ne (tgt := 92) C dX2_make_86 (by decide) (by omega) (fun c_86 => ?_) (fun c_86 => ?_)
              ·
                have hz83 : 0 ≤ nx ∧ nx ≤ 60000 := by rcases hz_83_0 with q | q; exact q.2; omega
                refine lv_aload_n C.1 C.2.1 dX2_make_92 rfl (lv_at hl 3 rfl) ?_
                refine lv_iload_n C.1 C.2.1 dX2_make_93 rfl (lv_at hl 2 rfl) ?_
                refine lv_iload C.1 C.2.1 dX2_make_94 (lv_at hl 0 rfl) ?_
                refine z_iast C hK hW 7 rfl (by omega) (by omega) dX2_make_96 (fun H locs hW => ?_)
                have hbd_96 : BD (up g1 i nx) := BD.up hg1 (by omega)
                have hW : Wd G A s9.heap [(h, .inr (1, [.ref mk, .ref ae])), (mk, .inr (2, [.ref ma])), (ma, .inl (G.2.1 0, 60001, .inl (iA f3))), (ae, .inl (G.2.1 0, 1000, .inl (iA e3))), (rh, .inr (4, [.ref bo, .ref no, .ref (G.2.2 S), .int (iI M), .int (iI L)])), (bo, .inr (5, [.ref bi, .int (iI n)])), (bi, .inl (G.2.1 0, 6, .inl (iA B))), (no, .inl (G.2.1 0, 2000, .inl (iA (up g1 i nx))))] H locs := hW
                refine lv_iinc (v := iI (i + 1)) (lv' := [(3, .int (iI (i + 1))), (5, .int (iI nx)), (4, .int (iI du)), (2, .ref no), (0, .ref h), (1, .ref rh)]) C.1 C.2.1 dX2_make_97 hl (k := 2) rfl (iI_add _ _) (by decide) rfl (fun ls hl => ?_)
                refine lv_goto (tgt := 22) C.1 C.2.1 dX2_make_100 (by decide) ?_
                exact ih_22 (i + 1) f3 e3 (up g1 i nx) (by first | omega | assumption | (intros; first | rfl | omega | assumption | (and_intros <;> first | rfl | omega | assumption))) hf3 he3 hbd_96 (fun j j0 j1 => (Int.lt_or_le j i).elim (fun q => by rw [up_n _ _ (by omega)]; exact hV j j0 q) (fun q => by rw [show j = i by omega, up_s]; exact hz83)) (fun j j0 j1 j2 => (Int.lt_or_le j i).elim (fun q => by rw [up_n _ _ (by omega)]; exact hB1 j j0 q j2) (fun q => by rw [show j = i by omega, up_s]; exact hnx.1 (by omega))) (fun j j0 j1 => (Int.lt_or_le j i).elim (fun q => by rw [up_n _ _ (by omega)]; exact NextR_congr (by first | exact Or.inl (by omega) | exact (Int.lt_or_le 0 j).elim (fun r => Or.inl r) (fun r => Or.inr (few_6 S hS (by have := hVB.1; omega)))) hS (fun x x0 x1 => (up_n _ _ (by omega)).symm) (hN j j0 q)) (fun q => by rw [show j = i by omega, up_s]; have hq := hnx.2 (by omega); exact (Int.lt_or_le 0 i).elim (fun r => NextR_congr (Or.inl r) hS (fun x x0 x1 => (up_n _ _ (by omega)).symm) (by have hd9 := (hdu.2 (by omega)).1; rw [hq] at hz83 ⊢; exact hd9 hz83)) (fun r => by have hd0 := hdu.1 (by omega); rw [hq, hd0, show i = 0 by omega]; exact NextR_0 hS (by have := hVB.1; omega)))) (by rw [show max (i + 1) 1 = i + 1 by omega]; exact MkB_congr hS (fun x x0 x1 => (up_n _ _ (by omega)).symm) hM2) (by omega) _ _ _ hW (lv_sub hl [0, 3, 4, 5] rfl)
              ·
                have hz83n : ¬ (0 ≤ nx ∧ nx ≤ 60000) := by rcases hz_83_0 with q | q; omega; exact q.2
                have hni : n ≤ i := (Int.lt_or_le i n).elim (fun q => by have := hnx.1 q; have := hsn.2.2 i (by omega) q; omega) id
                have hi1 : 1 ≤ i := (Int.lt_or_le 0 i).elim id (fun q => by have := hdu.1 (by omega); have := hnx.2 hni; omega)
                refine lv_goto (tgt := 103) C.1 C.2.1 dX2_make_89 (by decide) ?_
                refine lv_aload_n C.1 C.2.1 dX2_make_103 rfl (lv_at hl 5 rfl) ?_
                refine lv_iload_n C.1 C.2.1 dX2_make_104 rfl (lv_at hl 2 rfl) ?_
                refine z_putN C hK hW hin5 tyX5 tyX5_ok nmX5 4 rfl rfl 4 (by decide) (nw_f_RX2_61 hK.2.1) (fun _ h9 => h9) rfl rfl rfl (Nat.le_of_ble_eq_true rfl) dX2_make_105 (fun H locs hW => ?_)
                have hW : Wd G A s9.heap [(h, .inr (1, [.ref mk, .ref ae])), (mk, .inr (2, [.ref ma])), (ma, .inl (G.2.1 0, 60001, .inl (iA f3))), (ae, .inl (G.2.1 0, 1000, .inl (iA e3))), (rh, .inr (4, [.ref bo, .ref no, .ref (G.2.2 S), .int (iI M), .int (iI i)])), (bo, .inr (5, [.ref bi, .int (iI n)])), (bi, .inl (G.2.1 0, 6, .inl (iA B))), (no, .inl (G.2.1 0, 2000, .inl (iA g1)))] H locs := hW
                refine lv_aload_n C.1 C.2.1 dX2_make_108 rfl (lv_at hl 5 rfl) ?_
                refine lv_iconst (v := iI 1) C.1 C.2.1 dX2_make_109 rfl ?_
                refine z_putN C hK hW hin5 tyX5 tyX5_ok nmX5 4 rfl rfl 3 (by decide) (nw_f_RX2_65 hK.2.1) (fun _ h9 => h9) rfl rfl rfl (Nat.le_of_ble_eq_true rfl) dX2_make_110 (fun H locs hW => ?_)
                have hW : Wd G A s9.heap [(h, .inr (1, [.ref mk, .ref ae])), (mk, .inr (2, [.ref ma])), (ma, .inl (G.2.1 0, 60001, .inl (iA f3))), (ae, .inl (G.2.1 0, 1000, .inl (iA e3))), (rh, .inr (4, [.ref bo, .ref no, .ref (G.2.2 S), .int (iI 1), .int (iI i)])), (bo, .inr (5, [.ref bi, .int (iI n)])), (bi, .inl (G.2.1 0, 6, .inl (iA B))), (no, .inl (G.2.1 0, 2000, .inl (iA g1)))] H locs := hW
                rw [hQ]
                have hP9 : (none : Option Value) = none ∧ (RowR S n B i g1) ∧ (BD f3) ∧ (BD e3) ∧ (BD g1) := ⟨rfl, ⟨by omega, by omega, by omega, hV, fun j j0 j1 => hB1 j j0 (by omega) j1, hN, fun q9 => by first | omega | (have hq : nx = du := hnx.2 (by omega); rw [hq] at hz83n; exact (hdu.2 (by omega)).2 hz83n)⟩, hf3, he3, hg1⟩
                exact z_vret C hr hlocks hW (f3, e3, i, g1) rfl hP9 dX2_make_113
            refine lv_iload_n C.1 C.2.1 dX2_make_55 rfl (lv_at hl 1 rfl) ?_
            refine lv_aload_n C.1 C.2.1 dX2_make_56 rfl (lv_at hl 4 rfl) ?_
            refine z_getN C hK hW hin5 (v := .ref bo) 4 rfl rfl 0 (by decide) (nw_f_RX2_43 hK.2.1) (fun _ h9 => h9) rfl dX2_make_57 ?_
            refine z_callR (va_runV (As := []) (rest := [.int (iI i)]) C (c_X6_size l G bo bi 6 n B  H.size) (cwV 0 C.2.2.2.2 gX2_make_X6_size rfl rfl rfl (by decide +kernel) ⟨Nat.le_of_ble_eq_true rfl, Nat.le_of_ble_eq_true rfl⟩) (z_preV hK hW hA [5, 6] rfl (by decide) (ci := 5) (q0 := 5) rfl rfl) rfl rfl hl.1 rfl (lv_room (Nat.le_of_ble_eq_true rfl)) dX2_make_60 ⟨Nat.zero_le _, Nat.zero_le _⟩) (fun r hp => ?_)
            have hp : ∃ z : Int, r = some (.int (iI z)) ∧ (z = n) := hp
            obtain ⟨z_60, rfl, hz_60_0⟩ := hp
            refine z_icmp_ge (tgt := 77) C dX2_make_63 (by decide) (by omega) (fun c_63 => ?_) (fun c_63 => ?_)
            ·
              refine lv_iload C.1 C.2.1 dX2_make_77 (lv_at hl 0 rfl) ?_
              exact cut_79 du ⟨fun q9 => by omega, fun _ => rfl⟩ hdr _ _ _ hW (lv_sub hl [0, 1, 2, 3, 4] rfl)
            ·
              refine lv_aload_n C.1 C.2.1 dX2_make_66 rfl (lv_at hl 4 rfl) ?_
              refine z_getN C hK hW hin5 (v := .ref bo) 4 rfl rfl 0 (by decide) (nw_f_RX2_43 hK.2.1) (fun _ h9 => h9) rfl dX2_make_67 ?_
              refine lv_iload_n C.1 C.2.1 dX2_make_70 rfl (lv_at hl 1 rfl) ?_
              refine z_callR (va_runV (As := [.int (iI i)]) (rest := []) C (c_X6_get l G bo bi 6 n B i (by first | omega | assumption | (intros; first | rfl | omega | assumption | (and_intros <;> first | rfl | omega | assumption))) (by first | omega | assumption | (intros; first | rfl | omega | assumption | (and_intros <;> first | rfl | omega | assumption))) hB (by first | omega | assumption | (intros; first | rfl | omega | assumption | (and_intros <;> first | rfl | omega | assumption))) H.size) (cwV 1 C.2.2.2.2 gX2_make_X6_get rfl rfl rfl (by decide +kernel) ⟨Nat.le_of_ble_eq_true rfl, Nat.le_of_ble_eq_true rfl⟩) (z_preV hK hW hA [5, 6] rfl (by decide) (ci := 5) (q0 := 5) rfl rfl) rfl rfl hl.1 rfl (lv_room (Nat.le_of_ble_eq_true rfl)) dX2_make_71 ⟨Nat.zero_le _, Nat.zero_le _⟩) (fun r hp => ?_)
              have hp : ∃ z : Int, r = some (.int (iI z)) ∧ ((0 ≤ i ∧ i < n → z = B i)) ∧ ((¬ (0 ≤ i ∧ i < n) → z = -4)) ∧ (-2147483648 ≤ z ∧ z ≤ 2147483647) := hp
              obtain ⟨z_71, rfl, hz_71_0, hz_71_1, hz_71_2⟩ := hp
              refine lv_goto (tgt := 79) C.1 C.2.1 dX2_make_74 (by decide) ?_
              exact cut_79 z_71 ⟨fun q9 => hz_71_0 (by omega), fun q9 => by omega⟩ hz_71_2 _ _ _ hW (lv_sub hl [0, 1, 2, 3, 4] rfl)
          refine lv_iload_n C.1 C.2.1 dX2_make_35 rfl (lv_at hl 0 rfl) ?_
          refine z_if_ne (tgt := 43) C dX2_make_36 (by decide) (by omega) (fun c_36 => ?_) (fun c_36 => ?_)
          ·
            refine lv_aload_n C.1 C.2.1 dX2_make_43 rfl (lv_at hl 2 rfl) ?_
            refine lv_aload_n C.1 C.2.1 dX2_make_44 rfl (lv_at hl 3 rfl) ?_
            refine z_getN C hK hW hin5 (v := .ref (G.2.2 S)) 4 rfl rfl 2 (by decide) (nw_f_RX2_35 hK.2.1) (fun _ h9 => h9) rfl dX2_make_45 ?_
            refine lv_aload_n C.1 C.2.1 dX2_make_48 rfl (lv_at hl 1 rfl) ?_
            refine lv_iload_n C.1 C.2.1 dX2_make_49 rfl (lv_at hl 0 rfl) ?_
            refine z_call (va_runV (As := [.ref (G.2.2 S), .ref no, .int (iI i)]) (rest := []) C (c_X2_due l G h mk ma ae no f1 e1 g1 i S hf1 he1 hg1 (by omega) hV hS (by rw [show max i 1 = i by omega] at hM; exact hM) H.size) (cwV 3 C.2.2.2.2 gX2_make_X2_due rfl rfl rfl (by decide +kernel) ⟨Nat.le_of_ble_eq_true rfl, Nat.le_of_ble_eq_true rfl⟩) (z_preV hK hW hA [0, 1, 2, 3, 7] rfl (by decide) (ci := 1) (q0 := 0) rfl rfl) rfl rfl hl.1 rfl (lv_room (Nat.le_of_ble_eq_true rfl)) dX2_make_50 ⟨Nat.zero_le _, Nat.zero_le _⟩) hW hA [0, 1, 2, 3, 7] rfl (by decide) (fun _ => rfl) (fun r u H locs hp hW => ?_)
            obtain ⟨f2_50, e2_50⟩ := u
            have hp : ∃ z : Int, r = some (.int (iI z)) ∧ (DueR S g1 i z) ∧ (-2147483648 ≤ z ∧ z ≤ 2147483647) ∧ (MkB S g1 (i + 1) f2_50 e2_50) ∧ (BD f2_50) ∧ (BD e2_50) := hp
            obtain ⟨z_50, rfl, hz_50_0, hz_50_1, hz_50_2, hz_50_3, hz_50_4⟩ := hp
            have hW : Wd G A s9.heap [(h, .inr (1, [.ref mk, .ref ae])), (mk, .inr (2, [.ref ma])), (ma, .inl (G.2.1 0, 60001, .inl (iA f2_50))), (ae, .inl (G.2.1 0, 1000, .inl (iA e2_50))), (rh, .inr (4, [.ref bo, .ref no, .ref (G.2.2 S), .int (iI M), .int (iI L)])), (bo, .inr (5, [.ref bi, .int (iI n)])), (bi, .inl (G.2.1 0, 6, .inl (iA B))), (no, .inl (G.2.1 0, 2000, .inl (iA g1)))] H locs := hW
            exact cut_53 z_50 f2_50 e2_50 ⟨fun q9 => by omega, fun _ => hz_50_0⟩ hz_50_1 hz_50_3 hz_50_4 hz_50_2 _ _ _ hW (lv_sub hl [0, 1, 2, 3] rfl)
          ·
            refine lv_iconst (v := iI 0) C.1 C.2.1 dX2_make_39 rfl ?_
            refine lv_goto (tgt := 53) C.1 C.2.1 dX2_make_40 (by decide) ?_
            exact cut_53 0 f1 e1 ⟨fun _ => rfl, fun q9 => by omega⟩ (by first | omega | assumption | (intros; first | rfl | omega | assumption | (and_intros <;> first | rfl | omega | assumption))) hf1 he1 (by rw [show max i 1 = i + 1 by omega] at hM; exact hM) _ _ _ hW (lv_sub hl [0, 1, 2, 3] rfl)
  exact cut_22 (((2000 - 0) + 1 : Int)).toNat 0 g2_4 f2_12 g (by first | omega | assumption | (intros; first | rfl | omega | assumption | (and_intros <;> first | rfl | omega | assumption))) hz_4_1 hz_12_1 hg (fun j j0 j1 => by omega) (fun j j0 j1 => by omega) (fun j j0 j1 => by omega) (by rw [show max (0 : Int) 1 = 1 by omega]; exact MkB_1 hS hz_4_0 (fun s s0 s1 => hz_12_0 s s0 (by omega))) (by omega) _ _ _ hW (lv_sub hl [0, 1, 2, 3] rfl)
