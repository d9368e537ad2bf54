set_option maxHeartbeats 400000 in
set_option maxRecDepth 100000 in
/-- X4_init -/
theorem c_X4_init (l : Launch) (G : GG) (h : Nat) : MIc l yX4_init wsX4_init 2 123 2623 G [.ref h] [(h, .inr (3, [.null, .int (iI 0), .int (iI 0)]))] (fun (u : Nat × (Int → Nat) × (Int → Nat)) => True) (fun (u : Nat × (Int → Nat) × (Int → Nat)) => ([(h, .inr (3, [.ref u.1, .int (iI 0), .int (iI 0)])), (u.1, .inl (G.2.1 4, 61, .inr (.inr (.inr (.inr (regF u.2.1))))))] ++ plF G u.2.1 u.2.2 (fun _ => 0) (fun _ _ => 0) 61 0)) := by
  refine MIc.start (own := RX4) (by decide) rfl rfl (Nat.le_of_ble_eq_true rfl) rfl ?_
  intro p9 e9 s9 m9 args below meth c9 A Q C hK hW hA hr hlocks hnm9 hO hQ ls hl
  have hl : lv_has ls 2 [(0, .ref h)] := hl
  have hin4 : ∀ w ∈ wsX40, w ∈ wsX4_init := by decide +kernel
  have hin6 : ∀ w ∈ wsX60, w ∈ wsX4_init := by decide +kernel
  refine lv_aload_n C.1 C.2.1 dX4_init_0 rfl (lv_at hl 0 rfl) ?_
  refine z_obj C hl.1 (C.2.2.2.2 (.methodLink RX4 3 objectInit) (List.mem_of_getElem? (i := 1) rfl)) (C.2.2.2.2 (.instanceMethod objectInit) (List.mem_of_getElem? (i := 2) rfl)) (C.2.2.2.2 (.code objectInit ⟨#[0xb1]⟩ 1 none) (List.mem_of_getElem? (i := 3) rfl)) (Nat.le_of_ble_eq_true rfl) (Nat.le_of_ble_eq_true rfl) dX4_init_1 ?_
  refine lv_aload_n C.1 C.2.1 dX4_init_4 rfl (lv_at hl 0 rfl) ?_
  refine lv_bipush (v := iI 61) C.1 C.2.1 dX4_init_5 (by decide +kernel) ?_
  refine z_newq6 C hK hW hA hO (C.2.2.2.2 (.classLink RX4 9 RX6) (List.mem_of_getElem? (i := 4) rfl)) 61 ⟨rfl, by omega⟩ (Nat.le_of_ble_eq_true rfl) (Nat.le_of_ble_eq_true rfl) dX4_init_7 (fun sr9 H hW => ?_)
  refine z_putF C hK hW hin4 tyX4 tyX4_ok nmX4 1 rfl rfl 0 (by decide) (C.2.2.2.2 (.fieldLink RX4 11 "TellingRows$Rounds" "steps" "[LTellingRows$Sequence;") (List.mem_of_getElem? (i := 5) rfl)) (fun _ h9 => h9) rfl hnm9 rfl rfl rfl (Nat.le_of_ble_eq_true rfl) dX4_init_10 (fun H locs hW => ?_)
  have hW : Wd G A s9.heap [(sr9, .inl (G.2.1 4, 61, .inr (.inr (.inr (.inr (fun _ => none)))))), (h, .inr (3, [.ref sr9, .int (iI 0), .int (iI 0)]))] H locs := hW
  refine lv_iconst (v := iI 0) C.1 C.2.1 dX4_init_13 rfl ?_
  refine lv_istore_n (lv' := [(1, .int (iI 0)), (0, .ref h)]) C.1 C.2.1 dX4_init_14 rfl hl (by decide) rfl (fun ls hl => ?_)
  have cut_15 : ∀ (n9 : Nat) (i : Int) (f : Nat → Option Nat) (R : va_W), (0 ≤ i ∧ i ≤ 61) → (PoolQ G R i f) → (61 - i < (n9 : Int)) → ∀ (H : Heap) (locs : List Loc) (ls : Array Slot), Wd G A s9.heap ([(h, .inr (3, [.ref sr9, .int (iI 0), .int (iI 0)])), (sr9, .inl (G.2.1 4, 61, .inr (.inr (.inr (.inr f)))))] ++ R) H locs → lv_has ls 2 [(1, .int (iI i)), (0, .ref h)] → W p9 l e9 (rmI 2 123 2623) s9 m9 args below meth c9 H locs (1 + 2 * i.toNat) (61 + 42 * i.toNat) Q (F0 m9 15 ls []) := by
    intro n9
    induction n9 with
    | zero => intro i f R hi hR hmu; intros; exfalso; omega
    | succ n9 ih_15 =>
      intro i f R hi hR hmu H locs ls hW hl
      refine lv_iload_n C.1 C.2.1 dX4_init_15 rfl (lv_at hl 0 rfl) ?_
      refine lv_aload_n C.1 C.2.1 dX4_init_16 rfl (lv_at hl 1 rfl) ?_
      refine z_get C hK hW hin4 (v := .ref sr9) 0 rfl rfl 0 (by decide) (C.2.2.2.2 (.fieldLink RX4 11 "TellingRows$Rounds" "steps" "[LTellingRows$Sequence;") (List.mem_of_getElem? (i := 5) rfl)) (fun _ h9 => h9) rfl dX4_init_17 ?_
      refine z_alen C hK hW 1 4 rfl rfl dX4_init_20 ?_
      refine z_icmp_ge (tgt := 45) C dX4_init_21 (by decide) (by omega) (fun c_21 => ?_) (fun c_21 => ?_)
      ·
        obtain ⟨psh, psa, rfl, hf⟩ := PoolQ_e (by omega) hR
        have hW : Wd G A s9.heap ([(h, .inr (3, [.ref sr9, .int (iI 0), .int (iI 0)])), (sr9, .inl (G.2.1 4, 61, .inr (.inr (.inr (.inr (regF psh))))))] ++ plF G psh psa (fun _ => 0) (fun _ _ => 0) 61 0) H locs := Wd.qext 1 hW rfl hf
        rw [hQ]
        have hP9 : True := trivial
        exact z_vretI C hr hlocks hW (sr9, psh, psa) rfl hP9 ⟨by show 1 + 2 * i.toNat ≤ 123; omega, by show 61 + 42 * i.toNat ≤ 2623; omega⟩ dX4_init_45
      ·
        refine lv_aload_n C.1 C.2.1 dX4_init_24 rfl (lv_at hl 1 rfl) ?_
        refine z_get C hK hW hin4 (v := .ref sr9) 0 rfl rfl 0 (by decide) (C.2.2.2.2 (.fieldLink RX4 11 "TellingRows$Rounds" "steps" "[LTellingRows$Sequence;") (List.mem_of_getElem? (i := 5) rfl)) (fun _ h9 => h9) rfl dX4_init_25 ?_
        refine lv_iload_n C.1 C.2.1 dX4_init_28 rfl (lv_at hl 0 rfl) ?_
        refine z_new C hK hW hA (ci := 5) (fs := [.null, .int (iI 0)]) hin6 tyX6 tyX6_ok (C.2.2.2.2 (.classLink RX4 9 RX6) (List.mem_of_getElem? (i := 4) rfl)) (C.2.2.2.2 (.instantiable RX6 2) (List.mem_of_getElem? (i := 6) rfl)) (C.2.2.2.2 (.initialized RX6) (List.mem_of_getElem? (i := 7) rfl)) rfl (fun j hj => by rcases (show j = 0 ∨ j = 1 by omega) with rfl | rfl <;> rfl) (by show 1 + 2 * i.toNat + 1 ≤ 123; omega) (by show 61 + 42 * i.toNat + 2 ≤ 2623; omega) dX4_init_29 (fun q9n H hW => ?_)
        refine lv_dup C.1 C.2.1 dX4_init_32 rfl ?_
        refine lv_bipush (v := iI 40) C.1 C.2.1 dX4_init_33 (by decide +kernel) ?_
        have hW : Wd G A s9.heap ([(q9n, .inr (5, [.null, .int (iI 0)]))] ++ ([(h, .inr (3, [.ref sr9, .int (iI 0), .int (iI 0)])), (sr9, .inl (G.2.1 4, 61, .inr (.inr (.inr (.inr f)))))] ++ R)) H locs := hW
        refine z_callI (va_runI (As := [.int (iI 40)]) (rest := [.ref q9n, .int (iI i), .ref sr9]) C (c_X6_init l G q9n 40 40 (by first | omega | assumption | (intros; first | rfl | omega | assumption | (and_intros <;> first | rfl | omega | assumption))) H.size) (cwI 1 C.2.2.2.2 gX4_init_X6_init rfl rfl rfl (C.2.2.2.2 (.initialized RX6) (List.mem_of_getElem? (i := 7) rfl)) (C.2.2.2.2 (.methodLink RX4 17 yX6_init) (List.mem_of_getElem? (i := 8) rfl)) (C.2.2.2.2 (.instanceMethod yX6_init) (List.mem_of_getElem? (i := 9) rfl)) rfl (by decide +kernel) ⟨Nat.le_of_ble_eq_true rfl, Nat.le_of_ble_eq_true rfl⟩) (z_preI hK hO hW hA) rfl rfl hl.1 rfl (lv_room (Nat.le_of_ble_eq_true rfl)) dX4_init_35 ⟨by show 1 + 2 * i.toNat + 1 + 1 ≤ 123; omega, by show 61 + 42 * i.toNat + 2 + 40 ≤ 2623; omega⟩) hW hA (fun u H locs hp hW => ?_)
        obtain ⟨q_35, rfl⟩ : ∃ q9, q9 = u := ⟨_, rfl⟩
        have hW : Wd G A s9.heap ([(q9n, .inr (5, [.ref q_35, .int (iI 0)])), (q_35, .inl (G.2.1 0, 40, .inl (iA (fun _ => 0)))), (h, .inr (3, [.ref sr9, .int (iI 0), .int (iI 0)])), (sr9, .inl (G.2.1 4, 61, .inr (.inr (.inr (.inr f)))))] ++ R) H locs := hW
        refine z_astq C hK hW 3 4 0 5 rfl rfl rfl rfl (by omega) (by omega) dX4_init_38 (fun H locs hW => ?_)
        have hW : Wd G A s9.heap ([(q9n, .inr (5, [.ref q_35, .int (iI 0)])), (q_35, .inl (G.2.1 0, 40, .inl (iA (fun _ => 0)))), (h, .inr (3, [.ref sr9, .int (iI 0), .int (iI 0)])), (sr9, .inl (G.2.1 4, 61, .inr (.inr (.inr (.inr (va_up f i.toNat (some q9n)))))))] ++ R) H locs := hW
        refine lv_iinc (v := iI (i + 1)) (lv' := [(1, .int (iI (i + 1))), (0, .ref h)]) C.1 C.2.1 dX4_init_39 hl (k := 0) rfl (iI_add _ _) (by decide) rfl (fun ls hl => ?_)
        refine lv_goto (tgt := 15) C.1 C.2.1 dX4_init_42 (by decide) ?_
        have hW : Wd G A s9.heap (([(q9n, .inr (5, [.ref q_35, .int (iI 0)])), (q_35, .inl (G.2.1 0, 40, .inl (iA (fun _ => 0))))] ++ [(h, .inr (3, [.ref sr9, .int (iI 0), .int (iI 0)])), (sr9, .inl (G.2.1 4, 61, .inr (.inr (.inr (.inr (va_up f i.toNat (some q9n)))))))]) ++ R) H locs := hW
        have hW : Wd G A s9.heap ([(h, .inr (3, [.ref sr9, .int (iI 0), .int (iI 0)])), (sr9, .inl (G.2.1 4, 61, .inr (.inr (.inr (.inr (va_up f i.toNat (some q9n)))))))] ++ (R ++ [(q9n, .inr (5, [.ref q_35, .int (iI 0)])), (q_35, .inl (G.2.1 0, 40, .inl (iA (fun _ => 0))))])) H locs := Wd.perm hW (perm_tail (c := []))
        rw [show 1 + 2 * i.toNat + 1 + 1 = 1 + 2 * (i + 1).toNat by omega, show 61 + 42 * i.toNat + 2 + 40 = 61 + 42 * (i + 1).toNat by omega]
        exact ih_15 (i + 1) (va_up f i.toNat (some q9n)) (R ++ [(q9n, .inr (5, [.ref q_35, .int (iI 0)])), (q_35, .inl (G.2.1 0, 40, .inl (iA (fun _ => 0))))]) (by first | omega | assumption | (intros; first | rfl | omega | assumption | (and_intros <;> first | rfl | omega | assumption))) (PoolQ_s hi.1 hR) (by omega) _ _ _ hW (lv_sub hl [0, 1] rfl)
  have hW : Wd G A s9.heap ([(h, .inr (3, [.ref sr9, .int (iI 0), .int (iI 0)])), (sr9, .inl (G.2.1 4, 61, .inr (.inr (.inr (.inr (fun _ => none))))))] ++ []) H locs := Wd.sub hW [1, 0] rfl (by decide)
  exact cut_15 (((61 - 0) + 1 : Int)).toNat 0 (fun _ => none) ([]) (by first | omega | assumption | (intros; first | rfl | omega | assumption | (and_intros <;> first | rfl | omega | assumption))) PoolQ_0 (by omega) _ _ _ hW (lv_sub hl [0, 1] rfl)
