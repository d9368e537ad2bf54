/-! a byte of a long, with its sign -/
def byS (y : Int64) (b : Int) : Int := (((y >>> ((iI b).toInt64 &&& 63)).toInt32).toInt8.toInt32).toInt
theorem byS_b (y : Int64) (b : Int) : -128 ≤ byS y b ∧ byS y b ≤ 127 := by
  unfold byS
  rw [Int8.toInt_toInt32]
  have h1 := Int8.le_toInt (((y >>> ((iI b).toInt64 &&& 63)).toInt32).toInt8)
  have h2 := Int8.toInt_lt (((y >>> ((iI b).toInt64 &&& 63)).toInt32).toInt8)
  omega
theorem nar_i2b (x : Int32) : vp_nar .byte (iI (x.toInt8.toInt32).toInt) = iI (x.toInt8.toInt32).toInt := by
  rw [iI_self]
  show x.toInt8.toInt32.toInt8.toInt32 = x.toInt8.toInt32
  rw [Int8.toInt8_toInt32]
theorem z_i2bI {p : Program} {l : Launch} {e : Env} {R : Room} {s : State} {m : MethodId} {args : Array Value} {below : List Frame} {meth : Method} {c : Code} {H : Heap} {locs : List Loc} {cells slots : Nat} {Q : State → Prop} {cc : ByteArray} {nL : Nat} {Ts : List Cond} {own : String} {pc : Nat} {ls : Array Slot} {rest : List Value} (C : CallFix p m c cc nL s args Ts own) {x : Int32} (hdg : decode cc pc = .ok (.i2b, 1)) (k : W p l e R s m args below meth c H locs cells slots Q (F0 m (pc + 1) ls (.int (iI (x.toInt8.toInt32).toInt) :: rest))) : W p l e R s m args below meth c H locs cells slots Q (F0 m pc ls (.int x :: rest)) := lv_i2b C.1 C.2.1 hdg rfl (by rw [iI_self] at k; exact k)
set_option maxHeartbeats 4000000 in
set_option maxRecDepth 100000 in
/-- write -/
theorem c_X11_write (l : Launch) (G : GG) (x : Nat) (ln : Int) (a1 : Nat) (pl : Int) (a3 : Nat) (a4 : Nat) (ri : Int) (ld : Int) (mn : Int) (a8 : Nat) (a9 : Nat) (nn : Int) (a11 : Nat) (fn : Int) (a13 : Nat) (lm : Int) (a15 : Nat) (a16 : Nat) (a17 : Nat) (a18 : Nat) (a19 : Nat) (a20 : Nat) (t : Int → Int) (n : Int) (y : Int64) (hT : 0 ≤ ln ∧ ln ≤ 120) (htb : BD t) (hn : -2147483648 ≤ n ∧ n ≤ 2147483647) : MQc l yX11_write wsX11_write 1 G [.ref x, .int (iI n), .long y] [(x, .inr (9, [.int (iI ln), .ref a1, .int (iI pl), .ref a3, .ref a4, .int (iI ri), .int (iI ld), .int (iI mn), .ref a8, .ref a9, .int (iI nn), .ref a11, .int (iI fn), .ref a13, .int (iI lm), .ref a15, .ref a16, .ref a17, .ref a18, .ref a19, .ref a20])), (a1, .inl (G.2.1 1, 120, .inl (iA t)))] (fun r (u : Int × (Int → Int)) => ∃ z : Int, r = some (.int (iI z)) ∧ (¬ (1 ≤ n ∧ n ≤ 8) → z = -1 ∧ u.1 = ln ∧ u.2 = t) ∧ ((1 ≤ n ∧ n ≤ 8) ∧ ¬ (ln + n ≤ 120) → z = -3 ∧ u.1 = ln ∧ u.2 = t) ∧ ((1 ≤ n ∧ n ≤ 8) ∧ ln + n ≤ 120 → z = ln + n ∧ u.1 = ln + n ∧ (∀ j, 0 ≤ j → j < ln → u.2 j = t j) ∧ ∀ j, ln ≤ j → j < ln + n → u.2 j = byS y (8 * (n - 1 - (j - ln)))) ∧ (BD u.2)) (fun u => [(x, .inr (9, [.int (iI u.1), .ref a1, .int (iI pl), .ref a3, .ref a4, .int (iI ri), .int (iI ld), .int (iI mn), .ref a8, .ref a9, .int (iI nn), .ref a11, .int (iI fn), .ref a13, .int (iI lm), .ref a15, .ref a16, .ref a17, .ref a18, .ref a19, .ref a20])), (a1, .inl (G.2.1 1, 120, .inl (iA u.2)))]) := by
  refine MQc.start (own := RX11) (by decide) rfl rfl (Nat.le_of_ble_eq_true rfl) ?_
  intro p9 e9 s9 m9 args below meth c9 A Q C hK hW hA hr hlocks hQ ls hl
  have hl : lv_has ls 5 [(0, .ref x), (1, .int (iI n)), (2, .long y)] := hl
  have hin11 : ∀ w ∈ wsX110, w ∈ wsX11_write := by decide +kernel
  refine lv_iload_n C.1 C.2.1 dX11_write_0 rfl (lv_at hl 1 rfl) ?_
  refine z_i2l C dX11_write_1 (by omega) ?_
  refine lv_lconst (v := lI 1) C.1 C.2.1 dX11_write_2 rfl ?_
  refine z_ldc2 (z := 8) C (C.2.2.2.2 (.constantLong RX11 56 (8)) (List.mem_of_getElem? (i := 1) rfl)) (by decide +kernel) dX11_write_3 ?_
  refine z_callR (va_runS (As := [.long (lI n), .long (lI 1), .long (lI 8)]) (rest := []) C (c_X11_in l G n 1 8 (by first | omega | assumption | (intros; first | rfl | omega | assumption | (and_intros <;> first | rfl | omega | assumption))) (by first | omega | assumption | (intros; first | rfl | omega | assumption | (and_intros <;> first | rfl | omega | assumption))) (by first | omega | assumption | (intros; first | rfl | omega | assumption | (and_intros <;> first | rfl | omega | assumption))) s9.heap.size) (va_cwS 3 C.2.2.2.2 gX11_write_X11_in rfl rfl rfl (by decide +kernel) ⟨Nat.le_of_ble_eq_true rfl, Nat.le_of_ble_eq_true rfl⟩) (z_preS hK hW hA [] rfl (by decide)) rfl rfl hl.1 rfl (lv_room (Nat.le_of_ble_eq_true rfl)) dX11_write_6 ⟨Nat.zero_le _, Nat.zero_le _⟩) (fun r hp => ?_)
  have hp : ∃ z : Int, r = some (.int (iI z)) ∧ ((z = 1 ∧ ((1 : Int) ≤ n ∧ n ≤ (8 : Int))) ∨ (z = 0 ∧ ¬ ((1 : Int) ≤ n ∧ n ≤ (8 : Int)))) := hp
  obtain ⟨z_6, rfl, hz_6_0⟩ := hp
  refine z_if_ne (tgt := 14) C dX11_write_9 (by decide) (by omega) (fun c_9 => ?_) (fun c_9 => ?_)
  ·
    refine lv_aload_n C.1 C.2.1 dX11_write_14 rfl (lv_at hl 0 rfl) ?_
    refine z_get C hK hW hin11 (v := .int (iI ln)) 0 rfl rfl 0 (by decide) (C.2.2.2.2 (.fieldLink RX11 62 "TellingRowsModel" "length" "I") (List.mem_of_getElem? (i := 2) rfl)) (fun _ h9 => h9) rfl dX11_write_15 ?_
    refine lv_iload_n C.1 C.2.1 dX11_write_18 rfl (lv_at hl 1 rfl) ?_
    refine z_iadd C dX11_write_19 ?_
    refine lv_bipush (v := iI 120) C.1 C.2.1 dX11_write_20 (by decide +kernel) ?_
    refine z_icmp_le (tgt := 28) C dX11_write_22 (by decide) (by omega) (fun c_22 => ?_) (fun c_22 => ?_)
    ·
      refine lv_iload_n C.1 C.2.1 dX11_write_28 rfl (lv_at hl 1 rfl) ?_
      refine lv_iconst (v := iI 1) C.1 C.2.1 dX11_write_29 rfl ?_
      refine z_isub C dX11_write_30 ?_
      refine lv_istore (lv' := [(4, .int (iI (n - 1))), (0, .ref x), (1, .int (iI n)), (2, .long y)]) C.1 C.2.1 dX11_write_31 hl (by decide) rfl (fun ls hl => ?_)
      have cut_33 : ∀ (n9 : Nat) (b : Int) (T1 : Int) (t1 : Int → Int), (-1 ≤ b ∧ b ≤ n - 1) → (T1 = ln + (n - 1 - b)) → (BD t1) → (∀ j, 0 ≤ j → j < ln → t1 j = t j) → (∀ j, ln ≤ j → j < T1 → t1 j = byS y (8 * (n - 1 - (j - ln)))) → (b + 1 < (n9 : Int)) → ∀ (H : Heap) (locs : List Loc) (ls : Array Slot), Wd G A s9.heap [(x, .inr (9, [.int (iI T1), .ref a1, .int (iI pl), .ref a3, .ref a4, .int (iI ri), .int (iI ld), .int (iI mn), .ref a8, .ref a9, .int (iI nn), .ref a11, .int (iI fn), .ref a13, .int (iI lm), .ref a15, .ref a16, .ref a17, .ref a18, .ref a19, .ref a20])), (a1, .inl (G.2.1 1, 120, .inl (iA t1)))] H locs → lv_has ls 5 [(4, .int (iI b)), (0, .ref x), (1, .int (iI n)), (2, .long y)] → W p9 l e9 (rmL 1) s9 m9 args below meth c9 H locs 0 0 Q (F0 m9 33 ls []) := by
        intro n9
        induction n9 with
        | zero => intro b T1 t1 hb hT1 ht1 he1 he2 hmu; intros; exfalso; omega
        | succ n9 ih_33 =>
          intro b T1 t1 hb hT1 ht1 he1 he2 hmu H locs ls hW hl
          have hby := byS_b y (8 * b)
          unfold byS at hby
          refine lv_iload C.1 C.2.1 dX11_write_33 (lv_at hl 0 rfl) ?_
          refine z_if_lt (tgt := 72) C dX11_write_35 (by decide) (by omega) (fun c_35 => ?_) (fun c_35 => ?_)
          ·
            refine lv_aload_n C.1 C.2.1 dX11_write_72 rfl (lv_at hl 1 rfl) ?_
            refine z_get C hK hW hin11 (v := .int (iI T1)) 0 rfl rfl 0 (by decide) (C.2.2.2.2 (.fieldLink RX11 62 "TellingRowsModel" "length" "I") (List.mem_of_getElem? (i := 2) rfl)) (fun _ h9 => h9) rfl dX11_write_73 ?_
            rw [hQ]
            have hP9 : ∃ z : Int, (some (Value.int (iI T1))) = some (.int (iI z)) ∧ (¬ (1 ≤ n ∧ n ≤ 8) → z = -1 ∧ T1 = ln ∧ t1 = t) ∧ ((1 ≤ n ∧ n ≤ 8) ∧ ¬ (ln + n ≤ 120) → z = -3 ∧ T1 = ln ∧ t1 = t) ∧ ((1 ≤ n ∧ n ≤ 8) ∧ ln + n ≤ 120 → z = ln + n ∧ T1 = ln + n ∧ (∀ j, 0 ≤ j → j < ln → t1 j = t j) ∧ ∀ j, ln ≤ j → j < ln + n → t1 j = byS y (8 * (n - 1 - (j - ln)))) ∧ (BD t1) := ⟨_, rfl, (by first | omega | assumption | (intros; first | rfl | omega | assumption | (and_intros <;> first | rfl | omega | assumption))), (by first | omega | assumption | (intros; first | rfl | omega | assumption | (and_intros <;> first | rfl | omega | assumption))), (fun _ => ⟨by omega, by omega, he1, fun j j0 j1 => he2 j j0 (by omega)⟩), ht1⟩
            exact z_iret C hr hlocks hW (T1, t1) rfl hP9 dX11_write_76
          ·
            refine lv_aload_n C.1 C.2.1 dX11_write_38 rfl (lv_at hl 1 rfl) ?_
            refine z_get C hK hW hin11 (v := .ref a1) 0 rfl rfl 1 (by decide) (C.2.2.2.2 (.fieldLink RX11 7 "TellingRowsModel" "text" "[B") (List.mem_of_getElem? (i := 3) rfl)) (fun _ h9 => h9) rfl dX11_write_39 ?_
            refine lv_aload_n C.1 C.2.1 dX11_write_42 rfl (lv_at hl 1 rfl) ?_
            refine z_get C hK hW hin11 (v := .int (iI T1)) 0 rfl rfl 0 (by decide) (C.2.2.2.2 (.fieldLink RX11 62 "TellingRowsModel" "length" "I") (List.mem_of_getElem? (i := 2) rfl)) (fun _ h9 => h9) rfl dX11_write_43 ?_
            refine lv_lload_n C.1 C.2.1 dX11_write_46 rfl (lv_at hl 3 rfl) ?_
            refine lv_bipush (v := iI 8) C.1 C.2.1 dX11_write_47 (by decide +kernel) ?_
            refine lv_iload C.1 C.2.1 dX11_write_49 (lv_at hl 0 rfl) ?_
            refine z_imul C dX11_write_51 ?_
            refine lv_lshr (v := (y >>> ((iI (8 * b)).toInt64 &&& 63))) C.1 C.2.1 dX11_write_52 rfl ?_
            refine lv_l2i C.1 C.2.1 dX11_write_53 rfl ?_
            refine z_i2bI C dX11_write_54 ?_
            refine z_bast C hK hW 1 rfl (by omega) (by omega) (nar_i2b _) dX11_write_55 (fun H locs hW => ?_)
            have hbd_55 : BD (up t1 T1 (((((y >>> ((iI (8 * b)).toInt64 &&& 63))).toInt32).toInt8.toInt32).toInt)) := BD.up ht1 (by omega)
            have hW : Wd G A s9.heap [(x, .inr (9, [.int (iI T1), .ref a1, .int (iI pl), .ref a3, .ref a4, .int (iI ri), .int (iI ld), .int (iI mn), .ref a8, .ref a9, .int (iI nn), .ref a11, .int (iI fn), .ref a13, .int (iI lm), .ref a15, .ref a16, .ref a17, .ref a18, .ref a19, .ref a20])), (a1, .inl (G.2.1 1, 120, .inl (iA (up t1 T1 (((((y >>> ((iI (8 * b)).toInt64 &&& 63))).toInt32).toInt8.toInt32).toInt)))))] H locs := hW
            refine lv_aload_n C.1 C.2.1 dX11_write_56 rfl (lv_at hl 1 rfl) ?_
            refine lv_dup C.1 C.2.1 dX11_write_57 rfl ?_
            refine z_get C hK hW hin11 (v := .int (iI T1)) 0 rfl rfl 0 (by decide) (C.2.2.2.2 (.fieldLink RX11 62 "TellingRowsModel" "length" "I") (List.mem_of_getElem? (i := 2) rfl)) (fun _ h9 => h9) rfl dX11_write_58 ?_
            refine lv_iconst (v := iI 1) C.1 C.2.1 dX11_write_61 rfl ?_
            refine z_iadd C dX11_write_62 ?_
            refine z_put C hK hW hin11 tyX11 tyX11_ok nmX11 0 rfl rfl 0 (by decide) (C.2.2.2.2 (.fieldLink RX11 62 "TellingRowsModel" "length" "I") (List.mem_of_getElem? (i := 2) rfl)) (fun _ h9 => h9) rfl rfl rfl (Nat.le_of_ble_eq_true rfl) dX11_write_63 (fun H locs hW => ?_)
            have hW : Wd G A s9.heap [(x, .inr (9, [.int (iI (T1 + 1)), .ref a1, .int (iI pl), .ref a3, .ref a4, .int (iI ri), .int (iI ld), .int (iI mn), .ref a8, .ref a9, .int (iI nn), .ref a11, .int (iI fn), .ref a13, .int (iI lm), .ref a15, .ref a16, .ref a17, .ref a18, .ref a19, .ref a20])), (a1, .inl (G.2.1 1, 120, .inl (iA (up t1 T1 (((((y >>> ((iI (8 * b)).toInt64 &&& 63))).toInt32).toInt8.toInt32).toInt)))))] H locs := hW
            refine lv_iinc (v := iI (b + (-1))) (lv' := [(4, .int (iI (b + (-1)))), (0, .ref x), (1, .int (iI n)), (2, .long y)]) C.1 C.2.1 dX11_write_66 hl (k := 0) rfl (iI_add _ _) (by decide) rfl (fun ls hl => ?_)
            refine lv_goto (tgt := 33) C.1 C.2.1 dX11_write_69 (by decide) ?_
            exact ih_33 (b + (-1)) (T1 + 1) (up t1 T1 (((((y >>> ((iI (8 * b)).toInt64 &&& 63))).toInt32).toInt8.toInt32).toInt)) (by first | omega | assumption | (intros; first | rfl | omega | assumption | (and_intros <;> first | rfl | omega | assumption))) (by first | omega | assumption | (intros; first | rfl | omega | assumption | (and_intros <;> first | rfl | omega | assumption))) hbd_55 (fun j j0 j1 => by rw [up_n _ _ (by omega)]; exact he1 j j0 j1) (fun j j0 j1 => if q : j = T1 then (by rw [q, up_s, show n - 1 - (T1 - ln) = b by omega]; rfl) else (by rw [up_n _ _ q]; exact he2 j j0 (by omega))) (by omega) _ _ _ hW (lv_sub hl [0, 1, 2, 3] rfl)
      exact cut_33 ((((n - 1) + 1) + 1 : Int)).toNat (n - 1) ln t (by first | omega | assumption | (intros; first | rfl | omega | assumption | (and_intros <;> first | rfl | omega | assumption))) (by first | omega | assumption | (intros; first | rfl | omega | assumption | (and_intros <;> first | rfl | omega | assumption))) htb (fun j j0 j1 => rfl) (fun j j0 j1 => by omega) (by omega) _ _ _ hW (lv_sub hl [0, 1, 2, 3] rfl)
    ·
      refine lv_bipush (v := iI (-3)) C.1 C.2.1 dX11_write_25 (by decide +kernel) ?_
      rw [hQ]
      have hP9 : ∃ z : Int, (some (Value.int (iI (-3)))) = some (.int (iI z)) ∧ (¬ (1 ≤ n ∧ n ≤ 8) → z = -1 ∧ ln = ln ∧ t = t) ∧ ((1 ≤ n ∧ n ≤ 8) ∧ ¬ (ln + n ≤ 120) → z = -3 ∧ ln = ln ∧ t = t) ∧ ((1 ≤ n ∧ n ≤ 8) ∧ ln + n ≤ 120 → z = ln + n ∧ ln = ln + n ∧ (∀ j, 0 ≤ j → j < ln → t j = t j) ∧ ∀ j, ln ≤ j → j < ln + n → t j = byS y (8 * (n - 1 - (j - ln)))) ∧ (BD t) := ⟨_, rfl, (by first | omega | assumption | (intros; first | rfl | omega | assumption | (and_intros <;> first | rfl | omega | assumption))), (fun _ => ⟨rfl, rfl, rfl⟩), (by first | omega | assumption | (intros; first | rfl | omega | assumption | (and_intros <;> first | rfl | omega | assumption))), htb⟩
      exact z_iret C hr hlocks hW (ln, t) rfl hP9 dX11_write_27
  ·
    refine lv_iconst (v := iI (-1)) C.1 C.2.1 dX11_write_12 rfl ?_
    rw [hQ]
    have hP9 : ∃ z : Int, (some (Value.int (iI (-1)))) = some (.int (iI z)) ∧ (¬ (1 ≤ n ∧ n ≤ 8) → z = -1 ∧ ln = ln ∧ t = t) ∧ ((1 ≤ n ∧ n ≤ 8) ∧ ¬ (ln + n ≤ 120) → z = -3 ∧ ln = ln ∧ t = t) ∧ ((1 ≤ n ∧ n ≤ 8) ∧ ln + n ≤ 120 → z = ln + n ∧ ln = ln + n ∧ (∀ j, 0 ≤ j → j < ln → t j = t j) ∧ ∀ j, ln ≤ j → j < ln + n → t j = byS y (8 * (n - 1 - (j - ln)))) ∧ (BD t) := ⟨_, rfl, (fun _ => ⟨rfl, rfl, rfl⟩), (by first | omega | assumption | (intros; first | rfl | omega | assumption | (and_intros <;> first | rfl | omega | assumption))), (by first | omega | assumption | (intros; first | rfl | omega | assumption | (and_intros <;> first | rfl | omega | assumption))), htb⟩
    exact z_iret C hr hlocks hW (ln, t) rfl hP9 dX11_write_13
