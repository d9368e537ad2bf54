/-! the model's row: its marks, what is like at its end -/
theorem al_back {g : Int → Int} {s : Int} (hs : 1 ≤ s) : ∀ (m : Nat) (x : Int), 0 ≤ x → (∀ j, 0 ≤ j → j < x → 0 ≤ (m : Int) - 1 - j - s ∧ g ((m : Int) - 1 - j) = g ((m : Int) - 1 - j - s)) → ¬ (0 ≤ (m : Int) - 1 - x - s ∧ g ((m : Int) - 1 - x) = g ((m : Int) - 1 - x - s)) → al g s m = x := by
  intro m
  induction m with
  | zero =>
    intro x x0 h1 h2
    rw [al_0 (by omega)]
    rcases Int.lt_or_le 0 x with q | q
    · have := (h1 0 (by omega) q).1
      omega
    · omega
  | succ m ih =>
    intro x x0 h1 h2
    rw [show ((m + 1 : Nat) : Int) = (m : Int) + 1 by omega] at h1 h2 ⊢
    rw [al_s (by omega)]
    rcases Int.lt_or_le 0 x with q | q
    · have a := h1 0 (by omega) q
      rw [show (m : Int) + 1 - 1 - 0 = m by omega] at a
      rw [if_pos ⟨by omega, a.2⟩, ih (x - 1) (by omega) (fun j j0 j1 => by
        have b := h1 (j + 1) (by omega) (by omega)
        rw [show (m : Int) + 1 - 1 - (j + 1) = m - 1 - j by omega] at b
        exact b) (by rw [show (m : Int) + 1 - 1 - x = m - 1 - (x - 1) by omega] at h2; exact h2)]
      omega
    · have hx : x = 0 := by omega
      subst hx
      rw [show (m : Int) + 1 - 1 - 0 = m by omega] at h2
      rw [if_neg (fun z => h2 ⟨by omega, z.2⟩)]
theorem al_back' {g : Int → Int} {s k x : Int} (hs : 1 ≤ s) (hk : 0 ≤ k) (x0 : 0 ≤ x) (h1 : ∀ j, 0 ≤ j → j < x → 0 ≤ k - 1 - j - s ∧ g (k - 1 - j) = g (k - 1 - j - s)) (h2 : ¬ (0 ≤ k - 1 - x - s ∧ g (k - 1 - x) = g (k - 1 - x - s))) : al g s k = x := by
  have := al_back (g := g) hs k.toNat x x0
  rw [Int.toNat_of_nonneg hk] at this
  exact this h1 h2
theorem ag_stab2 {g : Int → Int} {k m m' : Int} (h : 0 ≤ m) (hm : m ≤ m') (hs : ∀ s, m < s → s ≤ m' → al g s k / s + 1 ≤ ag g k m) : ag g k m' = ag g k m := by
  have key := sm_ind (P := fun i => m + i ≤ m' → ag g k (m + i) = ag g k m) (m' - m) (fun _ => by rw [Int.add_zero]) (fun i i0 i1 ih hi => by
    rw [show m + (i + 1) = (m + i) + 1 by omega, ag_s (by omega), ih (by omega)]
    have b := hs (m + i + 1) (by omega) (by omega)
    omega) (by omega)
  have := key (by omega)
  rwa [show m + (m' - m) = m' by omega] at this
theorem ag_end {g : Int → Int} {k sz mo : Int} (hk : 0 ≤ k) (h1 : 1 ≤ sz) (h2 : sz ≤ 1000) (hmo : mo = ag g k (sz - 1)) (hc : k < (mo + 1) * sz) : mo = ag g k 999 := by
  have h3 := ag_1 (g := g) (k := k) (m := sz - 1) (by omega)
  rw [ag_stab2 (g := g) (k := k) (m := sz - 1) (m' := 999) (by omega) (by omega) (fun s s0 s1 => by
    rw [← hmo]
    have a := al_b (g := g) (s := s) (m := k) (by omega) hk
    have b : (mo + 1) * sz ≤ (mo + 1) * s := Int.mul_le_mul_of_nonneg_left (by omega) (by omega)
    have c : (mo + 1) * s = mo * s + s := by rw [Int.add_mul, Int.one_mul]
    have d : 0 < mo * s := Int.mul_pos (by omega) (by omega)
    have e : al g s k / s < mo := Int.ediv_lt_of_lt_mul (by omega) (by omega)
    omega)]
  exact hmo
/-- the model's marks behind m numbers of a row of sort s -/
def SeenQ (s : Int) (g : Int → Int) (m : Int) (f : Int → Int) : Prop := (s = 2 → ∀ v, 0 ≤ v → v ≤ 60000 → f v = lo g v (m - 1)) ∧ (s = 4 → ∀ v, 0 ≤ v → v ≤ 60000 → f v = pc g v m) ∧ (s = 5 → ∀ v, 0 ≤ v → v ≤ 60000 → f v = oc g v m)
theorem SeenQ_0 {s : Int} {g f : Int → Int} (h : ∀ v, 0 ≤ v → v ≤ 60000 → f v = 0) : SeenQ s g 0 f := ⟨fun _ v v0 v1 => by rw [h v v0 v1, lo_0 (by omega)], fun _ v v0 v1 => by rw [h v v0 v1, pc_0 (by omega)], fun _ v v0 v1 => by rw [h v v0 v1, oc_0 (by omega)]⟩
theorem SeenQ_congr {s m : Int} {g g' f : Int → Int} (hh : ∀ j, 0 ≤ j → j < m → g j = g' j) (h : SeenQ s g m f) : SeenQ s g' m f := ⟨fun q v v0 v1 => by rw [← lo_congr (g := g) (fun j j0 j1 => hh j j0 (by omega))]; exact h.1 q v v0 v1, fun q v v0 v1 => by rw [← pc_congr (g := g) hh]; exact h.2.1 q v v0 v1, fun q v v0 v1 => by rw [← oc_congr (g := g) hh]; exact h.2.2 q v v0 v1⟩
theorem VAL_up {g : Int → Int} {k v : Int} (h : VAL g k) (hv : 0 ≤ v ∧ v ≤ 60000) : VAL (up g k v) (k + 1) := fun j j0 j1 => if q : j = k then (by rw [q, up_s]; exact hv) else (by rw [up_n _ _ q]; exact h j j0 (by omega))
set_option maxHeartbeats 4000000 in
set_option maxRecDepth 100000 in
/-- sum -/
theorem c_X11_sum (l : Launch) (G : GG) (x : Nat) (ln : Int) (a1 : Nat) (pl : Int) (a3 : Nat) (a4 : Nat) (ri : Int) (ld : Int) (mn : Int) (a8 : Nat) (a9 : Nat) (nn : Int) (a11 : Nat) (fn : Int) (a13 : Nat) (lm : Int) (a15 : Nat) (a16 : Nat) (a17 : Nat) (a18 : Nat) (a19 : Nat) (a20 : Nat) (g : Int → Int) (a : Int) (b : Int) (hmn : 0 ≤ mn ∧ mn ≤ 2000) (hV : VAL g mn) (hg : BD g) (ha : -2147483648 ≤ a ∧ a ≤ 2147483647) (hb : -2147483648 ≤ b ∧ b ≤ 2147483647) : MRc l yX11_sum wsX11_sum 1 G [.ref x, .int (iI a), .int (iI b)] [(x, .inr (9, [.int (iI ln), .ref a1, .int (iI pl), .ref a3, .ref a4, .int (iI ri), .int (iI ld), .int (iI mn), .ref a8, .ref a9, .int (iI nn), .ref a11, .int (iI fn), .ref a13, .int (iI lm), .ref a15, .ref a16, .ref a17, .ref a18, .ref a19, .ref a20])), (a8, .inl (G.2.1 0, 2000, .inl (iA g)))] (fun r => ∃ z : Int, r = some (.int (iI z)) ∧ ((0 ≤ a ∧ a < mn) ∧ (0 ≤ b ∧ b < mn) ∧ g a + g b ≤ 60000 → z = g a + g b) ∧ (¬ ((0 ≤ a ∧ a < mn) ∧ (0 ≤ b ∧ b < mn) ∧ g a + g b ≤ 60000) → z = -1)) := by
  refine MRc.start (own := RX11) (by decide) rfl rfl (Nat.le_of_ble_eq_true rfl) ?_
  intro p9 e9 s9 m9 args below meth c9 A Q C hK hW hA hr hlocks hQ ls hl
  have hl : lv_has ls 3 [(0, .ref x), (1, .int (iI a)), (2, .int (iI b))] := hl
  have hin11 : ∀ w ∈ wsX110, w ∈ wsX11_sum := by decide +kernel
  refine lv_iload_n C.1 C.2.1 dX11_sum_0 rfl (lv_at hl 1 rfl) ?_
  refine z_i2l C dX11_sum_1 (by omega) ?_
  refine lv_lconst (v := lI 0) C.1 C.2.1 dX11_sum_2 rfl ?_
  refine lv_aload_n C.1 C.2.1 dX11_sum_3 rfl (lv_at hl 0 rfl) ?_
  refine z_get C hK hW hin11 (v := .int (iI mn)) 0 rfl rfl 7 (by decide) (C.2.2.2.2 (.fieldLink RX11 101 "TellingRowsModel" "many" "I") (List.mem_of_getElem? (i := 1) rfl)) (fun _ h9 => h9) rfl dX11_sum_4 ?_
  refine lv_iconst (v := iI 1) C.1 C.2.1 dX11_sum_7 rfl ?_
  refine z_isub C dX11_sum_8 ?_
  refine z_i2l C dX11_sum_9 (by omega) ?_
  refine z_callR (va_runS (As := [.long (lI a), .long (lI 0), .long (lI (mn - 1))]) (rest := []) C (c_X11_in l G a 0 (mn - 1) (by first | omega | assumption | (intros; first | rfl | omega | assumption | (and_intros <;> first | rfl | omega | assumption))) (by first | omega | assumption | (intros; first | rfl | omega | assumption | (and_intros <;> first | rfl | omega | assumption))) (by first | omega | assumption | (intros; first | rfl | omega | assumption | (and_intros <;> first | rfl | omega | assumption))) s9.heap.size) (va_cwS 3 C.2.2.2.2 gX11_sum_X11_in rfl rfl rfl (by decide +kernel) ⟨Nat.le_of_ble_eq_true rfl, Nat.le_of_ble_eq_true rfl⟩) (z_preS hK hW hA [] rfl (by decide)) rfl rfl hl.1 rfl (lv_room (Nat.le_of_ble_eq_true rfl)) dX11_sum_10 ⟨Nat.zero_le _, Nat.zero_le _⟩) (fun r hp => ?_)
  have hp : ∃ z : Int, r = some (.int (iI z)) ∧ ((z = 1 ∧ ((0 : Int) ≤ a ∧ a ≤ (mn - 1))) ∨ (z = 0 ∧ ¬ ((0 : Int) ≤ a ∧ a ≤ (mn - 1)))) := hp
  obtain ⟨z_10, rfl, hz_10_0⟩ := hp
  refine z_if_eq (tgt := 50) C dX11_sum_13 (by decide) (by omega) (fun c_13 => ?_) (fun c_13 => ?_)
  ·
    refine lv_iconst (v := iI (-1)) C.1 C.2.1 dX11_sum_50 rfl ?_
    rw [hQ]
    have hP9 : ∃ z : Int, (some (Value.int (iI (-1)))) = some (.int (iI z)) ∧ ((0 ≤ a ∧ a < mn) ∧ (0 ≤ b ∧ b < mn) ∧ g a + g b ≤ 60000 → z = g a + g b) ∧ (¬ ((0 ≤ a ∧ a < mn) ∧ (0 ≤ b ∧ b < mn) ∧ g a + g b ≤ 60000) → z = -1) := ⟨_, rfl, (fun q9 => by first | rfl | omega), (fun q9 => by first | rfl | (exfalso; apply q9; omega) | omega)⟩
    exact z_iretR C hr hlocks hP9 dX11_sum_51
  ·
    refine lv_iload_n C.1 C.2.1 dX11_sum_16 rfl (lv_at hl 2 rfl) ?_
    refine z_i2l C dX11_sum_17 (by omega) ?_
    refine lv_lconst (v := lI 0) C.1 C.2.1 dX11_sum_18 rfl ?_
    refine lv_aload_n C.1 C.2.1 dX11_sum_19 rfl (lv_at hl 0 rfl) ?_
    refine z_get C hK hW hin11 (v := .int (iI mn)) 0 rfl rfl 7 (by decide) (C.2.2.2.2 (.fieldLink RX11 101 "TellingRowsModel" "many" "I") (List.mem_of_getElem? (i := 1) rfl)) (fun _ h9 => h9) rfl dX11_sum_20 ?_
    refine lv_iconst (v := iI 1) C.1 C.2.1 dX11_sum_23 rfl ?_
    refine z_isub C dX11_sum_24 ?_
    refine z_i2l C dX11_sum_25 (by omega) ?_
    refine z_callR (va_runS (As := [.long (lI b), .long (lI 0), .long (lI (mn - 1))]) (rest := []) C (c_X11_in l G b 0 (mn - 1) (by first | omega | assumption | (intros; first | rfl | omega | assumption | (and_intros <;> first | rfl | omega | assumption))) (by first | omega | assumption | (intros; first | rfl | omega | assumption | (and_intros <;> first | rfl | omega | assumption))) (by first | omega | assumption | (intros; first | rfl | omega | assumption | (and_intros <;> first | rfl | omega | assumption))) s9.heap.size) (va_cwS 3 C.2.2.2.2 gX11_sum_X11_in rfl rfl rfl (by decide +kernel) ⟨Nat.le_of_ble_eq_true rfl, Nat.le_of_ble_eq_true rfl⟩) (z_preS hK hW hA [] rfl (by decide)) rfl rfl hl.1 rfl (lv_room (Nat.le_of_ble_eq_true rfl)) dX11_sum_26 ⟨Nat.zero_le _, Nat.zero_le _⟩) (fun r hp => ?_)
    have hp : ∃ z : Int, r = some (.int (iI z)) ∧ ((z = 1 ∧ ((0 : Int) ≤ b ∧ b ≤ (mn - 1))) ∨ (z = 0 ∧ ¬ ((0 : Int) ≤ b ∧ b ≤ (mn - 1)))) := hp
    obtain ⟨z_26, rfl, hz_26_0⟩ := hp
    refine z_if_eq (tgt := 50) C dX11_sum_29 (by decide) (by omega) (fun c_29 => ?_) (fun c_29 => ?_)
    ·
      refine lv_iconst (v := iI (-1)) C.1 C.2.1 dX11_sum_50 rfl ?_
      rw [hQ]
      have hP9 : ∃ z : Int, (some (Value.int (iI (-1)))) = some (.int (iI z)) ∧ ((0 ≤ a ∧ a < mn) ∧ (0 ≤ b ∧ b < mn) ∧ g a + g b ≤ 60000 → z = g a + g b) ∧ (¬ ((0 ≤ a ∧ a < mn) ∧ (0 ≤ b ∧ b < mn) ∧ g a + g b ≤ 60000) → z = -1) := ⟨_, rfl, (fun q9 => by first | rfl | omega), (fun q9 => by first | rfl | (exfalso; apply q9; omega) | omega)⟩
      exact z_iretR C hr hlocks hP9 dX11_sum_51
    ·
      have hva := hV a (by omega) (by omega)
      have hvb := hV b (by omega) (by omega)
      refine lv_aload_n C.1 C.2.1 dX11_sum_32 rfl (lv_at hl 0 rfl) ?_
      refine z_get C hK hW hin11 (v := .ref a8) 0 rfl rfl 8 (by decide) (C.2.2.2.2 (.fieldLink RX11 24 "TellingRowsModel" "row" "[I") (List.mem_of_getElem? (i := 2) rfl)) (fun _ h9 => h9) rfl dX11_sum_33 ?_
      refine lv_iload_n C.1 C.2.1 dX11_sum_36 rfl (lv_at hl 1 rfl) ?_
      refine z_iald C hK hW 1 rfl (by omega) (by omega) dX11_sum_37 ?_
      have hb_37 := hg a
      refine lv_aload_n C.1 C.2.1 dX11_sum_38 rfl (lv_at hl 0 rfl) ?_
      refine z_get C hK hW hin11 (v := .ref a8) 0 rfl rfl 8 (by decide) (C.2.2.2.2 (.fieldLink RX11 24 "TellingRowsModel" "row" "[I") (List.mem_of_getElem? (i := 2) rfl)) (fun _ h9 => h9) rfl dX11_sum_39 ?_
      refine lv_iload_n C.1 C.2.1 dX11_sum_42 rfl (lv_at hl 2 rfl) ?_
      refine z_iald C hK hW 1 rfl (by omega) (by omega) dX11_sum_43 ?_
      have hb_43 := hg b
      refine z_iadd C dX11_sum_44 ?_
      refine z_ldc (z := 60000) C (C.2.2.2.2 (.constant RX11 104 (60000)) (List.mem_of_getElem? (i := 3) rfl)) (by decide +kernel) dX11_sum_45 ?_
      refine z_icmp_le (tgt := 52) C dX11_sum_47 (by decide) (by omega) (fun c_47 => ?_) (fun c_47 => ?_)
      ·
        refine lv_aload_n C.1 C.2.1 dX11_sum_52 rfl (lv_at hl 0 rfl) ?_
        refine z_get C hK hW hin11 (v := .ref a8) 0 rfl rfl 8 (by decide) (C.2.2.2.2 (.fieldLink RX11 24 "TellingRowsModel" "row" "[I") (List.mem_of_getElem? (i := 2) rfl)) (fun _ h9 => h9) rfl dX11_sum_53 ?_
        refine lv_iload_n C.1 C.2.1 dX11_sum_56 rfl (lv_at hl 1 rfl) ?_
        refine z_iald C hK hW 1 rfl (by omega) (by omega) dX11_sum_57 ?_
        have hb_57 := hg a
        refine lv_aload_n C.1 C.2.1 dX11_sum_58 rfl (lv_at hl 0 rfl) ?_
        refine z_get C hK hW hin11 (v := .ref a8) 0 rfl rfl 8 (by decide) (C.2.2.2.2 (.fieldLink RX11 24 "TellingRowsModel" "row" "[I") (List.mem_of_getElem? (i := 2) rfl)) (fun _ h9 => h9) rfl dX11_sum_59 ?_
        refine lv_iload_n C.1 C.2.1 dX11_sum_62 rfl (lv_at hl 2 rfl) ?_
        refine z_iald C hK hW 1 rfl (by omega) (by omega) dX11_sum_63 ?_
        have hb_63 := hg b
        refine z_iadd C dX11_sum_64 ?_
        rw [hQ]
        have hP9 : ∃ z : Int, (some (Value.int (iI ((g a) + (g b))))) = some (.int (iI z)) ∧ ((0 ≤ a ∧ a < mn) ∧ (0 ≤ b ∧ b < mn) ∧ g a + g b ≤ 60000 → z = g a + g b) ∧ (¬ ((0 ≤ a ∧ a < mn) ∧ (0 ≤ b ∧ b < mn) ∧ g a + g b ≤ 60000) → z = -1) := ⟨_, rfl, (fun q9 => by first | rfl | omega), (fun q9 => by first | rfl | (exfalso; apply q9; omega) | omega)⟩
        exact z_iretR C hr hlocks hP9 dX11_sum_65
      ·
        refine lv_iconst (v := iI (-1)) C.1 C.2.1 dX11_sum_50 rfl ?_
        rw [hQ]
        have hP9 : ∃ z : Int, (some (Value.int (iI (-1)))) = some (.int (iI z)) ∧ ((0 ≤ a ∧ a < mn) ∧ (0 ≤ b ∧ b < mn) ∧ g a + g b ≤ 60000 → z = g a + g b) ∧ (¬ ((0 ≤ a ∧ a < mn) ∧ (0 ≤ b ∧ b < mn) ∧ g a + g b ≤ 60000) → z = -1) := ⟨_, rfl, (fun q9 => by first | rfl | omega), (fun q9 => by first | rfl | (exfalso; apply q9; omega) | omega)⟩
        exact z_iretR C hr hlocks hP9 dX11_sum_51
set_option maxHeartbeats 4000000 in
set_option maxRecDepth 100000 in
/-- again -/
theorem c_X11_again (l : Launch) (G : GG) (x : Nat) (ln : Int) (a1 : Nat) (pl : Int) (a3 : Nat) (a4 : Nat) (ri : Int) (ld : Int) (mn : Int) (a8 : Nat) (a9 : Nat) (nn : Int) (a11 : Nat) (fn : Int) (a13 : Nat) (lm : Int) (a15 : Nat) (a16 : Nat) (a17 : Nat) (a18 : Nat) (a19 : Nat) (a20 : Nat) (g : Int → Int) (k : Int) (hk : 1 ≤ k ∧ k ≤ 1999) (hg : BD g) : MRc l yX11_again wsX11_again 0 G [.ref x, .int (iI k)] [(x, .inr (9, [.int (iI ln), .ref a1, .int (iI pl), .ref a3, .ref a4, .int (iI ri), .int (iI ld), .int (iI mn), .ref a8, .ref a9, .int (iI nn), .ref a11, .int (iI fn), .ref a13, .int (iI lm), .ref a15, .ref a16, .ref a17, .ref a18, .ref a19, .ref a20])), (a8, .inl (G.2.1 0, 2000, .inl (iA g)))] (fun r => ∃ z : Int, r = some (.int (iI z)) ∧ (z = ag g k 999) ∧ (1 ≤ z ∧ z ≤ 2000)) := by
  refine MRc.start (own := RX11) (by decide) rfl rfl (Nat.le_of_ble_eq_true rfl) ?_
  intro p9 e9 s9 m9 args below meth c9 A Q C hK hW hA hr hlocks hQ ls hl
  have hl : lv_has ls 5 [(0, .ref x), (1, .int (iI k))] := hl
  have hin11 : ∀ w ∈ wsX110, w ∈ wsX11_again := by decide +kernel
  refine lv_iconst (v := iI 1) C.1 C.2.1 dX11_again_0 rfl ?_
  refine lv_istore_n (lv' := [(2, .int (iI 1)), (0, .ref x), (1, .int (iI k))]) C.1 C.2.1 dX11_again_1 rfl hl (by decide) rfl (fun ls hl => ?_)
  refine lv_iconst (v := iI 1) C.1 C.2.1 dX11_again_2 rfl ?_
  refine lv_istore_n (lv' := [(3, .int (iI 1)), (2, .int (iI 1)), (0, .ref x), (1, .int (iI k))]) C.1 C.2.1 dX11_again_3 rfl hl (by decide) rfl (fun ls hl => ?_)
  have cut_4 : ∀ (n9 : Nat) (mo : Int) (sz : Int), (1 ≤ sz ∧ sz ≤ 1000) → (mo = ag g k (sz - 1)) → (1001 - sz < (n9 : Int)) → ∀ (ls : Array Slot), lv_has ls 5 [(3, .int (iI sz)), (2, .int (iI mo)), (0, .ref x), (1, .int (iI k))] → W p9 l e9 (rmL 0) s9 m9 args below meth c9 s9.heap [] 0 0 Q (F0 m9 4 ls []) := by
    intro n9
    induction n9 with
    | zero => intro mo sz hsz hmo hmu; intros; exfalso; omega
    | succ n9 ih_4 =>
      intro mo sz hsz hmo hmu ls hl
      have hg1 := ag_1 (g := g) (k := k) (m := sz - 1) (by omega)
      have hg2 := ag_le (g := g) (k := k) (m := sz - 1) (by omega) (by omega)
      have hmb : 1 ≤ mo ∧ mo ≤ 2000 := by omega
      have hp1 : 2 * sz ≤ (mo + 1) * sz := Int.mul_le_mul_of_nonneg_right (by omega) (by omega)
      have hp2 : (mo + 1) * sz ≤ 2001 * sz := Int.mul_le_mul_of_nonneg_right (by omega) (by omega)
      refine lv_iload_n C.1 C.2.1 dX11_again_4 rfl (lv_at hl 1 rfl) ?_
      refine lv_iconst (v := iI 1) C.1 C.2.1 dX11_again_5 rfl ?_
      refine z_iadd C dX11_again_6 ?_
      refine lv_iload_n C.1 C.2.1 dX11_again_7 rfl (lv_at hl 0 rfl) ?_
      refine z_imul C dX11_again_8 ?_
      refine lv_iload_n C.1 C.2.1 dX11_again_9 rfl (lv_at hl 3 rfl) ?_
      refine z_icmp_gt (tgt := 87) C dX11_again_10 (by decide) (by omega) (fun c_10 => ?_) (fun c_10 => ?_)
      ·
        refine lv_iload_n C.1 C.2.1 dX11_again_87 rfl (lv_at hl 1 rfl) ?_
        rw [hQ]
        have hP9 : ∃ z : Int, (some (Value.int (iI mo))) = some (.int (iI z)) ∧ (z = ag g k 999) ∧ (1 ≤ z ∧ z ≤ 2000) := ⟨_, rfl, (ag_end (by omega) hsz.1 hsz.2 hmo (by omega)), (by first | omega | assumption | (intros; first | rfl | omega | assumption | (and_intros <;> first | rfl | omega | assumption)))⟩
        exact z_iretR C hr hlocks hP9 dX11_again_88
      ·
        have cut_60 : ∀ (lk : Int), (lk = al g sz k) → (0 ≤ lk ∧ lk ≤ 2000) → ∀ (ls : Array Slot), lv_has ls 5 [(3, .int (iI sz)), (2, .int (iI mo)), (0, .ref x), (1, .int (iI k)), (4, .int (iI lk))] → W p9 l e9 (rmL 0) s9 m9 args below meth c9 s9.heap [] 0 0 Q (F0 m9 60 ls []) := by
          intro lk hal hlk ls hl
          have hdv1 : 0 ≤ lk / sz := Int.ediv_nonneg (by omega) (by omega)
          have hdv2 : lk / sz ≤ lk := Int.ediv_le_self _ (by omega)
          refine lv_iload C.1 C.2.1 dX11_again_60 (lv_at hl 4 rfl) ?_
          refine lv_iload_n C.1 C.2.1 dX11_again_62 rfl (lv_at hl 0 rfl) ?_
          refine z_idiv C dX11_again_63 (by omega) ?_
          refine lv_iconst (v := iI 1) C.1 C.2.1 dX11_again_64 rfl ?_
          refine z_iadd C dX11_again_65 ?_
          refine lv_iload_n C.1 C.2.1 dX11_again_66 rfl (lv_at hl 1 rfl) ?_
          refine z_icmp_le (tgt := 79) C dX11_again_67 (by decide) (by omega) (fun c_67 => ?_) (fun c_67 => ?_)
          ·
            refine lv_iload_n C.1 C.2.1 dX11_again_79 rfl (lv_at hl 1 rfl) ?_
            refine lv_istore_n (lv' := [(2, .int (iI mo)), (3, .int (iI sz)), (0, .ref x), (1, .int (iI k)), (4, .int (iI lk))]) C.1 C.2.1 dX11_again_80 rfl hl (by decide) rfl (fun ls hl => ?_)
            refine lv_iinc (v := iI (sz + 1)) (lv' := [(3, .int (iI (sz + 1))), (2, .int (iI mo)), (0, .ref x), (1, .int (iI k)), (4, .int (iI lk))]) C.1 C.2.1 dX11_again_81 hl (k := 1) rfl (iI_add _ _) (by decide) rfl (fun ls hl => ?_)
            refine lv_goto (tgt := 4) C.1 C.2.1 dX11_again_84 (by decide) ?_
            exact ih_4 mo (sz + 1) (by first | omega | assumption | (intros; first | rfl | omega | assumption | (and_intros <;> first | rfl | omega | assumption))) (by rw [show sz + 1 - 1 = (sz - 1) + 1 by omega, ag_s (by omega), show sz - 1 + 1 = sz by omega, ← hmo, ← hal]; omega) (by omega) _ (lv_sub hl [0, 1, 2, 3] rfl)
          ·
            refine lv_iload C.1 C.2.1 dX11_again_70 (lv_at hl 4 rfl) ?_
            refine lv_iload_n C.1 C.2.1 dX11_again_72 rfl (lv_at hl 0 rfl) ?_
            refine z_idiv C dX11_again_73 (by omega) ?_
            refine lv_iconst (v := iI 1) C.1 C.2.1 dX11_again_74 rfl ?_
            refine z_iadd C dX11_again_75 ?_
            refine lv_goto (tgt := 80) C.1 C.2.1 dX11_again_76 (by decide) ?_
            refine lv_istore_n (lv' := [(2, .int (iI ((lk / sz) + 1))), (3, .int (iI sz)), (0, .ref x), (1, .int (iI k)), (4, .int (iI lk))]) C.1 C.2.1 dX11_again_80 rfl hl (by decide) rfl (fun ls hl => ?_)
            refine lv_iinc (v := iI (sz + 1)) (lv' := [(3, .int (iI (sz + 1))), (2, .int (iI ((lk / sz) + 1))), (0, .ref x), (1, .int (iI k)), (4, .int (iI lk))]) C.1 C.2.1 dX11_again_81 hl (k := 1) rfl (iI_add _ _) (by decide) rfl (fun ls hl => ?_)
            refine lv_goto (tgt := 4) C.1 C.2.1 dX11_again_84 (by decide) ?_
            exact ih_4 ((lk / sz) + 1) (sz + 1) (by first | omega | assumption | (intros; first | rfl | omega | assumption | (and_intros <;> first | rfl | omega | assumption))) (by rw [show sz + 1 - 1 = (sz - 1) + 1 by omega, ag_s (by omega), show sz - 1 + 1 = sz by omega, ← hmo, ← hal]; omega) (by omega) _ (lv_sub hl [0, 1, 2, 3] rfl)
        refine lv_iconst (v := iI 0) C.1 C.2.1 dX11_again_13 rfl ?_
        refine lv_istore (lv' := [(4, .int (iI 0)), (3, .int (iI sz)), (2, .int (iI mo)), (0, .ref x), (1, .int (iI k))]) C.1 C.2.1 dX11_again_14 hl (by decide) rfl (fun ls hl => ?_)
        have cut_16 : ∀ (n9 : Nat) (y : Int), (0 ≤ y ∧ y ≤ k) → (∀ j, 0 ≤ j → j < y → 0 ≤ k - 1 - j - sz ∧ g (k - 1 - j) = g (k - 1 - j - sz)) → (k - y < (n9 : Int)) → ∀ (ls : Array Slot), lv_has ls 5 [(4, .int (iI y)), (3, .int (iI sz)), (2, .int (iI mo)), (0, .ref x), (1, .int (iI k))] → W p9 l e9 (rmL 0) s9 m9 args below meth c9 s9.heap [] 0 0 Q (F0 m9 16 ls []) := by
          intro n9
          induction n9 with
          | zero => intro y hy he hmu; intros; exfalso; omega
          | succ n9 ih_16 =>
            intro y hy he hmu ls hl
            refine lv_iload_n C.1 C.2.1 dX11_again_16 rfl (lv_at hl 4 rfl) ?_
            refine lv_iconst (v := iI 1) C.1 C.2.1 dX11_again_17 rfl ?_
            refine z_isub C dX11_again_18 ?_
            refine lv_iload C.1 C.2.1 dX11_again_19 (lv_at hl 0 rfl) ?_
            refine z_isub C dX11_again_21 ?_
            refine lv_iload_n C.1 C.2.1 dX11_again_22 rfl (lv_at hl 1 rfl) ?_
            refine z_isub C dX11_again_23 ?_
            refine z_if_lt (tgt := 60) C dX11_again_24 (by decide) (by omega) (fun c_24 => ?_) (fun c_24 => ?_)
            ·
              exact cut_60 y ((al_back' (by omega) (by omega) (by omega) he (by first | (intro q9; omega) | exact fun q9 => c_51 q9.2)).symm) (by first | omega | assumption | (intros; first | rfl | omega | assumption | (and_intros <;> first | rfl | omega | assumption))) _ (lv_sub hl [1, 2, 3, 4, 0] rfl)
            ·
              refine lv_aload_n C.1 C.2.1 dX11_again_27 rfl (lv_at hl 3 rfl) ?_
              refine z_get C hK hW hin11 (v := .ref a8) 0 rfl rfl 8 (by decide) (C.2.2.2.2 (.fieldLink RX11 24 "TellingRowsModel" "row" "[I") (List.mem_of_getElem? (i := 1) rfl)) (fun _ h9 => h9) rfl dX11_again_28 ?_
              refine lv_iload_n C.1 C.2.1 dX11_again_31 rfl (lv_at hl 4 rfl) ?_
              refine lv_iconst (v := iI 1) C.1 C.2.1 dX11_again_32 rfl ?_
              refine z_isub C dX11_again_33 ?_
              refine lv_iload C.1 C.2.1 dX11_again_34 (lv_at hl 0 rfl) ?_
              refine z_isub C dX11_again_36 ?_
              refine z_iald C hK hW 1 rfl (by omega) (by omega) dX11_again_37 ?_
              have hb_37 := hg ((k - 1) - y)
              refine lv_aload_n C.1 C.2.1 dX11_again_38 rfl (lv_at hl 3 rfl) ?_
              refine z_get C hK hW hin11 (v := .ref a8) 0 rfl rfl 8 (by decide) (C.2.2.2.2 (.fieldLink RX11 24 "TellingRowsModel" "row" "[I") (List.mem_of_getElem? (i := 1) rfl)) (fun _ h9 => h9) rfl dX11_again_39 ?_
              refine lv_iload_n C.1 C.2.1 dX11_again_42 rfl (lv_at hl 4 rfl) ?_
              refine lv_iconst (v := iI 1) C.1 C.2.1 dX11_again_43 rfl ?_
              refine z_isub C dX11_again_44 ?_
              refine lv_iload C.1 C.2.1 dX11_again_45 (lv_at hl 0 rfl) ?_
              refine z_isub C dX11_again_47 ?_
              refine lv_iload_n C.1 C.2.1 dX11_again_48 rfl (lv_at hl 1 rfl) ?_
              refine z_isub C dX11_again_49 ?_
              refine z_iald C hK hW 1 rfl (by omega) (by omega) dX11_again_50 ?_
              have hb_50 := hg (((k - 1) - y) - sz)
              refine z_icmp_ne (tgt := 60) C dX11_again_51 (by decide) (by omega) (fun c_51 => ?_) (fun c_51 => ?_)
              ·
                exact cut_60 y ((al_back' (by omega) (by omega) (by omega) he (by first | (intro q9; omega) | exact fun q9 => c_51 q9.2)).symm) (by first | omega | assumption | (intros; first | rfl | omega | assumption | (and_intros <;> first | rfl | omega | assumption))) _ (lv_sub hl [1, 2, 3, 4, 0] rfl)
              ·
                refine lv_iinc (v := iI (y + 1)) (lv' := [(4, .int (iI (y + 1))), (3, .int (iI sz)), (2, .int (iI mo)), (0, .ref x), (1, .int (iI k))]) C.1 C.2.1 dX11_again_54 hl (k := 0) rfl (iI_add _ _) (by decide) rfl (fun ls hl => ?_)
                refine lv_goto (tgt := 16) C.1 C.2.1 dX11_again_57 (by decide) ?_
                exact ih_16 (y + 1) (by first | omega | assumption | (intros; first | rfl | omega | assumption | (and_intros <;> first | rfl | omega | assumption))) (fun j j0 j1 => if q : j = y then (by rw [q]; exact ⟨by omega, by omega⟩) else he j j0 (by omega)) (by omega) _ (lv_sub hl [0, 1, 2, 3, 4] rfl)
        exact cut_16 (((k - 0) + 1 : Int)).toNat 0 (by first | omega | assumption | (intros; first | rfl | omega | assumption | (and_intros <;> first | rfl | omega | assumption))) (fun j j0 j1 => by omega) (by omega) _ (lv_sub hl [0, 1, 2, 3, 4] rfl)
  exact cut_4 (((1001 - 1) + 1 : Int)).toNat 1 1 (by first | omega | assumption | (intros; first | rfl | omega | assumption | (and_intros <;> first | rfl | omega | assumption))) rfl (by omega) _ (lv_sub hl [0, 1, 2, 3] rfl)
set_option maxHeartbeats 4000000 in
set_option maxRecDepth 100000 in
/-- free -/
theorem c_X11_free (l : Launch) (G : GG) (x : Nat) (ln : Int) (a1 : Nat) (pl : Int) (a3 : Nat) (a4 : Nat) (ri : Int) (ld : Int) (mn : Int) (a8 : Nat) (a9 : Nat) (nn : Int) (a11 : Nat) (fn : Int) (a13 : Nat) (lm : Int) (a15 : Nat) (a16 : Nat) (a17 : Nat) (a18 : Nat) (a19 : Nat) (a20 : Nat) (g : Int → Int) (h : Int → Int) (k : Int) (hk : 0 ≤ k ∧ k ≤ 1999) (hV : VAL g k) (hg : BD g) (hh : BD h) : MQc l yX11_free wsX11_free 1 G [.ref x, .int (iI k)] [(x, .inr (9, [.int (iI ln), .ref a1, .int (iI pl), .ref a3, .ref a4, .int (iI ri), .int (iI ld), .int (iI mn), .ref a8, .ref a9, .int (iI nn), .ref a11, .int (iI fn), .ref a13, .int (iI lm), .ref a15, .ref a16, .ref a17, .ref a18, .ref a19, .ref a20])), (a8, .inl (G.2.1 0, 2000, .inl (iA g))), (a16, .inl (G.2.1 0, 5000, .inl (iA h)))] (fun r (u : (Int → Int)) => ∃ z : Int, r = some (.int (iI z)) ∧ (Nx6 g k z) ∧ (BD u)) (fun u => [(x, .inr (9, [.int (iI ln), .ref a1, .int (iI pl), .ref a3, .ref a4, .int (iI ri), .int (iI ld), .int (iI mn), .ref a8, .ref a9, .int (iI nn), .ref a11, .int (iI fn), .ref a13, .int (iI lm), .ref a15, .ref a16, .ref a17, .ref a18, .ref a19, .ref a20])), (a8, .inl (G.2.1 0, 2000, .inl (iA g))), (a16, .inl (G.2.1 0, 5000, .inl (iA u)))]) := by
  refine MQc.start (own := RX11) (by decide) rfl rfl (Nat.le_of_ble_eq_true rfl) ?_
  intro p9 e9 s9 m9 args below meth c9 A Q C hK hW hA hr hlocks hQ ls hl
  have hl : lv_has ls 4 [(0, .ref x), (1, .int (iI k))] := hl
  have hin11 : ∀ w ∈ wsX110, w ∈ wsX11_free := by decide +kernel
  refine lv_iconst (v := iI 0) C.1 C.2.1 dX11_free_0 rfl ?_
  refine lv_istore_n (lv' := [(2, .int (iI 0)), (0, .ref x), (1, .int (iI k))]) C.1 C.2.1 dX11_free_1 rfl hl (by decide) rfl (fun ls hl => ?_)
  have cut_2 : ∀ (n9 : Nat) (q : Int) (h1 : Int → Int), (0 ≤ q ∧ q ≤ k + 1) → (BD h1) → (∀ j, 0 ≤ j → j < q → h1 j = 0) → (k + 1 - q < (n9 : Int)) → ∀ (H : Heap) (locs : List Loc) (ls : Array Slot), Wd G A s9.heap [(x, .inr (9, [.int (iI ln), .ref a1, .int (iI pl), .ref a3, .ref a4, .int (iI ri), .int (iI ld), .int (iI mn), .ref a8, .ref a9, .int (iI nn), .ref a11, .int (iI fn), .ref a13, .int (iI lm), .ref a15, .ref a16, .ref a17, .ref a18, .ref a19, .ref a20])), (a8, .inl (G.2.1 0, 2000, .inl (iA g))), (a16, .inl (G.2.1 0, 5000, .inl (iA h1)))] H locs → lv_has ls 4 [(2, .int (iI q)), (0, .ref x), (1, .int (iI k))] → W p9 l e9 (rmL 1) s9 m9 args below meth c9 H locs 0 0 Q (F0 m9 2 ls []) := by
    intro n9
    induction n9 with
    | zero => intro q h1 hq0 hh1 hz0 hmu; intros; exfalso; omega
    | succ n9 ih_2 =>
      intro q h1 hq0 hh1 hz0 hmu H locs ls hW hl
      refine lv_iload_n C.1 C.2.1 dX11_free_2 rfl (lv_at hl 0 rfl) ?_
      refine lv_iload_n C.1 C.2.1 dX11_free_3 rfl (lv_at hl 2 rfl) ?_
      refine z_icmp_gt (tgt := 20) C dX11_free_4 (by decide) (by omega) (fun c_4 => ?_) (fun c_4 => ?_)
      ·
        refine lv_iconst (v := iI 1) C.1 C.2.1 dX11_free_20 rfl ?_
        refine lv_istore_n (lv' := [(2, .int (iI 1)), (0, .ref x), (1, .int (iI k))]) C.1 C.2.1 dX11_free_21 rfl hl (by decide) rfl (fun ls hl => ?_)
        have cut_22 : ∀ (n9 : Nat) (d : Int) (h3 : Int → Int), (1 ≤ d ∧ 2 * d ≤ k + 2) → (BD h3) → (∀ v, 0 ≤ v → v ≤ k → (h3 v = 1 ↔ ∃ x, 1 ≤ x ∧ x < d ∧ 2 * g (k - x) - g (k - 2 * x) = v)) → (k + 2 - 2 * d < (n9 : Int)) → ∀ (H : Heap) (locs : List Loc) (ls : Array Slot), Wd G A s9.heap [(x, .inr (9, [.int (iI ln), .ref a1, .int (iI pl), .ref a3, .ref a4, .int (iI ri), .int (iI ld), .int (iI mn), .ref a8, .ref a9, .int (iI nn), .ref a11, .int (iI fn), .ref a13, .int (iI lm), .ref a15, .ref a16, .ref a17, .ref a18, .ref a19, .ref a20])), (a8, .inl (G.2.1 0, 2000, .inl (iA g))), (a16, .inl (G.2.1 0, 5000, .inl (iA h3)))] H locs → lv_has ls 4 [(2, .int (iI d)), (0, .ref x), (1, .int (iI k))] → W p9 l e9 (rmL 1) s9 m9 args below meth c9 H locs 0 0 Q (F0 m9 22 ls []) := by
          intro n9
          induction n9 with
          | zero => intro d h3 hd hh3 hm hmu; intros; exfalso; omega
          | succ n9 ih_22 =>
            intro d h3 hd hh3 hm hmu H locs ls hW hl
            refine lv_iconst (v := iI 2) C.1 C.2.1 dX11_free_22 rfl ?_
            refine lv_iload_n C.1 C.2.1 dX11_free_23 rfl (lv_at hl 0 rfl) ?_
            refine z_imul C dX11_free_24 ?_
            refine lv_iload_n C.1 C.2.1 dX11_free_25 rfl (lv_at hl 2 rfl) ?_
            refine z_icmp_gt (tgt := 75) C dX11_free_26 (by decide) (by omega) (fun c_26 => ?_) (fun c_26 => ?_)
            ·
              have hF : ∀ v, 0 ≤ v → v ≤ k → (h3 v = 1 ↔ ¬ FreeAt g k v) := fun v v0 v1 => by rw [hm v v0 v1]; exact ⟨fun ⟨x, x1, x2, x3⟩ q9 => q9 x x1 (by omega) x3, fun q9 => Classical.byContradiction (fun q8 => q9 (fun x x1 x2 x3 => q8 ⟨x, x1, by omega, x3⟩))⟩
              refine lv_iconst (v := iI 0) C.1 C.2.1 dX11_free_75 rfl ?_
              refine lv_istore_n (lv' := [(2, .int (iI 0)), (0, .ref x), (1, .int (iI k))]) C.1 C.2.1 dX11_free_76 rfl hl (by decide) rfl (fun ls hl => ?_)
              have cut_77 : ∀ (n9 : Nat) (w : Int), (0 ≤ w ∧ w ≤ k) → (∀ x, 0 ≤ x → x < w → h3 x = 1) → (k + 1 - w < (n9 : Int)) → ∀ (H : Heap) (locs : List Loc) (ls : Array Slot), Wd G A s9.heap [(x, .inr (9, [.int (iI ln), .ref a1, .int (iI pl), .ref a3, .ref a4, .int (iI ri), .int (iI ld), .int (iI mn), .ref a8, .ref a9, .int (iI nn), .ref a11, .int (iI fn), .ref a13, .int (iI lm), .ref a15, .ref a16, .ref a17, .ref a18, .ref a19, .ref a20])), (a8, .inl (G.2.1 0, 2000, .inl (iA g))), (a16, .inl (G.2.1 0, 5000, .inl (iA h3)))] H locs → lv_has ls 4 [(2, .int (iI w)), (0, .ref x), (1, .int (iI k))] → W p9 l e9 (rmL 1) s9 m9 args below meth c9 H locs 0 0 Q (F0 m9 77 ls []) := by
                intro n9
                induction n9 with
                | zero => intro w hw hno hmu; intros; exfalso; omega
                | succ n9 ih_77 =>
                  intro w hw hno hmu H locs ls hW hl
                  refine lv_aload_n C.1 C.2.1 dX11_free_77 rfl (lv_at hl 1 rfl) ?_
                  refine z_get C hK hW hin11 (v := .ref a16) 0 rfl rfl 16 (by decide) (C.2.2.2.2 (.fieldLink RX11 40 "TellingRowsModel" "other" "[I") (List.mem_of_getElem? (i := 1) rfl)) (fun _ h9 => h9) rfl dX11_free_78 ?_
                  refine lv_iload_n C.1 C.2.1 dX11_free_81 rfl (lv_at hl 0 rfl) ?_
                  refine z_iald C hK hW 2 rfl (by omega) (by omega) dX11_free_82 ?_
                  have hb_82 := hh3 w
                  refine lv_iconst (v := iI 1) C.1 C.2.1 dX11_free_83 rfl ?_
                  refine z_icmp_ne (tgt := 93) C dX11_free_84 (by decide) (by omega) (fun c_84 => ?_) (fun c_84 => ?_)
                  ·
                    refine lv_iload_n C.1 C.2.1 dX11_free_93 rfl (lv_at hl 0 rfl) ?_
                    rw [hQ]
                    have hP9 : ∃ z : Int, (some (Value.int (iI w))) = some (.int (iI z)) ∧ (Nx6 g k z) ∧ (BD h3) := ⟨_, rfl, ⟨by omega, by omega, Classical.byContradiction (fun q9 => absurd ((hF w (by omega) (by omega)).mpr q9) (by omega)), fun x x0 x1 => (hF x x0 (by omega)).mp (hno x x0 x1)⟩, hh3⟩
                    exact z_iret C hr hlocks hW h3 rfl hP9 dX11_free_94
                  ·
                    have c_84b : h3 w = 1 := by omega
                    have hwk : w < k := (Int.lt_or_le w k).elim id (fun q9 => by exfalso; have hp := pigeon (h := fun x => 2 * g (k - x) - g (k - 2 * x)) (D := (d - 1).toNat) (m := k + 1) (by omega) (fun v v0 v1 => by obtain ⟨x, x1, x2, x3⟩ := (hm v v0 (by omega)).mp ((Int.lt_or_le v w).elim (fun r => hno v v0 r) (fun r => by rw [show v = w by omega]; exact c_84b)); exact ⟨x.toNat, by omega, by omega, by rw [Int.toNat_of_nonneg (by omega)]; exact x3⟩); omega)
                    refine lv_iinc (v := iI (w + 1)) (lv' := [(2, .int (iI (w + 1))), (0, .ref x), (1, .int (iI k))]) C.1 C.2.1 dX11_free_87 hl (k := 0) rfl (iI_add _ _) (by decide) rfl (fun ls hl => ?_)
                    refine lv_goto (tgt := 77) C.1 C.2.1 dX11_free_90 (by decide) ?_
                    exact ih_77 (w + 1) (by first | omega | assumption | (intros; first | rfl | omega | assumption | (and_intros <;> first | rfl | omega | assumption))) (fun x x0 x1 => (Int.lt_or_le x w).elim (fun q => hno x x0 q) (fun q => by rw [show x = w by omega]; exact c_84b)) (by omega) _ _ _ hW (lv_sub hl [0, 1, 2] rfl)
              exact cut_77 (((k + 1 - 0) + 1 : Int)).toNat 0 (by first | omega | assumption | (intros; first | rfl | omega | assumption | (and_intros <;> first | rfl | omega | assumption))) (fun x x0 x1 => by omega) (by omega) _ _ _ hW (lv_sub hl [0, 1, 2] rfl)
            ·
              refine lv_iconst (v := iI 2) C.1 C.2.1 dX11_free_29 rfl ?_
              refine lv_aload_n C.1 C.2.1 dX11_free_30 rfl (lv_at hl 1 rfl) ?_
              refine z_get C hK hW hin11 (v := .ref a8) 0 rfl rfl 8 (by decide) (C.2.2.2.2 (.fieldLink RX11 24 "TellingRowsModel" "row" "[I") (List.mem_of_getElem? (i := 2) rfl)) (fun _ h9 => h9) rfl dX11_free_31 ?_
              refine lv_iload_n C.1 C.2.1 dX11_free_34 rfl (lv_at hl 2 rfl) ?_
              refine lv_iload_n C.1 C.2.1 dX11_free_35 rfl (lv_at hl 0 rfl) ?_
              refine z_isub C dX11_free_36 ?_
              refine z_iald C hK hW 1 rfl (by omega) (by omega) dX11_free_37 ?_
              have hb_37 := hg (k - d)
              have hv2 := hV (k - d) (by omega) (by omega)
              refine z_imul C dX11_free_38 ?_
              refine lv_aload_n C.1 C.2.1 dX11_free_39 rfl (lv_at hl 1 rfl) ?_
              refine z_get C hK hW hin11 (v := .ref a8) 0 rfl rfl 8 (by decide) (C.2.2.2.2 (.fieldLink RX11 24 "TellingRowsModel" "row" "[I") (List.mem_of_getElem? (i := 2) rfl)) (fun _ h9 => h9) rfl dX11_free_40 ?_
              refine lv_iload_n C.1 C.2.1 dX11_free_43 rfl (lv_at hl 2 rfl) ?_
              refine lv_iconst (v := iI 2) C.1 C.2.1 dX11_free_44 rfl ?_
              refine lv_iload_n C.1 C.2.1 dX11_free_45 rfl (lv_at hl 0 rfl) ?_
              refine z_imul C dX11_free_46 ?_
              refine z_isub C dX11_free_47 ?_
              refine z_iald C hK hW 1 rfl (by omega) (by omega) dX11_free_48 ?_
              have hb_48 := hg (k - (2 * d))
              have hv3 := hV (k - 2 * d) (by omega) (by omega)
              refine z_isub C dX11_free_49 ?_
              refine lv_istore_n (lv' := [(3, .int (iI ((2 * (g (k - d))) - (g (k - (2 * d)))))), (2, .int (iI d)), (0, .ref x), (1, .int (iI k))]) C.1 C.2.1 dX11_free_50 rfl hl (by decide) rfl (fun ls hl => ?_)
              refine lv_iload_n C.1 C.2.1 dX11_free_51 rfl (lv_at hl 0 rfl) ?_
              refine z_i2l C dX11_free_52 (by omega) ?_
              refine lv_lconst (v := lI 0) C.1 C.2.1 dX11_free_53 rfl ?_
              refine lv_iload_n C.1 C.2.1 dX11_free_54 rfl (lv_at hl 3 rfl) ?_
              refine z_i2l C dX11_free_55 (by omega) ?_
              refine z_callR (va_runS (As := [.long (lI ((2 * (g (k - d))) - (g (k - (2 * d))))), .long (lI 0), .long (lI k)]) (rest := []) C (c_X11_in l G ((2 * (g (k - d))) - (g (k - (2 * d)))) 0 k (by first | omega | assumption | (intros; first | rfl | omega | assumption | (and_intros <;> first | rfl | omega | assumption))) (by first | omega | assumption | (intros; first | rfl | omega | assumption | (and_intros <;> first | rfl | omega | assumption))) (by first | omega | assumption | (intros; first | rfl | omega | assumption | (and_intros <;> first | rfl | omega | assumption))) H.size) (va_cwS 3 C.2.2.2.2 gX11_free_X11_in rfl rfl rfl (by decide +kernel) ⟨Nat.le_of_ble_eq_true rfl, Nat.le_of_ble_eq_true rfl⟩) (z_preS hK hW hA [] rfl (by decide)) rfl rfl hl.1 rfl (lv_room (Nat.le_of_ble_eq_true rfl)) dX11_free_56 ⟨Nat.zero_le _, Nat.zero_le _⟩) (fun r hp => ?_)
              have hp : ∃ z : Int, r = some (.int (iI z)) ∧ ((z = 1 ∧ ((0 : Int) ≤ ((2 * (g (k - d))) - (g (k - (2 * d)))) ∧ ((2 * (g (k - d))) - (g (k - (2 * d)))) ≤ k)) ∨ (z = 0 ∧ ¬ ((0 : Int) ≤ ((2 * (g (k - d))) - (g (k - (2 * d)))) ∧ ((2 * (g (k - d))) - (g (k - (2 * d)))) ≤ k))) := hp
              obtain ⟨z_56, rfl, hz_56_0⟩ := hp
              refine z_if_eq (tgt := 69) C dX11_free_59 (by decide) (by omega) (fun c_59 => ?_) (fun c_59 => ?_)
              ·
                refine lv_iinc (v := iI (d + 1)) (lv' := [(2, .int (iI (d + 1))), (3, .int (iI ((2 * (g (k - d))) - (g (k - (2 * d)))))), (0, .ref x), (1, .int (iI k))]) C.1 C.2.1 dX11_free_69 hl (k := 1) rfl (iI_add _ _) (by decide) rfl (fun ls hl => ?_)
                refine lv_goto (tgt := 22) C.1 C.2.1 dX11_free_72 (by decide) ?_
                exact ih_22 (d + 1) h3 (by first | omega | assumption | (intros; first | rfl | omega | assumption | (and_intros <;> first | rfl | omega | assumption))) hh3 (fun v v0 v1 => by have h1 := hm v v0 v1; exact if q7 : v = 2 * g (k - d) - g (k - 2 * d) then (by (try rw [q7, up_s]); first | exact ⟨fun _ => ⟨d, by omega, by omega, by omega⟩, fun _ => rfl⟩ | (exfalso; omega)) else (by (try rw [up_n _ _ q7]); exact ⟨fun q5 => by obtain ⟨x, x1, x2, x3⟩ := h1.mp q5; exact ⟨x, x1, by omega, x3⟩, fun ⟨x, x1, x2, x3⟩ => h1.mpr ⟨x, x1, (Int.lt_or_le x d).elim id (fun q4 => absurd (show v = 2 * g (k - d) - g (k - 2 * d) by rw [← x3, show x = d by omega]) q7), x3⟩⟩)) (by omega) _ _ _ hW (lv_sub hl [0, 2, 3] rfl)
              ·
                refine lv_aload_n C.1 C.2.1 dX11_free_62 rfl (lv_at hl 2 rfl) ?_
                refine z_get C hK hW hin11 (v := .ref a16) 0 rfl rfl 16 (by decide) (C.2.2.2.2 (.fieldLink RX11 40 "TellingRowsModel" "other" "[I") (List.mem_of_getElem? (i := 1) rfl)) (fun _ h9 => h9) rfl dX11_free_63 ?_
                refine lv_iload_n C.1 C.2.1 dX11_free_66 rfl (lv_at hl 0 rfl) ?_
                refine lv_iconst (v := iI 1) C.1 C.2.1 dX11_free_67 rfl ?_
                refine z_iast C hK hW 2 rfl (by omega) (by omega) dX11_free_68 (fun H locs hW => ?_)
                have hbd_68 : BD (up h3 ((2 * (g (k - d))) - (g (k - (2 * d)))) 1) := BD.up hh3 (by omega)
                have hW : Wd G A s9.heap [(x, .inr (9, [.int (iI ln), .ref a1, .int (iI pl), .ref a3, .ref a4, .int (iI ri), .int (iI ld), .int (iI mn), .ref a8, .ref a9, .int (iI nn), .ref a11, .int (iI fn), .ref a13, .int (iI lm), .ref a15, .ref a16, .ref a17, .ref a18, .ref a19, .ref a20])), (a8, .inl (G.2.1 0, 2000, .inl (iA g))), (a16, .inl (G.2.1 0, 5000, .inl (iA (up h3 ((2 * (g (k - d))) - (g (k - (2 * d)))) 1))))] H locs := hW
                refine lv_iinc (v := iI (d + 1)) (lv' := [(2, .int (iI (d + 1))), (3, .int (iI ((2 * (g (k - d))) - (g (k - (2 * d)))))), (0, .ref x), (1, .int (iI k))]) C.1 C.2.1 dX11_free_69 hl (k := 1) rfl (iI_add _ _) (by decide) rfl (fun ls hl => ?_)
                refine lv_goto (tgt := 22) C.1 C.2.1 dX11_free_72 (by decide) ?_
                exact ih_22 (d + 1) (up h3 ((2 * (g (k - d))) - (g (k - (2 * d)))) 1) (by first | omega | assumption | (intros; first | rfl | omega | assumption | (and_intros <;> first | rfl | omega | assumption))) hbd_68 (fun v v0 v1 => by have h1 := hm v v0 v1; exact if q7 : v = 2 * g (k - d) - g (k - 2 * d) then (by (try rw [q7, up_s]); first | exact ⟨fun _ => ⟨d, by omega, by omega, by omega⟩, fun _ => rfl⟩ | (exfalso; omega)) else (by (try rw [up_n _ _ q7]); exact ⟨fun q5 => by obtain ⟨x, x1, x2, x3⟩ := h1.mp q5; exact ⟨x, x1, by omega, x3⟩, fun ⟨x, x1, x2, x3⟩ => h1.mpr ⟨x, x1, (Int.lt_or_le x d).elim id (fun q4 => absurd (show v = 2 * g (k - d) - g (k - 2 * d) by rw [← x3, show x = d by omega]) q7), x3⟩⟩)) (by omega) _ _ _ hW (lv_sub hl [0, 2, 3] rfl)
        exact cut_22 (((k + 2 - 2 * 1) + 1 : Int)).toNat 1 h1 (by first | omega | assumption | (intros; first | rfl | omega | assumption | (and_intros <;> first | rfl | omega | assumption))) hh1 (fun v v0 v1 => by have := hz0 v v0 (by omega); exact ⟨fun q9 => by omega, fun ⟨x, x1, x2, _⟩ => by omega⟩) (by omega) _ _ _ hW (lv_sub hl [0, 1, 2] rfl)
      ·
        refine lv_aload_n C.1 C.2.1 dX11_free_7 rfl (lv_at hl 1 rfl) ?_
        refine z_get C hK hW hin11 (v := .ref a16) 0 rfl rfl 16 (by decide) (C.2.2.2.2 (.fieldLink RX11 40 "TellingRowsModel" "other" "[I") (List.mem_of_getElem? (i := 1) rfl)) (fun _ h9 => h9) rfl dX11_free_8 ?_
        refine lv_iload_n C.1 C.2.1 dX11_free_11 rfl (lv_at hl 0 rfl) ?_
        refine lv_iconst (v := iI 0) C.1 C.2.1 dX11_free_12 rfl ?_
        refine z_iast C hK hW 2 rfl (by omega) (by omega) dX11_free_13 (fun H locs hW => ?_)
        have hbd_13 : BD (up h1 q 0) := BD.up hh1 (by omega)
        have hW : Wd G A s9.heap [(x, .inr (9, [.int (iI ln), .ref a1, .int (iI pl), .ref a3, .ref a4, .int (iI ri), .int (iI ld), .int (iI mn), .ref a8, .ref a9, .int (iI nn), .ref a11, .int (iI fn), .ref a13, .int (iI lm), .ref a15, .ref a16, .ref a17, .ref a18, .ref a19, .ref a20])), (a8, .inl (G.2.1 0, 2000, .inl (iA g))), (a16, .inl (G.2.1 0, 5000, .inl (iA (up h1 q 0))))] H locs := hW
        refine lv_iinc (v := iI (q + 1)) (lv' := [(2, .int (iI (q + 1))), (0, .ref x), (1, .int (iI k))]) C.1 C.2.1 dX11_free_14 hl (k := 0) rfl (iI_add _ _) (by decide) rfl (fun ls hl => ?_)
        refine lv_goto (tgt := 2) C.1 C.2.1 dX11_free_17 (by decide) ?_
        exact ih_2 (q + 1) (up h1 q 0) (by first | omega | assumption | (intros; first | rfl | omega | assumption | (and_intros <;> first | rfl | omega | assumption))) hbd_13 (fun j j0 j1 => if r9 : j = q then (by rw [r9, up_s]) else (by rw [up_n _ _ r9]; exact hz0 j j0 (by omega))) (by omega) _ _ _ hW (lv_sub hl [0, 1, 2] rfl)
  exact cut_2 (((k + 1 - 0) + 1 : Int)).toNat 0 h (by first | omega | assumption | (intros; first | rfl | omega | assumption | (and_intros <;> first | rfl | omega | assumption))) hh (fun j j0 j1 => by omega) (by omega) _ _ _ hW (lv_sub hl [0, 1, 2] rfl)
set_option maxHeartbeats 4000000 in
set_option maxRecDepth 100000 in
/-- comes -/
theorem c_X11_comes (l : Launch) (G : GG) (x : Nat) (ln : Int) (a1 : Nat) (pl : Int) (a3 : Nat) (a4 : Nat) (ri : Int) (ld : Int) (mn : Int) (a8 : Nat) (a9 : Nat) (nn : Int) (a11 : Nat) (fn : Int) (a13 : Nat) (lm : Int) (a15 : Nat) (a16 : Nat) (a17 : Nat) (a18 : Nat) (a19 : Nat) (a20 : Nat) (g : Int → Int) (f : Int → Int) (s : Int) (k : Int) (hs : 0 ≤ s ∧ s ≤ 6) (hk : 0 ≤ k ∧ k ≤ 1999) (hV : VAL g (k + 1)) (hg : BD g) (hf : BD f) (hm : SeenQ s g k f) : MQc l yX11_comes wsX11_comes 0 G [.ref x, .int (iI s), .int (iI k)] [(x, .inr (9, [.int (iI ln), .ref a1, .int (iI pl), .ref a3, .ref a4, .int (iI ri), .int (iI ld), .int (iI mn), .ref a8, .ref a9, .int (iI nn), .ref a11, .int (iI fn), .ref a13, .int (iI lm), .ref a15, .ref a16, .ref a17, .ref a18, .ref a19, .ref a20])), (a8, .inl (G.2.1 0, 2000, .inl (iA g))), (a9, .inl (G.2.1 0, 60001, .inl (iA f)))] (fun r (u : (Int → Int)) => r = none ∧ (SeenQ s g (k + 1) u) ∧ (BD u)) (fun u => [(x, .inr (9, [.int (iI ln), .ref a1, .int (iI pl), .ref a3, .ref a4, .int (iI ri), .int (iI ld), .int (iI mn), .ref a8, .ref a9, .int (iI nn), .ref a11, .int (iI fn), .ref a13, .int (iI lm), .ref a15, .ref a16, .ref a17, .ref a18, .ref a19, .ref a20])), (a8, .inl (G.2.1 0, 2000, .inl (iA g))), (a9, .inl (G.2.1 0, 60001, .inl (iA u)))]) := by
  refine MQc.start (own := RX11) (by decide) rfl rfl (Nat.le_of_ble_eq_true rfl) ?_
  intro p9 e9 s9 m9 args below meth c9 A Q C hK hW hA hr hlocks hQ ls hl
  have hl : lv_has ls 5 [(0, .ref x), (1, .int (iI s)), (2, .int (iI k))] := hl
  have hin11 : ∀ w ∈ wsX110, w ∈ wsX11_comes := by decide +kernel
  have cut_56 : ∀ (n9 : Nat) (j : Int) (f1 : Int → Int), (s = 4) → (0 ≤ j ∧ j ≤ k) → (BD f1) → (∀ v, 0 ≤ v → v ≤ 60000 → f1 v = pc g v k + oc g (v - g k) j) → (k - j < (n9 : Int)) → ∀ (H : Heap) (locs : List Loc) (ls : Array Slot), Wd G A s9.heap [(x, .inr (9, [.int (iI ln), .ref a1, .int (iI pl), .ref a3, .ref a4, .int (iI ri), .int (iI ld), .int (iI mn), .ref a8, .ref a9, .int (iI nn), .ref a11, .int (iI fn), .ref a13, .int (iI lm), .ref a15, .ref a16, .ref a17, .ref a18, .ref a19, .ref a20])), (a8, .inl (G.2.1 0, 2000, .inl (iA g))), (a9, .inl (G.2.1 0, 60001, .inl (iA f1)))] H locs → lv_has ls 5 [(0, .ref x), (1, .int (iI s)), (2, .int (iI k)), (3, .int (iI j))] → W p9 l e9 (rmL 0) s9 m9 args below meth c9 H locs 0 0 Q (F0 m9 56 ls []) := by
    intro n9
    induction n9 with
    | zero => intro j f1 hs4 hj hf1 he hmu; intros; exfalso; omega
    | succ n9 ih_56 =>
      intro j f1 hs4 hj hf1 he hmu H locs ls hW hl
      have hv4 := hV k (by omega) (by omega)
      refine lv_iload_n C.1 C.2.1 dX11_comes_56 rfl (lv_at hl 3 rfl) ?_
      refine lv_iload_n C.1 C.2.1 dX11_comes_57 rfl (lv_at hl 2 rfl) ?_
      refine z_icmp_ge (tgt := 100) C dX11_comes_58 (by decide) (by omega) (fun c_58 => ?_) (fun c_58 => ?_)
      ·
        rw [hQ]
        have hP9 : (none : Option Value) = none ∧ (SeenQ s g (k + 1) f1) ∧ (BD f1) := ⟨rfl, (by have E1 : s = 2 → ¬ 0 < k → ∀ v, 0 ≤ v → v ≤ 60000 → f v = lo g v (k + 1 - 1) := (fun q r v v0 v1 => by rw [hm.1 q v v0 v1, lo_0 (by omega), lo_0 (by omega)]); first | exact ⟨fun q9 v v0 v1 => by rw [show k + 1 - 1 = (k - 1) + 1 by omega, lo_s (by omega)]; exact (if q : v = g (k - 1) then (by rw [q, up_s, if_pos rfl]; omega) else (by rw [up_n _ _ q, if_neg (fun r => q r.symm)]; exact hm.1 q9 v v0 v1)), fun q9 => by omega, fun q9 => by omega⟩ | exact ⟨fun q9 => by omega, fun q9 => by omega, fun q9 v v0 v1 => by rw [oc_s (by omega)]; exact (if q : v = g k then (by rw [q, up_s, if_pos rfl]; omega) else (by rw [up_n _ _ q, if_neg (fun r => q r.symm), hm.2.2 q9 v v0 v1]; omega))⟩ | exact ⟨fun q9 => by omega, fun q9 v v0 v1 => by rw [he v v0 v1, pc_s (by omega), show j = k by omega], fun q9 => by omega⟩ | exact ⟨fun q9 => E1 q9 (by omega), fun q9 => by omega, fun q9 => by omega⟩), hf1⟩
        exact z_vret C hr hlocks hW f1 rfl hP9 dX11_comes_100
      ·
        refine lv_aload_n C.1 C.2.1 dX11_comes_61 rfl (lv_at hl 0 rfl) ?_
        refine z_get C hK hW hin11 (v := .ref a8) 0 rfl rfl 8 (by decide) (C.2.2.2.2 (.fieldLink RX11 24 "TellingRowsModel" "row" "[I") (List.mem_of_getElem? (i := 2) rfl)) (fun _ h9 => h9) rfl dX11_comes_62 ?_
        refine lv_iload_n C.1 C.2.1 dX11_comes_65 rfl (lv_at hl 3 rfl) ?_
        refine z_iald C hK hW 1 rfl (by omega) (by omega) dX11_comes_66 ?_
        have hb_66 := hg j
        have hv3 := hV j (by omega) (by omega)
        refine lv_aload_n C.1 C.2.1 dX11_comes_67 rfl (lv_at hl 0 rfl) ?_
        refine z_get C hK hW hin11 (v := .ref a8) 0 rfl rfl 8 (by decide) (C.2.2.2.2 (.fieldLink RX11 24 "TellingRowsModel" "row" "[I") (List.mem_of_getElem? (i := 2) rfl)) (fun _ h9 => h9) rfl dX11_comes_68 ?_
        refine lv_iload_n C.1 C.2.1 dX11_comes_71 rfl (lv_at hl 2 rfl) ?_
        refine z_iald C hK hW 1 rfl (by omega) (by omega) dX11_comes_72 ?_
        have hb_72 := hg k
        refine z_iadd C dX11_comes_73 ?_
        refine lv_istore (lv' := [(4, .int (iI ((g j) + (g k)))), (0, .ref x), (1, .int (iI s)), (2, .int (iI k)), (3, .int (iI j))]) C.1 C.2.1 dX11_comes_74 hl (by decide) rfl (fun ls hl => ?_)
        refine lv_iload C.1 C.2.1 dX11_comes_76 (lv_at hl 0 rfl) ?_
        refine z_ldc (z := 60000) C (C.2.2.2.2 (.constant RX11 104 (60000)) (List.mem_of_getElem? (i := 3) rfl)) (by decide +kernel) dX11_comes_78 ?_
        refine z_icmp_gt (tgt := 94) C dX11_comes_80 (by decide) (by omega) (fun c_80 => ?_) (fun c_80 => ?_)
        ·
          refine lv_iinc (v := iI (j + 1)) (lv' := [(3, .int (iI (j + 1))), (4, .int (iI ((g j) + (g k)))), (0, .ref x), (1, .int (iI s)), (2, .int (iI k))]) C.1 C.2.1 dX11_comes_94 hl (k := 4) rfl (iI_add _ _) (by decide) rfl (fun ls hl => ?_)
          refine lv_goto (tgt := 56) C.1 C.2.1 dX11_comes_97 (by decide) ?_
          exact ih_56 (j + 1) f1 hs4 (by first | omega | assumption | (intros; first | rfl | omega | assumption | (and_intros <;> first | rfl | omega | assumption))) hf1 (fun v v0 v1 => by have h1 := he v v0 v1; rw [oc_s hj.1]; exact if q7 : v = g j + g k then (by (try rw [q7, up_s]); first | (exfalso; omega) | (rw [q7] at h1; rw [if_pos (by omega), h1]; omega)) else (by (try rw [up_n _ _ q7]); rw [if_neg (by omega), h1]; omega)) (by omega) _ _ _ hW (lv_sub hl [2, 3, 4, 0] rfl)
        ·
          have h1v := he (g j + g k) (by omega) (by omega)
          have hpb := pc_b (g := g) (v := g j + g k) (m := k) (by omega) (by omega)
          have hoo := oc_b (g := g) (v := g j + g k - g k) (n := j) (by omega)
          refine lv_aload_n C.1 C.2.1 dX11_comes_83 rfl (lv_at hl 1 rfl) ?_
          refine z_get C hK hW hin11 (v := .ref a9) 0 rfl rfl 9 (by decide) (C.2.2.2.2 (.fieldLink RX11 28 "TellingRowsModel" "seen" "[I") (List.mem_of_getElem? (i := 1) rfl)) (fun _ h9 => h9) rfl dX11_comes_84 ?_
          refine lv_iload C.1 C.2.1 dX11_comes_87 (lv_at hl 0 rfl) ?_
          refine lv_dup2_11 C.1 C.2.1 dX11_comes_89 rfl rfl ?_
          refine z_iald C hK hW 2 rfl (by omega) (by omega) dX11_comes_90 ?_
          have hb_90 := hf1 ((g j) + (g k))
          refine lv_iconst (v := iI 1) C.1 C.2.1 dX11_comes_91 rfl ?_
          refine z_iadd C dX11_comes_92 ?_
          refine z_iast C hK hW 2 rfl (by omega) (by omega) dX11_comes_93 (fun H locs hW => ?_)
          have hbd_93 : BD (up f1 ((g j) + (g k)) ((f1 ((g j) + (g k))) + 1)) := BD.up hf1 (by omega)
          have hW : Wd G A s9.heap [(x, .inr (9, [.int (iI ln), .ref a1, .int (iI pl), .ref a3, .ref a4, .int (iI ri), .int (iI ld), .int (iI mn), .ref a8, .ref a9, .int (iI nn), .ref a11, .int (iI fn), .ref a13, .int (iI lm), .ref a15, .ref a16, .ref a17, .ref a18, .ref a19, .ref a20])), (a8, .inl (G.2.1 0, 2000, .inl (iA g))), (a9, .inl (G.2.1 0, 60001, .inl (iA (up f1 ((g j) + (g k)) ((f1 ((g j) + (g k))) + 1)))))] H locs := hW
          refine lv_iinc (v := iI (j + 1)) (lv' := [(3, .int (iI (j + 1))), (4, .int (iI ((g j) + (g k)))), (0, .ref x), (1, .int (iI s)), (2, .int (iI k))]) C.1 C.2.1 dX11_comes_94 hl (k := 4) rfl (iI_add _ _) (by decide) rfl (fun ls hl => ?_)
          refine lv_goto (tgt := 56) C.1 C.2.1 dX11_comes_97 (by decide) ?_
          exact ih_56 (j + 1) (up f1 ((g j) + (g k)) ((f1 ((g j) + (g k))) + 1)) hs4 (by first | omega | assumption | (intros; first | rfl | omega | assumption | (and_intros <;> first | rfl | omega | assumption))) hbd_93 (fun v v0 v1 => by have h1 := he v v0 v1; rw [oc_s hj.1]; exact if q7 : v = g j + g k then (by (try rw [q7, up_s]); first | (exfalso; omega) | (rw [q7] at h1; rw [if_pos (by omega), h1]; omega)) else (by (try rw [up_n _ _ q7]); rw [if_neg (by omega), h1]; omega)) (by omega) _ _ _ hW (lv_sub hl [2, 3, 4, 0] rfl)
  refine lv_iload_n C.1 C.2.1 dX11_comes_0 rfl (lv_at hl 1 rfl) ?_
  refine lv_iconst (v := iI 2) C.1 C.2.1 dX11_comes_1 rfl ?_
  refine z_icmp_ne (tgt := 26) C dX11_comes_2 (by decide) (by omega) (fun c_2 => ?_) (fun c_2 => ?_)
  ·
    refine lv_iload_n C.1 C.2.1 dX11_comes_26 rfl (lv_at hl 1 rfl) ?_
    refine lv_iconst (v := iI 5) C.1 C.2.1 dX11_comes_27 rfl ?_
    refine z_icmp_ne (tgt := 49) C dX11_comes_28 (by decide) (by omega) (fun c_28 => ?_) (fun c_28 => ?_)
    ·
      refine lv_iload_n C.1 C.2.1 dX11_comes_49 rfl (lv_at hl 1 rfl) ?_
      refine lv_iconst (v := iI 4) C.1 C.2.1 dX11_comes_50 rfl ?_
      refine z_icmp_ne (tgt := 100) C dX11_comes_51 (by decide) (by omega) (fun c_51 => ?_) (fun c_51 => ?_)
      ·
        rw [hQ]
        have hP9 : (none : Option Value) = none ∧ (SeenQ s g (k + 1) f) ∧ (BD f) := ⟨rfl, (by have E1 : s = 2 → ¬ 0 < k → ∀ v, 0 ≤ v → v ≤ 60000 → f v = lo g v (k + 1 - 1) := (fun q r v v0 v1 => by rw [hm.1 q v v0 v1, lo_0 (by omega), lo_0 (by omega)]); first | exact ⟨fun q9 v v0 v1 => by rw [show k + 1 - 1 = (k - 1) + 1 by omega, lo_s (by omega)]; exact (if q : v = g (k - 1) then (by rw [q, up_s, if_pos rfl]; omega) else (by rw [up_n _ _ q, if_neg (fun r => q r.symm)]; exact hm.1 q9 v v0 v1)), fun q9 => by omega, fun q9 => by omega⟩ | exact ⟨fun q9 => by omega, fun q9 => by omega, fun q9 v v0 v1 => by rw [oc_s (by omega)]; exact (if q : v = g k then (by rw [q, up_s, if_pos rfl]; omega) else (by rw [up_n _ _ q, if_neg (fun r => q r.symm), hm.2.2 q9 v v0 v1]; omega))⟩ | exact ⟨fun q9 => by omega, fun q9 v v0 v1 => by rw [he v v0 v1, pc_s (by omega), show j = k by omega], fun q9 => by omega⟩ | exact ⟨fun q9 => E1 q9 (by omega), fun q9 => by omega, fun q9 => by omega⟩), hf⟩
        exact z_vret C hr hlocks hW f rfl hP9 dX11_comes_100
      ·
        have hv4 := hV k (by omega) (by omega)
        refine lv_iconst (v := iI 0) C.1 C.2.1 dX11_comes_54 rfl ?_
        refine lv_istore_n (lv' := [(3, .int (iI 0)), (0, .ref x), (1, .int (iI s)), (2, .int (iI k))]) C.1 C.2.1 dX11_comes_55 rfl hl (by decide) rfl (fun ls hl => ?_)
        exact cut_56 (((k - 0) + 1 : Int)).toNat 0 f (by first | omega | assumption | (intros; first | rfl | omega | assumption | (and_intros <;> first | rfl | omega | assumption))) (by first | omega | assumption | (intros; first | rfl | omega | assumption | (and_intros <;> first | rfl | omega | assumption))) hf (fun v v0 v1 => by rw [oc_0 (by omega), hm.2.1 (by omega) v v0 v1]; omega) (by omega) _ _ _ hW (lv_sub hl [1, 2, 3, 0] rfl)
    ·
      have hv2 := hV k (by omega) (by omega)
      have hob := oc_b (g := g) (v := g k) (n := k) (by omega)
      have hf5 := hm.2.2 (by omega) (g k) hv2.1 hv2.2
      refine lv_aload_n C.1 C.2.1 dX11_comes_31 rfl (lv_at hl 0 rfl) ?_
      refine z_get C hK hW hin11 (v := .ref a9) 0 rfl rfl 9 (by decide) (C.2.2.2.2 (.fieldLink RX11 28 "TellingRowsModel" "seen" "[I") (List.mem_of_getElem? (i := 1) rfl)) (fun _ h9 => h9) rfl dX11_comes_32 ?_
      refine lv_aload_n C.1 C.2.1 dX11_comes_35 rfl (lv_at hl 0 rfl) ?_
      refine z_get C hK hW hin11 (v := .ref a8) 0 rfl rfl 8 (by decide) (C.2.2.2.2 (.fieldLink RX11 24 "TellingRowsModel" "row" "[I") (List.mem_of_getElem? (i := 2) rfl)) (fun _ h9 => h9) rfl dX11_comes_36 ?_
      refine lv_iload_n C.1 C.2.1 dX11_comes_39 rfl (lv_at hl 2 rfl) ?_
      refine z_iald C hK hW 1 rfl (by omega) (by omega) dX11_comes_40 ?_
      have hb_40 := hg k
      refine lv_dup2_11 C.1 C.2.1 dX11_comes_41 rfl rfl ?_
      refine z_iald C hK hW 2 rfl (by omega) (by omega) dX11_comes_42 ?_
      have hb_42 := hf (g k)
      refine lv_iconst (v := iI 1) C.1 C.2.1 dX11_comes_43 rfl ?_
      refine z_iadd C dX11_comes_44 ?_
      refine z_iast C hK hW 2 rfl (by omega) (by omega) dX11_comes_45 (fun H locs hW => ?_)
      have hbd_45 : BD (up f (g k) ((f (g k)) + 1)) := BD.up hf (by omega)
      have hW : Wd G A s9.heap [(x, .inr (9, [.int (iI ln), .ref a1, .int (iI pl), .ref a3, .ref a4, .int (iI ri), .int (iI ld), .int (iI mn), .ref a8, .ref a9, .int (iI nn), .ref a11, .int (iI fn), .ref a13, .int (iI lm), .ref a15, .ref a16, .ref a17, .ref a18, .ref a19, .ref a20])), (a8, .inl (G.2.1 0, 2000, .inl (iA g))), (a9, .inl (G.2.1 0, 60001, .inl (iA (up f (g k) ((f (g k)) + 1)))))] H locs := hW
      refine lv_goto (tgt := 100) C.1 C.2.1 dX11_comes_46 (by decide) ?_
      rw [hQ]
      have hP9 : (none : Option Value) = none ∧ (SeenQ s g (k + 1) (up f (g k) ((f (g k)) + 1))) ∧ (BD (up f (g k) ((f (g k)) + 1))) := ⟨rfl, (by have E1 : s = 2 → ¬ 0 < k → ∀ v, 0 ≤ v → v ≤ 60000 → f v = lo g v (k + 1 - 1) := (fun q r v v0 v1 => by rw [hm.1 q v v0 v1, lo_0 (by omega), lo_0 (by omega)]); first | exact ⟨fun q9 v v0 v1 => by rw [show k + 1 - 1 = (k - 1) + 1 by omega, lo_s (by omega)]; exact (if q : v = g (k - 1) then (by rw [q, up_s, if_pos rfl]; omega) else (by rw [up_n _ _ q, if_neg (fun r => q r.symm)]; exact hm.1 q9 v v0 v1)), fun q9 => by omega, fun q9 => by omega⟩ | exact ⟨fun q9 => by omega, fun q9 => by omega, fun q9 v v0 v1 => by rw [oc_s (by omega)]; exact (if q : v = g k then (by rw [q, up_s, if_pos rfl]; omega) else (by rw [up_n _ _ q, if_neg (fun r => q r.symm), hm.2.2 q9 v v0 v1]; omega))⟩ | exact ⟨fun q9 => by omega, fun q9 v v0 v1 => by rw [he v v0 v1, pc_s (by omega), show j = k by omega], fun q9 => by omega⟩ | exact ⟨fun q9 => E1 q9 (by omega), fun q9 => by omega, fun q9 => by omega⟩), hbd_45⟩
      exact z_vret C hr hlocks hW (up f (g k) ((f (g k)) + 1)) rfl hP9 dX11_comes_100
  ·
    refine lv_iload_n C.1 C.2.1 dX11_comes_5 rfl (lv_at hl 2 rfl) ?_
    refine z_if_le (tgt := 26) C dX11_comes_6 (by decide) (by omega) (fun c_6 => ?_) (fun c_6 => ?_)
    ·
      refine lv_iload_n C.1 C.2.1 dX11_comes_26 rfl (lv_at hl 1 rfl) ?_
      refine lv_iconst (v := iI 5) C.1 C.2.1 dX11_comes_27 rfl ?_
      refine z_icmp_ne (tgt := 49) C dX11_comes_28 (by decide) (by omega) (fun c_28 => ?_) (fun c_28 => ?_)
      ·
        refine lv_iload_n C.1 C.2.1 dX11_comes_49 rfl (lv_at hl 1 rfl) ?_
        refine lv_iconst (v := iI 4) C.1 C.2.1 dX11_comes_50 rfl ?_
        refine z_icmp_ne (tgt := 100) C dX11_comes_51 (by decide) (by omega) (fun c_51 => ?_) (fun c_51 => ?_)
        ·
          rw [hQ]
          have hP9 : (none : Option Value) = none ∧ (SeenQ s g (k + 1) f) ∧ (BD f) := ⟨rfl, (by have E1 : s = 2 → ¬ 0 < k → ∀ v, 0 ≤ v → v ≤ 60000 → f v = lo g v (k + 1 - 1) := (fun q r v v0 v1 => by rw [hm.1 q v v0 v1, lo_0 (by omega), lo_0 (by omega)]); first | exact ⟨fun q9 v v0 v1 => by rw [show k + 1 - 1 = (k - 1) + 1 by omega, lo_s (by omega)]; exact (if q : v = g (k - 1) then (by rw [q, up_s, if_pos rfl]; omega) else (by rw [up_n _ _ q, if_neg (fun r => q r.symm)]; exact hm.1 q9 v v0 v1)), fun q9 => by omega, fun q9 => by omega⟩ | exact ⟨fun q9 => by omega, fun q9 => by omega, fun q9 v v0 v1 => by rw [oc_s (by omega)]; exact (if q : v = g k then (by rw [q, up_s, if_pos rfl]; omega) else (by rw [up_n _ _ q, if_neg (fun r => q r.symm), hm.2.2 q9 v v0 v1]; omega))⟩ | exact ⟨fun q9 => by omega, fun q9 v v0 v1 => by rw [he v v0 v1, pc_s (by omega), show j = k by omega], fun q9 => by omega⟩ | exact ⟨fun q9 => E1 q9 (by omega), fun q9 => by omega, fun q9 => by omega⟩), hf⟩
          exact z_vret C hr hlocks hW f rfl hP9 dX11_comes_100
        ·
          have hv4 := hV k (by omega) (by omega)
          refine lv_iconst (v := iI 0) C.1 C.2.1 dX11_comes_54 rfl ?_
          refine lv_istore_n (lv' := [(3, .int (iI 0)), (0, .ref x), (1, .int (iI s)), (2, .int (iI k))]) C.1 C.2.1 dX11_comes_55 rfl hl (by decide) rfl (fun ls hl => ?_)
          exact cut_56 (((k - 0) + 1 : Int)).toNat 0 f (by first | omega | assumption | (intros; first | rfl | omega | assumption | (and_intros <;> first | rfl | omega | assumption))) (by first | omega | assumption | (intros; first | rfl | omega | assumption | (and_intros <;> first | rfl | omega | assumption))) hf (fun v v0 v1 => by rw [oc_0 (by omega), hm.2.1 (by omega) v v0 v1]; omega) (by omega) _ _ _ hW (lv_sub hl [1, 2, 3, 0] rfl)
      ·
        have hv2 := hV k (by omega) (by omega)
        have hob := oc_b (g := g) (v := g k) (n := k) (by omega)
        have hf5 := hm.2.2 (by omega) (g k) hv2.1 hv2.2
        refine lv_aload_n C.1 C.2.1 dX11_comes_31 rfl (lv_at hl 0 rfl) ?_
        refine z_get C hK hW hin11 (v := .ref a9) 0 rfl rfl 9 (by decide) (C.2.2.2.2 (.fieldLink RX11 28 "TellingRowsModel" "seen" "[I") (List.mem_of_getElem? (i := 1) rfl)) (fun _ h9 => h9) rfl dX11_comes_32 ?_
        refine lv_aload_n C.1 C.2.1 dX11_comes_35 rfl (lv_at hl 0 rfl) ?_
        refine z_get C hK hW hin11 (v := .ref a8) 0 rfl rfl 8 (by decide) (C.2.2.2.2 (.fieldLink RX11 24 "TellingRowsModel" "row" "[I") (List.mem_of_getElem? (i := 2) rfl)) (fun _ h9 => h9) rfl dX11_comes_36 ?_
        refine lv_iload_n C.1 C.2.1 dX11_comes_39 rfl (lv_at hl 2 rfl) ?_
        refine z_iald C hK hW 1 rfl (by omega) (by omega) dX11_comes_40 ?_
        have hb_40 := hg k
        refine lv_dup2_11 C.1 C.2.1 dX11_comes_41 rfl rfl ?_
        refine z_iald C hK hW 2 rfl (by omega) (by omega) dX11_comes_42 ?_
        have hb_42 := hf (g k)
        refine lv_iconst (v := iI 1) C.1 C.2.1 dX11_comes_43 rfl ?_
        refine z_iadd C dX11_comes_44 ?_
        refine z_iast C hK hW 2 rfl (by omega) (by omega) dX11_comes_45 (fun H locs hW => ?_)
        have hbd_45 : BD (up f (g k) ((f (g k)) + 1)) := BD.up hf (by omega)
        have hW : Wd G A s9.heap [(x, .inr (9, [.int (iI ln), .ref a1, .int (iI pl), .ref a3, .ref a4, .int (iI ri), .int (iI ld), .int (iI mn), .ref a8, .ref a9, .int (iI nn), .ref a11, .int (iI fn), .ref a13, .int (iI lm), .ref a15, .ref a16, .ref a17, .ref a18, .ref a19, .ref a20])), (a8, .inl (G.2.1 0, 2000, .inl (iA g))), (a9, .inl (G.2.1 0, 60001, .inl (iA (up f (g k) ((f (g k)) + 1)))))] H locs := hW
        refine lv_goto (tgt := 100) C.1 C.2.1 dX11_comes_46 (by decide) ?_
        rw [hQ]
        have hP9 : (none : Option Value) = none ∧ (SeenQ s g (k + 1) (up f (g k) ((f (g k)) + 1))) ∧ (BD (up f (g k) ((f (g k)) + 1))) := ⟨rfl, (by have E1 : s = 2 → ¬ 0 < k → ∀ v, 0 ≤ v → v ≤ 60000 → f v = lo g v (k + 1 - 1) := (fun q r v v0 v1 => by rw [hm.1 q v v0 v1, lo_0 (by omega), lo_0 (by omega)]); first | exact ⟨fun q9 v v0 v1 => by rw [show k + 1 - 1 = (k - 1) + 1 by omega, lo_s (by omega)]; exact (if q : v = g (k - 1) then (by rw [q, up_s, if_pos rfl]; omega) else (by rw [up_n _ _ q, if_neg (fun r => q r.symm)]; exact hm.1 q9 v v0 v1)), fun q9 => by omega, fun q9 => by omega⟩ | exact ⟨fun q9 => by omega, fun q9 => by omega, fun q9 v v0 v1 => by rw [oc_s (by omega)]; exact (if q : v = g k then (by rw [q, up_s, if_pos rfl]; omega) else (by rw [up_n _ _ q, if_neg (fun r => q r.symm), hm.2.2 q9 v v0 v1]; omega))⟩ | exact ⟨fun q9 => by omega, fun q9 v v0 v1 => by rw [he v v0 v1, pc_s (by omega), show j = k by omega], fun q9 => by omega⟩ | exact ⟨fun q9 => E1 q9 (by omega), fun q9 => by omega, fun q9 => by omega⟩), hbd_45⟩
        exact z_vret C hr hlocks hW (up f (g k) ((f (g k)) + 1)) rfl hP9 dX11_comes_100
    ·
      have hv1 := hV (k - 1) (by omega) (by omega)
      refine lv_aload_n C.1 C.2.1 dX11_comes_9 rfl (lv_at hl 0 rfl) ?_
      refine z_get C hK hW hin11 (v := .ref a9) 0 rfl rfl 9 (by decide) (C.2.2.2.2 (.fieldLink RX11 28 "TellingRowsModel" "seen" "[I") (List.mem_of_getElem? (i := 1) rfl)) (fun _ h9 => h9) rfl dX11_comes_10 ?_
      refine lv_aload_n C.1 C.2.1 dX11_comes_13 rfl (lv_at hl 0 rfl) ?_
      refine z_get C hK hW hin11 (v := .ref a8) 0 rfl rfl 8 (by decide) (C.2.2.2.2 (.fieldLink RX11 24 "TellingRowsModel" "row" "[I") (List.mem_of_getElem? (i := 2) rfl)) (fun _ h9 => h9) rfl dX11_comes_14 ?_
      refine lv_iload_n C.1 C.2.1 dX11_comes_17 rfl (lv_at hl 2 rfl) ?_
      refine lv_iconst (v := iI 1) C.1 C.2.1 dX11_comes_18 rfl ?_
      refine z_isub C dX11_comes_19 ?_
      refine z_iald C hK hW 1 rfl (by omega) (by omega) dX11_comes_20 ?_
      have hb_20 := hg (k - 1)
      refine lv_iload_n C.1 C.2.1 dX11_comes_21 rfl (lv_at hl 2 rfl) ?_
      refine z_iast C hK hW 2 rfl (by omega) (by omega) dX11_comes_22 (fun H locs hW => ?_)
      have hbd_22 : BD (up f (g (k - 1)) k) := BD.up hf (by omega)
      have hW : Wd G A s9.heap [(x, .inr (9, [.int (iI ln), .ref a1, .int (iI pl), .ref a3, .ref a4, .int (iI ri), .int (iI ld), .int (iI mn), .ref a8, .ref a9, .int (iI nn), .ref a11, .int (iI fn), .ref a13, .int (iI lm), .ref a15, .ref a16, .ref a17, .ref a18, .ref a19, .ref a20])), (a8, .inl (G.2.1 0, 2000, .inl (iA g))), (a9, .inl (G.2.1 0, 60001, .inl (iA (up f (g (k - 1)) k))))] H locs := hW
      refine lv_goto (tgt := 100) C.1 C.2.1 dX11_comes_23 (by decide) ?_
      rw [hQ]
      have hP9 : (none : Option Value) = none ∧ (SeenQ s g (k + 1) (up f (g (k - 1)) k)) ∧ (BD (up f (g (k - 1)) k)) := ⟨rfl, (by have E1 : s = 2 → ¬ 0 < k → ∀ v, 0 ≤ v → v ≤ 60000 → f v = lo g v (k + 1 - 1) := (fun q r v v0 v1 => by rw [hm.1 q v v0 v1, lo_0 (by omega), lo_0 (by omega)]); first | exact ⟨fun q9 v v0 v1 => by rw [show k + 1 - 1 = (k - 1) + 1 by omega, lo_s (by omega)]; exact (if q : v = g (k - 1) then (by rw [q, up_s, if_pos rfl]; omega) else (by rw [up_n _ _ q, if_neg (fun r => q r.symm)]; exact hm.1 q9 v v0 v1)), fun q9 => by omega, fun q9 => by omega⟩ | exact ⟨fun q9 => by omega, fun q9 => by omega, fun q9 v v0 v1 => by rw [oc_s (by omega)]; exact (if q : v = g k then (by rw [q, up_s, if_pos rfl]; omega) else (by rw [up_n _ _ q, if_neg (fun r => q r.symm), hm.2.2 q9 v v0 v1]; omega))⟩ | exact ⟨fun q9 => by omega, fun q9 v v0 v1 => by rw [he v v0 v1, pc_s (by omega), show j = k by omega], fun q9 => by omega⟩ | exact ⟨fun q9 => E1 q9 (by omega), fun q9 => by omega, fun q9 => by omega⟩), hbd_22⟩
      exact z_vret C hr hlocks hW (up f (g (k - 1)) k) rfl hP9 dX11_comes_100
set_option maxHeartbeats 4000000 in
set_option maxRecDepth 100000 in
/-- next -/
theorem c_X11_next (l : Launch) (G : GG) (x : Nat) (ln : Int) (a1 : Nat) (pl : Int) (a3 : Nat) (a4 : Nat) (ri : Int) (ld : Int) (mn : Int) (a8 : Nat) (a9 : Nat) (nn : Int) (a11 : Nat) (fn : Int) (a13 : Nat) (lm : Int) (a15 : Nat) (a16 : Nat) (a17 : Nat) (a18 : Nat) (a19 : Nat) (a20 : Nat) (g : Int → Int) (f : Int → Int) (h : Int → Int) (s : Int) (hs : 0 ≤ s ∧ s ≤ 6) (hmn : 0 ≤ mn ∧ mn ≤ 1999) (hfw : (s < 2 → 2 ≤ mn) ∧ (s < 6 → 1 ≤ mn)) (hV : VAL g mn) (hg : BD g) (hf : BD f) (hh : BD h) (hm : SeenQ s g mn f) : MQc l yX11_next wsX11_next 2 G [.ref x, .int (iI s)] [(x, .inr (9, [.int (iI ln), .ref a1, .int (iI pl), .ref a3, .ref a4, .int (iI ri), .int (iI ld), .int (iI mn), .ref a8, .ref a9, .int (iI nn), .ref a11, .int (iI fn), .ref a13, .int (iI lm), .ref a15, .ref a16, .ref a17, .ref a18, .ref a19, .ref a20])), (a8, .inl (G.2.1 0, 2000, .inl (iA g))), (a9, .inl (G.2.1 0, 60001, .inl (iA f))), (a16, .inl (G.2.1 0, 5000, .inl (iA h)))] (fun r (u : (Int → Int)) => ∃ z : Int, r = some (.int (iI z)) ∧ (NextR s.toNat g mn z) ∧ (-1 ≤ z ∧ z ≤ 60000) ∧ (BD u)) (fun u => [(x, .inr (9, [.int (iI ln), .ref a1, .int (iI pl), .ref a3, .ref a4, .int (iI ri), .int (iI ld), .int (iI mn), .ref a8, .ref a9, .int (iI nn), .ref a11, .int (iI fn), .ref a13, .int (iI lm), .ref a15, .ref a16, .ref a17, .ref a18, .ref a19, .ref a20])), (a8, .inl (G.2.1 0, 2000, .inl (iA g))), (a9, .inl (G.2.1 0, 60001, .inl (iA f))), (a16, .inl (G.2.1 0, 5000, .inl (iA u)))]) := by
  refine MQc.start (own := RX11) (by decide) rfl rfl (Nat.le_of_ble_eq_true rfl) ?_
  intro p9 e9 s9 m9 args below meth c9 A Q C hK hW hA hr hlocks hQ ls hl
  have hl : lv_has ls 5 [(0, .ref x), (1, .int (iI s))] := hl
  have hin11 : ∀ w ∈ wsX110, w ∈ wsX11_next := by decide +kernel
  refine lv_aload_n C.1 C.2.1 dX11_next_0 rfl (lv_at hl 0 rfl) ?_
  refine z_get C hK hW hin11 (v := .int (iI mn)) 0 rfl rfl 7 (by decide) (C.2.2.2.2 (.fieldLink RX11 101 "TellingRowsModel" "many" "I") (List.mem_of_getElem? (i := 1) rfl)) (fun _ h9 => h9) rfl dX11_next_1 ?_
  refine lv_istore_n (lv' := [(2, .int (iI mn)), (0, .ref x), (1, .int (iI s))]) C.1 C.2.1 dX11_next_4 rfl hl (by decide) rfl (fun ls hl => ?_)
  have cut_21 : ∀ (xx : Int), ((0 < mn → xx = g (mn - 1)) ∧ (mn ≤ 0 → xx = 0)) → (0 ≤ xx ∧ xx ≤ 60000) → ∀ (H : Heap) (locs : List Loc) (ls : Array Slot), Wd G A s9.heap [(x, .inr (9, [.int (iI ln), .ref a1, .int (iI pl), .ref a3, .ref a4, .int (iI ri), .int (iI ld), .int (iI mn), .ref a8, .ref a9, .int (iI nn), .ref a11, .int (iI fn), .ref a13, .int (iI lm), .ref a15, .ref a16, .ref a17, .ref a18, .ref a19, .ref a20])), (a8, .inl (G.2.1 0, 2000, .inl (iA g))), (a9, .inl (G.2.1 0, 60001, .inl (iA f))), (a16, .inl (G.2.1 0, 5000, .inl (iA h)))] H locs → lv_has ls 5 [(2, .int (iI mn)), (0, .ref x), (1, .int (iI s))] → W p9 l e9 (rmL 2) s9 m9 args below meth c9 H locs 0 0 Q (F0 m9 21 ls [.int (iI xx)]) := by
    intro xx hx hxb H locs ls hW hl
    have hx1 : s < 6 → g (mn - 1) = xx := fun q9 => (hx.1 (by omega)).symm
    refine lv_istore_n (lv' := [(3, .int (iI xx)), (2, .int (iI mn)), (0, .ref x), (1, .int (iI s))]) C.1 C.2.1 dX11_next_21 rfl hl (by decide) rfl (fun ls hl => ?_)
    refine lv_iload_n C.1 C.2.1 dX11_next_22 rfl (lv_at hl 3 rfl) ?_
    rcases (show s = 0 ∨ s = 1 ∨ s = 2 ∨ s = 3 ∨ s = 4 ∨ s = 5 ∨ (s < 0 ∨ 5 < s) by omega) with e_23 | e_23 | e_23 | e_23 | e_23 | e_23 | e_23
    ·
      rw [show (s) = 0 from e_23]
      refine z_tabIn (tgt := 60) C dX11_next_23 (by omega) (by omega) (by omega) (off := 37) (by rfl) (by decide) ?_
      refine lv_aload_n C.1 C.2.1 dX11_next_60 rfl (lv_at hl 2 rfl) ?_
      refine lv_iload_n C.1 C.2.1 dX11_next_61 rfl (lv_at hl 1 rfl) ?_
      refine lv_iload_n C.1 C.2.1 dX11_next_62 rfl (lv_at hl 0 rfl) ?_
      refine z_isub C dX11_next_63 ?_
      refine lv_iload_n C.1 C.2.1 dX11_next_64 rfl (lv_at hl 1 rfl) ?_
      refine lv_aload_n C.1 C.2.1 dX11_next_65 rfl (lv_at hl 2 rfl) ?_
      have hv2 := hV (mn - 2) (by omega) (by omega)
      refine z_get C hK hW hin11 (v := .ref a8) 0 rfl rfl 8 (by decide) (C.2.2.2.2 (.fieldLink RX11 24 "TellingRowsModel" "row" "[I") (List.mem_of_getElem? (i := 2) rfl)) (fun _ h9 => h9) rfl dX11_next_66 ?_
      refine lv_iload_n C.1 C.2.1 dX11_next_69 rfl (lv_at hl 1 rfl) ?_
      refine lv_iconst (v := iI 2) C.1 C.2.1 dX11_next_70 rfl ?_
      refine z_isub C dX11_next_71 ?_
      refine z_iald C hK hW 1 rfl (by omega) (by omega) dX11_next_72 ?_
      have hb_72 := hg (mn - 2)
      have hv2b := hV (mn - 2) (by omega) (by omega)
      refine z_isub C dX11_next_73 ?_
      refine z_callR (va_runV (As := [.int (iI (mn - xx)), .int (iI (mn - (g (mn - 2))))]) (rest := []) C (c_X11_sum l G x ln a1 pl a3 a4 ri ld mn a8 a9 nn a11 fn a13 lm a15 a16 a17 a18 a19 a20 g (mn - xx) (mn - (g (mn - 2))) (by first | omega | assumption | (intros; first | rfl | omega | assumption | (and_intros <;> first | rfl | omega | assumption))) hV hg (by first | omega | assumption | (intros; first | rfl | omega | assumption | (and_intros <;> first | rfl | omega | assumption))) (by first | omega | assumption | (intros; first | rfl | omega | assumption | (and_intros <;> first | rfl | omega | assumption))) H.size) (cwV 2 C.2.2.2.2 gX11_next_X11_sum rfl rfl rfl (by decide +kernel) ⟨Nat.le_of_ble_eq_true rfl, Nat.le_of_ble_eq_true rfl⟩) (z_preV hK hW hA [0, 1] rfl (by decide) (ci := 9) (q0 := 0) rfl rfl) rfl rfl hl.1 rfl (lv_room (Nat.le_of_ble_eq_true rfl)) dX11_next_74 ⟨Nat.zero_le _, Nat.zero_le _⟩) (fun r hp => ?_)
      have hp : ∃ z : Int, r = some (.int (iI z)) ∧ ((0 ≤ (mn - xx) ∧ (mn - xx) < mn) ∧ (0 ≤ (mn - (g (mn - 2))) ∧ (mn - (g (mn - 2))) < mn) ∧ g (mn - xx) + g (mn - (g (mn - 2))) ≤ 60000 → z = g (mn - xx) + g (mn - (g (mn - 2)))) ∧ (¬ ((0 ≤ (mn - xx) ∧ (mn - xx) < mn) ∧ (0 ≤ (mn - (g (mn - 2))) ∧ (mn - (g (mn - 2))) < mn) ∧ g (mn - xx) + g (mn - (g (mn - 2))) ≤ 60000) → z = -1) := hp
      obtain ⟨z_74, rfl, hz_74_0, hz_74_1⟩ := hp
      rw [hQ]
      have hP9 : ∃ z : Int, (some (Value.int (iI z_74))) = some (.int (iI z)) ∧ (NextR s.toNat g mn z) ∧ (-1 ≤ z ∧ z ≤ 60000) ∧ (BD h) := ⟨_, rfl, (by rw [show s.toNat = 0 by omega]; exact (by show Nx0 g mn z_74; have e1 := hx1 (by omega); have d9 : St0 g mn ↔ (0 ≤ mn - xx ∧ mn - xx < mn) ∧ (0 ≤ mn - g (mn - 2) ∧ mn - g (mn - 2) < mn) ∧ g (mn - xx) + g (mn - g (mn - 2)) ≤ 60000 := (by unfold St0; rw [e1]; exact ⟨fun q => by omega, fun q => by omega⟩); exact (Classical.em (St0 g mn)).elim (fun q9 => Or.inl ⟨q9, by rw [e1]; exact hz_74_0 (d9.mp q9)⟩) (fun q9 => Or.inr ⟨q9, hz_74_1 (fun r => q9 (d9.mpr r))⟩))), (by have hA := hz_74_0; have hB := hz_74_1; exact if q9 : (0 ≤ mn - xx ∧ mn - xx < mn) ∧ (0 ≤ mn - g (mn - 2) ∧ mn - g (mn - 2) < mn) ∧ g (mn - xx) + g (mn - g (mn - 2)) ≤ 60000 then (by have a := hA q9; have v1 := hV (mn - xx) (by omega) (by omega); have v2 := hV (mn - g (mn - 2)) (by omega) (by omega); omega) else (by have := hB q9; omega)), hh⟩
      exact z_iret C hr hlocks hW h rfl hP9 dX11_next_77
    ·
      rw [show (s) = 1 from e_23]
      refine z_tabIn (tgt := 78) C dX11_next_23 (by omega) (by omega) (by omega) (off := 55) (by rfl) (by decide) ?_
      refine lv_aload_n C.1 C.2.1 dX11_next_78 rfl (lv_at hl 2 rfl) ?_
      refine lv_iload_n C.1 C.2.1 dX11_next_79 rfl (lv_at hl 0 rfl) ?_
      refine lv_iconst (v := iI 1) C.1 C.2.1 dX11_next_80 rfl ?_
      refine z_isub C dX11_next_81 ?_
      refine lv_iload_n C.1 C.2.1 dX11_next_82 rfl (lv_at hl 1 rfl) ?_
      refine lv_iload_n C.1 C.2.1 dX11_next_83 rfl (lv_at hl 0 rfl) ?_
      refine z_isub C dX11_next_84 ?_
      refine z_callR (va_runV (As := [.int (iI (xx - 1)), .int (iI (mn - xx))]) (rest := []) C (c_X11_sum l G x ln a1 pl a3 a4 ri ld mn a8 a9 nn a11 fn a13 lm a15 a16 a17 a18 a19 a20 g (xx - 1) (mn - xx) (by first | omega | assumption | (intros; first | rfl | omega | assumption | (and_intros <;> first | rfl | omega | assumption))) hV hg (by first | omega | assumption | (intros; first | rfl | omega | assumption | (and_intros <;> first | rfl | omega | assumption))) (by first | omega | assumption | (intros; first | rfl | omega | assumption | (and_intros <;> first | rfl | omega | assumption))) H.size) (cwV 2 C.2.2.2.2 gX11_next_X11_sum rfl rfl rfl (by decide +kernel) ⟨Nat.le_of_ble_eq_true rfl, Nat.le_of_ble_eq_true rfl⟩) (z_preV hK hW hA [0, 1] rfl (by decide) (ci := 9) (q0 := 0) rfl rfl) rfl rfl hl.1 rfl (lv_room (Nat.le_of_ble_eq_true rfl)) dX11_next_85 ⟨Nat.zero_le _, Nat.zero_le _⟩) (fun r hp => ?_)
      have hp : ∃ z : Int, r = some (.int (iI z)) ∧ ((0 ≤ (xx - 1) ∧ (xx - 1) < mn) ∧ (0 ≤ (mn - xx) ∧ (mn - xx) < mn) ∧ g (xx - 1) + g (mn - xx) ≤ 60000 → z = g (xx - 1) + g (mn - xx)) ∧ (¬ ((0 ≤ (xx - 1) ∧ (xx - 1) < mn) ∧ (0 ≤ (mn - xx) ∧ (mn - xx) < mn) ∧ g (xx - 1) + g (mn - xx) ≤ 60000) → z = -1) := hp
      obtain ⟨z_85, rfl, hz_85_0, hz_85_1⟩ := hp
      rw [hQ]
      have hP9 : ∃ z : Int, (some (Value.int (iI z_85))) = some (.int (iI z)) ∧ (NextR s.toNat g mn z) ∧ (-1 ≤ z ∧ z ≤ 60000) ∧ (BD h) := ⟨_, rfl, (by rw [show s.toNat = 1 by omega]; exact (by show Nx1 g mn z_85; have e1 := hx1 (by omega); have d9 : St1 g mn ↔ (0 ≤ xx - 1 ∧ xx - 1 < mn) ∧ (0 ≤ mn - xx ∧ mn - xx < mn) ∧ g (xx - 1) + g (mn - xx) ≤ 60000 := (by unfold St1; rw [e1]; exact ⟨fun q => by omega, fun q => by omega⟩); exact (Classical.em (St1 g mn)).elim (fun q9 => Or.inl ⟨q9, by rw [e1]; exact hz_85_0 (d9.mp q9)⟩) (fun q9 => Or.inr ⟨q9, hz_85_1 (fun r => q9 (d9.mpr r))⟩))), (by have hA := hz_85_0; have hB := hz_85_1; exact if q9 : (0 ≤ xx - 1 ∧ xx - 1 < mn) ∧ (0 ≤ mn - xx ∧ mn - xx < mn) ∧ g (xx - 1) + g (mn - xx) ≤ 60000 then (by have a := hA q9; have v1 := hV (xx - 1) (by omega) (by omega); have v2 := hV (mn - xx) (by omega) (by omega); omega) else (by have := hB q9; omega)), hh⟩
      exact z_iret C hr hlocks hW h rfl hP9 dX11_next_88
    ·
      rw [show (s) = 2 from e_23]
      refine z_tabIn (tgt := 89) C dX11_next_23 (by omega) (by omega) (by omega) (off := 66) (by rfl) (by decide) ?_
      refine lv_aload_n C.1 C.2.1 dX11_next_89 rfl (lv_at hl 2 rfl) ?_
      refine z_get C hK hW hin11 (v := .ref a9) 0 rfl rfl 9 (by decide) (C.2.2.2.2 (.fieldLink RX11 28 "TellingRowsModel" "seen" "[I") (List.mem_of_getElem? (i := 3) rfl)) (fun _ h9 => h9) rfl dX11_next_90 ?_
      refine lv_iload_n C.1 C.2.1 dX11_next_93 rfl (lv_at hl 0 rfl) ?_
      refine z_iald C hK hW 2 rfl (by omega) (by omega) dX11_next_94 ?_
      have hb_94 := hf xx
      have hlb := lo_b (g := g) (v := xx) (m := mn - 1) (by omega)
      have hfl := hm.1 (by omega) xx hxb.1 hxb.2
      refine z_if_ne (tgt := 102) C dX11_next_95 (by decide) (by omega) (fun c_95 => ?_) (fun c_95 => ?_)
      ·
        refine lv_iload_n C.1 C.2.1 dX11_next_102 rfl (lv_at hl 1 rfl) ?_
        refine lv_aload_n C.1 C.2.1 dX11_next_103 rfl (lv_at hl 2 rfl) ?_
        refine z_get C hK hW hin11 (v := .ref a9) 0 rfl rfl 9 (by decide) (C.2.2.2.2 (.fieldLink RX11 28 "TellingRowsModel" "seen" "[I") (List.mem_of_getElem? (i := 3) rfl)) (fun _ h9 => h9) rfl dX11_next_104 ?_
        refine lv_iload_n C.1 C.2.1 dX11_next_107 rfl (lv_at hl 0 rfl) ?_
        refine z_iald C hK hW 2 rfl (by omega) (by omega) dX11_next_108 ?_
        have hb_108 := hf xx
        refine z_isub C dX11_next_109 ?_
        rw [hQ]
        have hP9 : ∃ z : Int, (some (Value.int (iI (mn - (f xx))))) = some (.int (iI z)) ∧ (NextR s.toNat g mn z) ∧ (-1 ≤ z ∧ z ≤ 60000) ∧ (BD h) := ⟨_, rfl, (by rw [show s.toNat = 2 by omega]; exact (by show Nx2 g mn _; unfold Nx2; rw [hx1 (by omega), ← hfl]; first | rw [if_pos c_95] | rw [if_neg c_95])), (by first | omega | assumption | (intros; first | rfl | omega | assumption | (and_intros <;> first | rfl | omega | assumption))), hh⟩
        exact z_iret C hr hlocks hW h rfl hP9 dX11_next_110
      ·
        refine lv_iconst (v := iI 0) C.1 C.2.1 dX11_next_98 rfl ?_
        refine lv_goto (tgt := 110) C.1 C.2.1 dX11_next_99 (by decide) ?_
        rw [hQ]
        have hP9 : ∃ z : Int, (some (Value.int (iI 0))) = some (.int (iI z)) ∧ (NextR s.toNat g mn z) ∧ (-1 ≤ z ∧ z ≤ 60000) ∧ (BD h) := ⟨_, rfl, (by rw [show s.toNat = 2 by omega]; exact (by show Nx2 g mn _; unfold Nx2; rw [hx1 (by omega), ← hfl]; first | rw [if_pos c_95] | rw [if_neg c_95])), (by first | omega | assumption | (intros; first | rfl | omega | assumption | (and_intros <;> first | rfl | omega | assumption))), hh⟩
        exact z_iret C hr hlocks hW h rfl hP9 dX11_next_110
    ·
      rw [show (s) = 3 from e_23]
      refine z_tabIn (tgt := 111) C dX11_next_23 (by omega) (by omega) (by omega) (off := 88) (by rfl) (by decide) ?_
      refine lv_aload_n C.1 C.2.1 dX11_next_111 rfl (lv_at hl 2 rfl) ?_
      refine lv_iload_n C.1 C.2.1 dX11_next_112 rfl (lv_at hl 1 rfl) ?_
      refine z_callR (va_runV (As := [.int (iI mn)]) (rest := []) C (c_X11_again l G x ln a1 pl a3 a4 ri ld mn a8 a9 nn a11 fn a13 lm a15 a16 a17 a18 a19 a20 g mn (by first | omega | assumption | (intros; first | rfl | omega | assumption | (and_intros <;> first | rfl | omega | assumption))) hg H.size) (cwV 1 C.2.2.2.2 gX11_next_X11_again rfl rfl rfl (by decide +kernel) ⟨Nat.le_of_ble_eq_true rfl, Nat.le_of_ble_eq_true rfl⟩) (z_preV hK hW hA [0, 1] rfl (by decide) (ci := 9) (q0 := 0) rfl rfl) rfl rfl hl.1 rfl (lv_room (Nat.le_of_ble_eq_true rfl)) dX11_next_113 ⟨Nat.zero_le _, Nat.zero_le _⟩) (fun r hp => ?_)
      have hp : ∃ z : Int, r = some (.int (iI z)) ∧ (z = ag g mn 999) ∧ (1 ≤ z ∧ z ≤ 2000) := hp
      obtain ⟨z_113, rfl, hz_113_0, hz_113_1⟩ := hp
      rw [hQ]
      have hP9 : ∃ z : Int, (some (Value.int (iI z_113))) = some (.int (iI z)) ∧ (NextR s.toNat g mn z) ∧ (-1 ≤ z ∧ z ≤ 60000) ∧ (BD h) := ⟨_, rfl, (by rw [show s.toNat = 3 by omega]; exact hz_113_0), (by first | omega | assumption | (intros; first | rfl | omega | assumption | (and_intros <;> first | rfl | omega | assumption))), hh⟩
      exact z_iret C hr hlocks hW h rfl hP9 dX11_next_116
    ·
      rw [show (s) = 4 from e_23]
      refine z_tabIn (tgt := 117) C dX11_next_23 (by omega) (by omega) (by omega) (off := 94) (by rfl) (by decide) ?_
      refine lv_iload_n C.1 C.2.1 dX11_next_117 rfl (lv_at hl 0 rfl) ?_
      refine lv_iconst (v := iI 1) C.1 C.2.1 dX11_next_118 rfl ?_
      refine z_iadd C dX11_next_119 ?_
      refine lv_istore (lv' := [(4, .int (iI (xx + 1))), (3, .int (iI xx)), (2, .int (iI mn)), (0, .ref x), (1, .int (iI s))]) C.1 C.2.1 dX11_next_120 hl (by decide) rfl (fun ls hl => ?_)
      have cut_122 : ∀ (n9 : Nat) (w : Int), (xx < w ∧ w ≤ 60001) → (∀ y, xx < y → y < w → pc g y mn ≠ 1) → (60001 - w < (n9 : Int)) → ∀ (H : Heap) (locs : List Loc) (ls : Array Slot), Wd G A s9.heap [(x, .inr (9, [.int (iI ln), .ref a1, .int (iI pl), .ref a3, .ref a4, .int (iI ri), .int (iI ld), .int (iI mn), .ref a8, .ref a9, .int (iI nn), .ref a11, .int (iI fn), .ref a13, .int (iI lm), .ref a15, .ref a16, .ref a17, .ref a18, .ref a19, .ref a20])), (a8, .inl (G.2.1 0, 2000, .inl (iA g))), (a9, .inl (G.2.1 0, 60001, .inl (iA f))), (a16, .inl (G.2.1 0, 5000, .inl (iA h)))] H locs → lv_has ls 5 [(4, .int (iI w)), (3, .int (iI xx)), (2, .int (iI mn)), (0, .ref x), (1, .int (iI s))] → W p9 l e9 (rmL 2) s9 m9 args below meth c9 H locs 0 0 Q (F0 m9 122 ls []) := by
        intro n9
        induction n9 with
        | zero => intro w hw hno hmu; intros; exfalso; omega
        | succ n9 ih_122 =>
          intro w hw hno hmu H locs ls hW hl
          refine lv_iload C.1 C.2.1 dX11_next_122 (lv_at hl 0 rfl) ?_
          refine z_ldc (z := 60000) C (C.2.2.2.2 (.constant RX11 104 (60000)) (List.mem_of_getElem? (i := 4) rfl)) (by decide +kernel) dX11_next_124 ?_
          refine z_icmp_gt (tgt := 149) C dX11_next_126 (by decide) (by omega) (fun c_126 => ?_) (fun c_126 => ?_)
          ·
            refine lv_iconst (v := iI (-1)) C.1 C.2.1 dX11_next_149 rfl ?_
            rw [hQ]
            have hP9 : ∃ z : Int, (some (Value.int (iI (-1)))) = some (.int (iI z)) ∧ (NextR s.toNat g mn z) ∧ (-1 ≤ z ∧ z ≤ 60000) ∧ (BD h) := ⟨_, rfl, (by rw [show s.toNat = 4 by omega]; exact (by show Nx4 g mn (-1); unfold Nx4; rw [hx1 (by omega)]; exact Or.inr ⟨rfl, fun y y0 y1 => hno y y0 (by omega)⟩)), (by first | omega | assumption | (intros; first | rfl | omega | assumption | (and_intros <;> first | rfl | omega | assumption))), hh⟩
            exact z_iret C hr hlocks hW h rfl hP9 dX11_next_150
          ·
            refine lv_aload_n C.1 C.2.1 dX11_next_129 rfl (lv_at hl 3 rfl) ?_
            refine z_get C hK hW hin11 (v := .ref a9) 0 rfl rfl 9 (by decide) (C.2.2.2.2 (.fieldLink RX11 28 "TellingRowsModel" "seen" "[I") (List.mem_of_getElem? (i := 3) rfl)) (fun _ h9 => h9) rfl dX11_next_130 ?_
            refine lv_iload C.1 C.2.1 dX11_next_133 (lv_at hl 0 rfl) ?_
            refine z_iald C hK hW 2 rfl (by omega) (by omega) dX11_next_135 ?_
            have hb_135 := hf w
            refine lv_iconst (v := iI 1) C.1 C.2.1 dX11_next_136 rfl ?_
            refine z_icmp_ne (tgt := 143) C dX11_next_137 (by decide) (by omega) (fun c_137 => ?_) (fun c_137 => ?_)
            ·
              refine lv_iinc (v := iI (w + 1)) (lv' := [(4, .int (iI (w + 1))), (3, .int (iI xx)), (2, .int (iI mn)), (0, .ref x), (1, .int (iI s))]) C.1 C.2.1 dX11_next_143 hl (k := 0) rfl (iI_add _ _) (by decide) rfl (fun ls hl => ?_)
              refine lv_goto (tgt := 122) C.1 C.2.1 dX11_next_146 (by decide) ?_
              exact ih_122 (w + 1) (by first | omega | assumption | (intros; first | rfl | omega | assumption | (and_intros <;> first | rfl | omega | assumption))) (fun y y0 y1 => (Int.lt_or_le y w).elim (fun q => hno y y0 q) (fun q => by rw [show y = w by omega, ← hm.2.1 (by omega) w (by omega) (by omega)]; exact c_137)) (by omega) _ _ _ hW (lv_sub hl [0, 1, 2, 3, 4] rfl)
            ·
              refine lv_iload C.1 C.2.1 dX11_next_140 (lv_at hl 0 rfl) ?_
              rw [hQ]
              have hP9 : ∃ z : Int, (some (Value.int (iI w))) = some (.int (iI z)) ∧ (NextR s.toNat g mn z) ∧ (-1 ≤ z ∧ z ≤ 60000) ∧ (BD h) := ⟨_, rfl, (by rw [show s.toNat = 4 by omega]; exact (by show Nx4 g mn w; unfold Nx4; rw [hx1 (by omega)]; exact Or.inl ⟨by omega, by omega, by rw [← hm.2.1 (by omega) w (by omega) (by omega)]; omega, hno⟩)), (by first | omega | assumption | (intros; first | rfl | omega | assumption | (and_intros <;> first | rfl | omega | assumption))), hh⟩
              exact z_iret C hr hlocks hW h rfl hP9 dX11_next_142
      exact cut_122 (((60001 - (xx + 1)) + 1 : Int)).toNat (xx + 1) (by first | omega | assumption | (intros; first | rfl | omega | assumption | (and_intros <;> first | rfl | omega | assumption))) (fun y y0 y1 => by omega) (by omega) _ _ _ hW (lv_sub hl [0, 1, 2, 3, 4] rfl)
    ·
      rw [show (s) = 5 from e_23]
      refine z_tabIn (tgt := 151) C dX11_next_23 (by omega) (by omega) (by omega) (off := 128) (by rfl) (by decide) ?_
      refine lv_aload_n C.1 C.2.1 dX11_next_151 rfl (lv_at hl 2 rfl) ?_
      refine z_get C hK hW hin11 (v := .ref a9) 0 rfl rfl 9 (by decide) (C.2.2.2.2 (.fieldLink RX11 28 "TellingRowsModel" "seen" "[I") (List.mem_of_getElem? (i := 3) rfl)) (fun _ h9 => h9) rfl dX11_next_152 ?_
      refine lv_iload_n C.1 C.2.1 dX11_next_155 rfl (lv_at hl 0 rfl) ?_
      refine z_iald C hK hW 2 rfl (by omega) (by omega) dX11_next_156 ?_
      have hb_156 := hf xx
      have hlo := oc_b (g := g) (v := xx) (n := mn) (by omega)
      have hfo := hm.2.2 (by omega) xx hxb.1 hxb.2
      rw [hQ]
      have hP9 : ∃ z : Int, (some (Value.int (iI (f xx)))) = some (.int (iI z)) ∧ (NextR s.toNat g mn z) ∧ (-1 ≤ z ∧ z ≤ 60000) ∧ (BD h) := ⟨_, rfl, (by rw [show s.toNat = 5 by omega]; exact (by show Nx5 g mn _; unfold Nx5; rw [hx1 (by omega)]; exact hfo)), (by first | omega | assumption | (intros; first | rfl | omega | assumption | (and_intros <;> first | rfl | omega | assumption))), hh⟩
      exact z_iret C hr hlocks hW h rfl hP9 dX11_next_157
    ·
      refine z_tabOut (tgt := 158) C dX11_next_23 (by omega) e_23 (by decide) ?_
      refine lv_aload_n C.1 C.2.1 dX11_next_158 rfl (lv_at hl 2 rfl) ?_
      refine lv_iload_n C.1 C.2.1 dX11_next_159 rfl (lv_at hl 1 rfl) ?_
      refine z_call (va_runV (As := [.int (iI mn)]) (rest := []) C (c_X11_free l G x ln a1 pl a3 a4 ri ld mn a8 a9 nn a11 fn a13 lm a15 a16 a17 a18 a19 a20 g h mn hmn hV hg hh H.size) (cwV 1 C.2.2.2.2 gX11_next_X11_free rfl rfl rfl (by decide +kernel) ⟨Nat.le_of_ble_eq_true rfl, Nat.le_of_ble_eq_true rfl⟩) (z_preV hK hW hA [0, 1, 3] rfl (by decide) (ci := 9) (q0 := 0) rfl rfl) rfl rfl hl.1 rfl (lv_room (Nat.le_of_ble_eq_true rfl)) dX11_next_160 ⟨Nat.zero_le _, Nat.zero_le _⟩) hW hA [0, 1, 3] rfl (by decide) (fun _ => rfl) (fun r u H locs hp hW => ?_)
      obtain ⟨h2_160, rfl⟩ : ∃ q9, q9 = u := ⟨_, rfl⟩
      have hp : ∃ z : Int, r = some (.int (iI z)) ∧ (Nx6 g mn z) ∧ (BD h2_160) := hp
      obtain ⟨z_160, rfl, hz_160_0, hz_160_1⟩ := hp
      have hW : Wd G A s9.heap [(x, .inr (9, [.int (iI ln), .ref a1, .int (iI pl), .ref a3, .ref a4, .int (iI ri), .int (iI ld), .int (iI mn), .ref a8, .ref a9, .int (iI nn), .ref a11, .int (iI fn), .ref a13, .int (iI lm), .ref a15, .ref a16, .ref a17, .ref a18, .ref a19, .ref a20])), (a8, .inl (G.2.1 0, 2000, .inl (iA g))), (a9, .inl (G.2.1 0, 60001, .inl (iA f))), (a16, .inl (G.2.1 0, 5000, .inl (iA h2_160)))] H locs := hW
      rw [hQ]
      have hP9 : ∃ z : Int, (some (Value.int (iI z_160))) = some (.int (iI z)) ∧ (NextR s.toNat g mn z) ∧ (-1 ≤ z ∧ z ≤ 60000) ∧ (BD h2_160) := ⟨_, rfl, (by rw [show s.toNat = 6 by omega]; exact hz_160_0), (by have := hz_160_0.1; have := hz_160_0.2.1; omega), hz_160_1⟩
      exact z_iret C hr hlocks hW h2_160 rfl hP9 dX11_next_163
  refine lv_iload_n C.1 C.2.1 dX11_next_5 rfl (lv_at hl 0 rfl) ?_
  refine z_if_le (tgt := 20) C dX11_next_6 (by decide) (by omega) (fun c_6 => ?_) (fun c_6 => ?_)
  ·
    refine lv_iconst (v := iI 0) C.1 C.2.1 dX11_next_20 rfl ?_
    exact cut_21 0 ⟨fun q9 => by first | rfl | omega, fun q9 => by first | rfl | omega⟩ (by first | omega | assumption | (intros; first | rfl | omega | assumption | (and_intros <;> first | rfl | omega | assumption))) _ _ _ hW (lv_sub hl [0, 1, 2] rfl)
  ·
    have hv1 := hV (mn - 1) (by omega) (by omega)
    refine lv_aload_n C.1 C.2.1 dX11_next_9 rfl (lv_at hl 1 rfl) ?_
    refine z_get C hK hW hin11 (v := .ref a8) 0 rfl rfl 8 (by decide) (C.2.2.2.2 (.fieldLink RX11 24 "TellingRowsModel" "row" "[I") (List.mem_of_getElem? (i := 2) rfl)) (fun _ h9 => h9) rfl dX11_next_10 ?_
    refine lv_iload_n C.1 C.2.1 dX11_next_13 rfl (lv_at hl 0 rfl) ?_
    refine lv_iconst (v := iI 1) C.1 C.2.1 dX11_next_14 rfl ?_
    refine z_isub C dX11_next_15 ?_
    refine z_iald C hK hW 1 rfl (by omega) (by omega) dX11_next_16 ?_
    have hb_16 := hg (mn - 1)
    refine lv_goto (tgt := 21) C.1 C.2.1 dX11_next_17 (by decide) ?_
    exact cut_21 (g (mn - 1)) ⟨fun q9 => by first | rfl | omega, fun q9 => by first | rfl | omega⟩ (by first | omega | assumption | (intros; first | rfl | omega | assumption | (and_intros <;> first | rfl | omega | assumption))) _ _ _ hW (lv_sub hl [0, 1, 2] rfl)
